/-! ===== the law's own methods: calls with handlers ===== -/
def xMetH (l : Launch) (X : Nat × (Nat → Int32)) (y : MethodName) (cc : ByteArray) (maxL : Nat) (ret : Option FieldType) (hh : List (Nat × Nat × Nat × Nat)) (lev κ : Nat) (f : XS) : Prop :=
  ∀ (G : XG) (as : List XV) (σ : XH) (r : XR) (σ' : XH), xAP G → xsok as → f as σ = some (r, σ') →
    vx_Met l y [.codeWith y cc maxL ret hh] (xRm lev κ) (xPc0 G X as σ) (fun _ => xQR G σ' r) (xXR G σ' r) κ (6 * κ) (xA G)
theorem xCS_SH {l : Launch} {X : Nat × (Nat → Int32)} {own : String} {lev lev' i n κ' maxL : Nat} {y : MethodName} {cy : ByteArray} {ret : Option FieldType} {hh : List (Nat × Nat × Nat × Nat)} {f : XS} (hM : xMetH l X y cy maxL ret hh lev' κ' f)
    (hw : ∀ w ∈ va_wsS own i y [.codeWith y cy maxL ret hh], w ∈ xW) (hd : y.cls ≠ "java/lang/invoke/MethodHandle" ∧ y.cls ≠ "java/lang/invoke/VarHandle" ∧ (parseMethodDescriptor y.desc).map (fun d => d.parameters.length) = some n) (hl : lev' + 1 ≤ lev) (hm : maxL ≤ 18) : xCS l X own lev (2 * i + 1) n κ' f := by
  intro p e R s m args below meth c H locs cells slots cc pc ls G nL σ σ' r as rest C0 hR hS hfr hlo hce hsl hsz hlen hok hws hfa hdg
  obtain ⟨hx, hb, hown, hml, hlocks, hK, hts, hST, hA⟩ := id C0
  rw [xCI_S] at hdg
  have hG : GoodIn xW (va_wsS own i y [.codeWith y cy maxL ret hh]) := fun w h => ⟨hw w h, xW_good (hw w h)⟩
  have hcw := vx_cwSW (R := R) (s := s) (args := args) (mc := κ') (ms := 6 * κ') (rm := xRm lev' κ') n hts hG rfl rfl rfl hd ⟨by show lev' + 1 ≤ R.frames; omega, by show 8 + (maxL + 11) + 37 * lev' ≤ R.locals; omega⟩
  exact vx_runSX (As := as.map (xcv G)) (rest := rest.map (xcv G)) (g := F0 m pc ls ((as.reverse ++ rest).map (xcv G))) (below := below) (e := e) (cells := cells) (slots := slots) (locs := locs) (H := H) (meth := meth) ⟨hx, hb, hml, hown, hts⟩ (hM G as σ r σ' hA hok hfa) hcw
    ⟨xPc0_blind _ _ _ _, xPc0_pre C0 hR hS⟩ rfl (by rw [List.length_map]; exact hlen) hsz (by simp) (lv_room (by rw [xws_cat]; exact hws)) hdg ⟨hce, hsl⟩
def xHdL : List (Nat × Nat × Nat) → Nat → Option (Option (Nat × Nat))
  | [], _ => none
  | q :: r, E => match Nat.beq q.1 E with
    | true => some (some q.2)
    | false => xHdL r E
def xHd (to : Nat) (rows : List (Nat × Nat × Nat)) : Nat → Nat → Option (Option (Nat × Nat)) := fun pc E => match Nat.blt pc to with
  | true => xHdL rows E
  | false => none
theorem xHdL_no : ∀ (rows : List (Nat × Nat × Nat)) (E : Nat), xHdL rows E ≠ some none
  | [], _ => fun h => by cases h
  | q :: r, E => by
    unfold xHdL
    split
    · exact fun h => by cases h
    · exact xHdL_no r E
/-- the claim on a handler -/
abbrev xCatOK (G : XG) (p : Program) (l : Launch) (e : Env) (R : Room) (s : State) (m : MethodId) (args : Array Value) (below : List Frame) (meth : Method) (c : Code) (nL pc E t i : Nat) : Prop :=
  ∀ (H : Heap) (locs : List Loc) (ls : Array Slot) (cells slots : Nat) (lv : XL) (q : Addr) (ce : Cell) (rest : List Value) (Q : State → Prop), lv_has ls nL (xcl G lv) → H[q]? = some ce → ce.vm = .none → s.vm.findClass (xXN E) = some ce.cls →
    (∀ ls', lv_has ls' nL (xcl G (lv.filter (xk1 i))) → W p l e R s m args below meth c H locs cells slots Q (F0 m t ls' [])) → vx_W p l e R s m args below meth c H locs cells slots Q (F0 m pc ls rest) q
theorem xCat {G : XG} {X : Nat × (Nat → Int32)} {p : Program} {l : Launch} {e : Env} {R : Room} {s : State} {m : MethodId} {args : Array Value} {below : List Frame} {meth : Method} {c : Code} {cc : ByteArray} {nL pc E t i : Nat} {hh : List (Nat × Nat × Nat × Nat)}
    (C0 : xCtx G X p s m args meth c cc RL nL) (hT : c.exceptionTable.toList = tableOf hh) (pre suf : List (Nat × Nat × Nat × Nat)) {fr to hp ct : Nat} (hs : hh = pre ++ (fr, to, hp, ct) :: suf) (hpc : fr ≤ pc ∧ pc < to) (hct : ct ≠ 0) (hlink : Jvm.Cond.classLink RL ct (xXN E) ∈ xW) (hcast : Jvm.Cond.castable (xXN E) (xXN E) ∈ xTW)
    (hpass : ∀ z ∈ pre, z.2.2.2 ≠ 0 ∧ ∃ nm : String, Jvm.Cond.classLink RL z.2.2.2 nm ∈ xW ∧ va_Nc (xXN E) nm s) (hi : i < nL) (hst : (decode cc hp = .ok (.astore i, 2) ∧ t = hp + 2) ∨ ∃ q : Fin 4, (q : Nat) = i ∧ decode cc hp = .ok (.astore_n q, 1) ∧ t = hp + 1) : xCatOK G p l e R s m args below meth c nL pc E t i := by
  obtain ⟨hx, hb, hown, hml, hlocks, hWK, hts, hST, hA⟩ := C0
  intro H locs ls cells slots lv q ce rest Q hl hq hv hcl kk
  refine vx_catch hown (tableOf pre) ⟨fr, to, hp, ct⟩ (tableOf suf) (by rw [hT, hs]; simp [tableOf]) (fun z hz => ?_) (by simp [covers, hpc.1, hpc.2]) hct (hts _ hlink) (va_tabs rfl rfl (hWK.2.2.2.1 _ hcast)) hq hv hcl ?_
  · obtain ⟨z0, hz0, rfl⟩ := List.mem_map.mp hz
    obtain ⟨g1, nm, g2, g3⟩ := hpass z0 hz0
    exact Or.inr ⟨g1, nm, hts _ g2, g3⟩
  · have hsub : ∀ ls', lv_has ls' nL ((i, Value.ref q) :: xcl G (lv.filter (xk1 i))) → lv_has ls' nL (xcl G (lv.filter (xk1 i))) := fun ls' h => ⟨h.1, h.2.1, fun z hz => h.2.2 z (List.mem_cons_of_mem _ hz)⟩
    rcases hst with ⟨hd, rfl⟩ | ⟨n, hn, hd, rfl⟩
    · exact lv_astore (lv' := (i, Value.ref q) :: xcl G (lv.filter (xk1 i))) hx hb hd hl hi (by rw [xcl_f1]) (fun ls' h => kk ls' (hsub ls' h))
    · exact lv_astore_n (lv' := (i, Value.ref q) :: xcl G (lv.filter (xk1 i))) hx hb hd hn hl hi (by rw [xcl_f1]) (fun ls' h => kk ls' (hsub ls' h))
theorem xMetH_of {l : Launch} {X : Nat × (Nat → Int32)} {y : MethodName} {cc : ByteArray} {maxL : Nat} {ret : Option FieldType} {hh : List (Nat × Nat × Nat × Nat)} {lev κ : Nat} {f : XS} {WL : List Jvm.Cond} {cl : XC} {rt to : Nat} {rows : List (Nat × Nat × Nat)} {stops : List (Nat × List Nat)} {tbl : List XE}
    (hy : plainName y.cls = true) (hlv : 1 ≤ lev) (htbl : xTblOK y.cls cc WL maxL tbl = true) (hWL : ∀ w ∈ WL, w ∈ xW) (hret : xRO rt ret) (hcl : ∀ a n κ' f, cl a = some (n, κ', f) → xCS l X y.cls lev a n κ' f)
    (hcw : Jvm.Cond.codeWith y cc maxL ret hh ∈ xW) (hnew : tbl.all (fun e => !xIsNew e) = true)
    (hcat : ∀ {G : XG} {p : Program} {e : Env} {R : Room} {s : State} {m : MethodId} {args : Array Value} {below : List Frame} {meth : Method} {c : Code}, xCtx G X p s m args meth c cc y.cls maxL → c.exceptionTable.toList = tableOf hh → ∀ pc E t i, xHd to rows pc E = some (some (t, i)) → xCatOK G p l e R s m args below meth c maxL pc E t i)
    (hlen : ∀ as σ q, f as σ = some q → xws as ≤ maxL) (hf : ∀ as σ r σ', f as σ = some (r, σ') → ∃ n, xIter X cl (xHd to rows) rt stops tbl n (0, xargs 0 as, σ, κ) = some (r, σ')) : xMetH l X y cc maxL ret hh lev κ f := by
  intro G as σ r σ' hA hok hfa
  refine vx_ofWH (cc := cc) (maxL := maxL) (ret := ret) (hh := hh) (ws' := []) hy rfl ?_
  intro p e s m args below meth c s₁ B hml hv
  obtain ⟨hargs, hWK, hST, hR⟩ := hv
  have hx := B.exec
  have hb := B.bytes
  have hr := B.returns
  have hown : s.vm.findClass y.cls = some m.cls := findClass_of_methodNamed B.named
  have hlocks := B.notSynchronized
  have hts : ∀ w ∈ xW, w.before args s = true := fun w hw => word_at (State.WarmedH.refl s) (xW_good hw) (hWK.2.1 w hw)
  have hT := vx_table (x := y) B (hts _ hcw)
  have C0 : xCtx G X p s m args meth c cc y.cls maxL := ⟨hx, hb, hown, hml, hlocks, hWK, hts, hST, hA⟩
  have hrt : xRT rt meth := by
    match rt, hret with
    | 0, h => exact hr.trans h
    | 1, h => exact hr.trans h
    | 2, h => exact hr.trans h
    | 3, ⟨n, h⟩ => exact ⟨n, hr.trans h⟩
    | n + 4, h => exact hr.trans h
  have hnone : ∀ pc E, xHd to rows pc E ≠ some none := fun pc E => by
    unfold xHd
    split
    · exact xHdL_no rows E
    · exact fun h => by cases h
  have F : xFix G X p l e (xRm lev κ) s m args below meth c cc y.cls maxL lev κ WL cl (xHd to rows) rt := ⟨C0, ⟨Nat.le_refl _, Nat.le_refl _, Nat.le_refl _, Nat.le_refl _⟩, hWL, hrt, hcl, fun pc E h => absurd h (hnone pc E), fun pc E t i h => hcat C0 hT pc E t i h⟩
  obtain ⟨n, hn⟩ := hf as σ r σ' hfa
  have hgo := xIter_sound (e := e) (R := xRm lev κ) (below := below) F hlv htbl (fun en hen hi => xNoNew (P := fun en => xNewOK G p l e (xRm lev κ) s m args below meth c κ maxL en) hnew en hen hi hi) n 0 _ σ κ r σ' hn
  have hl := lv_entry (as.map (xcv G)) (n := maxL) (by rw [xsl_len]; exact hlen _ _ _ hfa)
  rw [xargs_eq] at hl
  subst hargs
  rw [lg_entry_eq]
  exact hgo (xlok_args hok 0) (fun v hv => by cases hv) s.heap [] _ 0 0 hR va_S.rf hl (by omega) (by omega)
/-! ===== wrappers (written by wip/whole/gen/lawgen.py) ===== -/
def tL_setRange : List XE := [(0, .aload 5, 2, 0, 0, []), (2, .iconst 0, 1, 0, 0, []), (3, .aload_n 0, 1, 0, 0, []), (4, .iload_n 1, 1, 0, 0, []), (5, .iload_n 2, 1, 0, 0, []), (6, .iload_n 3, 1, 0, 0, []), (7, .iload 4, 2, 0, 0, []), (9, .invokevirtual 7, 3, 14, 0, []), (12, .i2l, 1, 0, 0, []), (13, .lastore, 1, 0, 0, []), (14, .goto 11, 3, 25, 0, []), (17, .astore 6, 2, 0, 0, []), (19, .iconst 1, 1, 0, 0, []), (20, .ireturn, 1, 0, 0, []), (21, .astore 6, 2, 0, 0, []), (23, .iconst 2, 1, 0, 0, []), (24, .ireturn, 1, 0, 0, []), (25, .iconst 0, 1, 0, 0, []), (26, .ireturn, 1, 0, 0, [])]
theorem tL_setRange_ok : xTblOK RL cL_setRange ([] : List Jvm.Cond) 7 tL_setRange = true := by decide +kernel
abbrev nL_setRange (X : Nat × (Nat → Int32)) : List (Nat × Nat × Nat × XS) := [(14, 5, 2, fX7_setRange X)]
def fL_setRange (X : Nat × (Nat → Int32)) : XS := fun as σ => match as with
  | [.inr (.inr (some (6, a0))), .inl a1, .inl a2, .inl a3, .inl a4, .inr (.inr (some (10, a5)))] => xIter X (xEnv (nL_setRange X)) (xHd 14 [(0, 19, 6), (1, 23, 6)]) 0 [] tL_setRange 2 (0, [(0, .inr (.inr (some (6, a0)))), (1, .inl a1), (2, .inl a2), (3, .inl a3), (4, .inl a4), (5, .inr (.inr (some (10, a5))))], σ, 2)
  | _ => none
theorem hL_setRange {G : XG} {X : Nat × (Nat → Int32)} {p : Program} {l : Launch} {e : Env} {R : Room} {s : State} {m : MethodId} {args : Array Value} {below : List Frame} {meth : Method} {c : Code} (C0 : xCtx G X p s m args meth c cL_setRange RL 7) (hT : c.exceptionTable.toList = tableOf [(0, 14, 17, 13), (0, 14, 21, 15)]) : ∀ pc E t i, xHd 14 [(0, 19, 6), (1, 23, 6)] pc E = some (some (t, i)) → xCatOK G p l e R s m args below meth c 7 pc E t i := by
  intro pc E t i h
  unfold xHd at h
  split at h
  · rename_i hpc
    have hpc := Nat.le_of_ble_eq_true hpc
    simp only [xHdL] at h
    split at h
    · have hE := Nat.eq_of_beq_eq_true (by assumption : Nat.beq 0 E = true)
      subst hE
      cases h
      exact xCat C0 hT [] [(0, 14, 21, 15)] (fr := 0) (to := 14) (hp := 17) (ct := 13) rfl ⟨Nat.zero_le _, hpc⟩ (by decide) (xPk_in [604] (ws := [.classLink RL 13 (xXN 0)]) (by decide +kernel) (by decide +kernel) _ List.mem_cons_self) (by decide +kernel) (fun z hz => absurd hz List.not_mem_nil) (by decide) (Or.inl ⟨by decide +kernel, rfl⟩)
    · split at h
      · have hE := Nat.eq_of_beq_eq_true (by assumption : Nat.beq 1 E = true)
        subst hE
        cases h
        exact xCat C0 hT [(0, 14, 17, 13)] [] (fr := 0) (to := 14) (hp := 21) (ct := 15) rfl ⟨Nat.zero_le _, hpc⟩ (by decide) (xPk_in [605] (ws := [.classLink RL 15 (xXN 1)]) (by decide +kernel) (by decide +kernel) _ List.mem_cons_self) (by decide +kernel) (fun z hz => by
        rw [List.mem_singleton.mp hz]
        exact ⟨by decide, "java/lang/IndexOutOfBoundsException", xPk_in [604] (ws := [.classLink RL 13 "java/lang/IndexOutOfBoundsException"]) (by decide +kernel) (by decide +kernel) _ List.mem_cons_self, C0.2.2.2.2.2.1.2.2.2.2.2.1⟩) (by decide) (Or.inl ⟨by decide +kernel, rfl⟩)
      · cases h
  · cases h
theorem mL_setRange (l : Launch) (X : Nat × (Nat → Int32)) (hl : l.stackTraces = false) : xMetH l X yL_setRange cL_setRange 7 (some .int) [(0, 14, 17, 13), (0, 14, 21, 15)] 8 2 (fL_setRange X) :=
  xMetH_of (cl := xEnv (nL_setRange X)) (rt := 0) (to := 14) (rows := [(0, 19, 6), (1, 23, 6)]) (stops := []) (tbl := tL_setRange) (by decide +kernel) (by decide) tL_setRange_ok (fun _ h => absurd h List.not_mem_nil) rfl (xEnv_ok (L := nL_setRange X) (List.forall_mem_cons.mpr ⟨xCS_V (i := 7) (n := 4) (C := RX7) (k := 6) (mX7_setRange l X hl) (xPk_in [606, 607, 608, 59, 609] (by decide +kernel) (by decide +kernel)) (by decide +kernel) (by decide) rfl (by decide) (by decide) (rX7_setRange X), (fun _ h => absurd h List.not_mem_nil)⟩)) (xPk_in [603] (ws := [.codeWith yL_setRange cL_setRange 7 (some .int) [(0, 14, 17, 13), (0, 14, 21, 15)]]) (by decide +kernel) (by decide +kernel) _ List.mem_cons_self) (by decide +kernel) (fun C0 hT => hL_setRange C0 hT)
    (fun as σ q h => by
      unfold fL_setRange at h
      split at h
      · exact Nat.le_of_ble_eq_true rfl
      · cases h)
    (fun as σ r σ' h => by
      unfold fL_setRange at h
      split at h
      · exact ⟨2, h⟩
      · cases h)
def tL_setValve : List XE := [(0, .aload 4, 2, 0, 0, []), (2, .iconst 0, 1, 0, 0, []), (3, .aload_n 0, 1, 0, 0, []), (4, .iload_n 1, 1, 0, 0, []), (5, .iload_n 2, 1, 0, 0, []), (6, .iload_n 3, 1, 0, 0, []), (7, .invokevirtual 17, 3, 34, 0, []), (10, .i2l, 1, 0, 0, []), (11, .lastore, 1, 0, 0, []), (12, .goto 11, 3, 23, 0, []), (15, .astore 5, 2, 0, 0, []), (17, .iconst 1, 1, 0, 0, []), (18, .ireturn, 1, 0, 0, []), (19, .astore 5, 2, 0, 0, []), (21, .iconst 2, 1, 0, 0, []), (22, .ireturn, 1, 0, 0, []), (23, .iconst 0, 1, 0, 0, []), (24, .ireturn, 1, 0, 0, [])]
theorem tL_setValve_ok : xTblOK RL cL_setValve ([] : List Jvm.Cond) 6 tL_setValve = true := by decide +kernel
abbrev nL_setValve (X : Nat × (Nat → Int32)) : List (Nat × Nat × Nat × XS) := [(34, 4, 2, fX7_setValve X)]
def fL_setValve (X : Nat × (Nat → Int32)) : XS := fun as σ => match as with
  | [.inr (.inr (some (6, a0))), .inl a1, .inl a2, .inl a3, .inr (.inr (some (10, a4)))] => xIter X (xEnv (nL_setValve X)) (xHd 12 [(0, 17, 5), (1, 21, 5)]) 0 [] tL_setValve 2 (0, [(0, .inr (.inr (some (6, a0)))), (1, .inl a1), (2, .inl a2), (3, .inl a3), (4, .inr (.inr (some (10, a4))))], σ, 2)
  | _ => none
theorem hL_setValve {G : XG} {X : Nat × (Nat → Int32)} {p : Program} {l : Launch} {e : Env} {R : Room} {s : State} {m : MethodId} {args : Array Value} {below : List Frame} {meth : Method} {c : Code} (C0 : xCtx G X p s m args meth c cL_setValve RL 6) (hT : c.exceptionTable.toList = tableOf [(0, 12, 15, 13), (0, 12, 19, 15)]) : ∀ pc E t i, xHd 12 [(0, 17, 5), (1, 21, 5)] pc E = some (some (t, i)) → xCatOK G p l e R s m args below meth c 6 pc E t i := by
  intro pc E t i h
  unfold xHd at h
  split at h
  · rename_i hpc
    have hpc := Nat.le_of_ble_eq_true hpc
    simp only [xHdL] at h
    split at h
    · have hE := Nat.eq_of_beq_eq_true (by assumption : Nat.beq 0 E = true)
      subst hE
      cases h
      exact xCat C0 hT [] [(0, 12, 19, 15)] (fr := 0) (to := 12) (hp := 15) (ct := 13) rfl ⟨Nat.zero_le _, hpc⟩ (by decide) (xPk_in [604] (ws := [.classLink RL 13 (xXN 0)]) (by decide +kernel) (by decide +kernel) _ List.mem_cons_self) (by decide +kernel) (fun z hz => absurd hz List.not_mem_nil) (by decide) (Or.inl ⟨by decide +kernel, rfl⟩)
    · split at h
      · have hE := Nat.eq_of_beq_eq_true (by assumption : Nat.beq 1 E = true)
        subst hE
        cases h
        exact xCat C0 hT [(0, 12, 15, 13)] [] (fr := 0) (to := 12) (hp := 19) (ct := 15) rfl ⟨Nat.zero_le _, hpc⟩ (by decide) (xPk_in [605] (ws := [.classLink RL 15 (xXN 1)]) (by decide +kernel) (by decide +kernel) _ List.mem_cons_self) (by decide +kernel) (fun z hz => by
        rw [List.mem_singleton.mp hz]
        exact ⟨by decide, "java/lang/IndexOutOfBoundsException", xPk_in [604] (ws := [.classLink RL 13 "java/lang/IndexOutOfBoundsException"]) (by decide +kernel) (by decide +kernel) _ List.mem_cons_self, C0.2.2.2.2.2.1.2.2.2.2.2.1⟩) (by decide) (Or.inl ⟨by decide +kernel, rfl⟩)
      · cases h
  · cases h
theorem mL_setValve (l : Launch) (X : Nat × (Nat → Int32)) (hl : l.stackTraces = false) : xMetH l X yL_setValve cL_setValve 6 (some .int) [(0, 12, 15, 13), (0, 12, 19, 15)] 8 2 (fL_setValve X) :=
  xMetH_of (cl := xEnv (nL_setValve X)) (rt := 0) (to := 12) (rows := [(0, 17, 5), (1, 21, 5)]) (stops := []) (tbl := tL_setValve) (by decide +kernel) (by decide) tL_setValve_ok (fun _ h => absurd h List.not_mem_nil) rfl (xEnv_ok (L := nL_setValve X) (List.forall_mem_cons.mpr ⟨xCS_V (i := 17) (n := 3) (C := RX7) (k := 6) (mX7_setValve l X hl) (xPk_in [703, 704, 705, 59, 706] (by decide +kernel) (by decide +kernel)) (by decide +kernel) (by decide) rfl (by decide) (by decide) (rX7_setValve X), (fun _ h => absurd h List.not_mem_nil)⟩)) (xPk_in [702] (ws := [.codeWith yL_setValve cL_setValve 6 (some .int) [(0, 12, 15, 13), (0, 12, 19, 15)]]) (by decide +kernel) (by decide +kernel) _ List.mem_cons_self) (by decide +kernel) (fun C0 hT => hL_setValve C0 hT)
    (fun as σ q h => by
      unfold fL_setValve at h
      split at h
      · exact Nat.le_of_ble_eq_true rfl
      · cases h)
    (fun as σ r σ' h => by
      unfold fL_setValve at h
      split at h
      · exact ⟨2, h⟩
      · cases h)
def tL_setSignal : List XE := [(0, .aload_n 2, 1, 0, 0, []), (1, .iconst 0, 1, 0, 0, []), (2, .aload_n 0, 1, 0, 0, []), (3, .iload_n 1, 1, 0, 0, []), (4, .invokevirtual 21, 3, 42, 0, []), (7, .i2l, 1, 0, 0, []), (8, .lastore, 1, 0, 0, []), (9, .goto 6, 3, 15, 0, []), (12, .astore_n 3, 1, 0, 0, []), (13, .iconst 1, 1, 0, 0, []), (14, .ireturn, 1, 0, 0, []), (15, .iconst 0, 1, 0, 0, []), (16, .ireturn, 1, 0, 0, [])]
theorem tL_setSignal_ok : xTblOK RL cL_setSignal ([] : List Jvm.Cond) 4 tL_setSignal = true := by decide +kernel
abbrev nL_setSignal (X : Nat × (Nat → Int32)) : List (Nat × Nat × Nat × XS) := [(42, 2, 1, fX7_setSignal X)]
def fL_setSignal (X : Nat × (Nat → Int32)) : XS := fun as σ => match as with
  | [.inr (.inr (some (6, a0))), .inl a1, .inr (.inr (some (10, a2)))] => xIter X (xEnv (nL_setSignal X)) (xHd 9 [(1, 13, 3)]) 0 [] tL_setSignal 2 (0, [(0, .inr (.inr (some (6, a0)))), (1, .inl a1), (2, .inr (.inr (some (10, a2))))], σ, 1)
  | _ => none
theorem hL_setSignal {G : XG} {X : Nat × (Nat → Int32)} {p : Program} {l : Launch} {e : Env} {R : Room} {s : State} {m : MethodId} {args : Array Value} {below : List Frame} {meth : Method} {c : Code} (C0 : xCtx G X p s m args meth c cL_setSignal RL 4) (hT : c.exceptionTable.toList = tableOf [(0, 9, 12, 15)]) : ∀ pc E t i, xHd 9 [(1, 13, 3)] pc E = some (some (t, i)) → xCatOK G p l e R s m args below meth c 4 pc E t i := by
  intro pc E t i h
  unfold xHd at h
  split at h
  · rename_i hpc
    have hpc := Nat.le_of_ble_eq_true hpc
    simp only [xHdL] at h
    split at h
    · have hE := Nat.eq_of_beq_eq_true (by assumption : Nat.beq 1 E = true)
      subst hE
      cases h
      exact xCat C0 hT [] [] (fr := 0) (to := 9) (hp := 12) (ct := 15) rfl ⟨Nat.zero_le _, hpc⟩ (by decide) (xPk_in [605] (ws := [.classLink RL 15 (xXN 1)]) (by decide +kernel) (by decide +kernel) _ List.mem_cons_self) (by decide +kernel) (fun z hz => absurd hz List.not_mem_nil) (by decide) (Or.inr ⟨3, rfl, by decide +kernel, rfl⟩)
    · cases h
  · cases h
theorem mL_setSignal (l : Launch) (X : Nat × (Nat → Int32)) (hl : l.stackTraces = false) : xMetH l X yL_setSignal cL_setSignal 4 (some .int) [(0, 9, 12, 15)] 8 1 (fL_setSignal X) :=
  xMetH_of (cl := xEnv (nL_setSignal X)) (rt := 0) (to := 9) (rows := [(1, 13, 3)]) (stops := []) (tbl := tL_setSignal) (by decide +kernel) (by decide) tL_setSignal_ok (fun _ h => absurd h List.not_mem_nil) rfl (xEnv_ok (L := nL_setSignal X) (List.forall_mem_cons.mpr ⟨xCS_V (i := 21) (n := 1) (C := RX7) (k := 6) (mX7_setSignal l X hl) (xPk_in [710, 711, 712, 59, 713] (by decide +kernel) (by decide +kernel)) (by decide +kernel) (by decide) rfl (by decide) (by decide) (rX7_setSignal X), (fun _ h => absurd h List.not_mem_nil)⟩)) (xPk_in [709] (ws := [.codeWith yL_setSignal cL_setSignal 4 (some .int) [(0, 9, 12, 15)]]) (by decide +kernel) (by decide +kernel) _ List.mem_cons_self) (by decide +kernel) (fun C0 hT => hL_setSignal C0 hT)
    (fun as σ q h => by
      unfold fL_setSignal at h
      split at h
      · exact Nat.le_of_ble_eq_true rfl
      · cases h)
    (fun as σ r σ' h => by
      unfold fL_setSignal at h
      split at h
      · exact ⟨2, h⟩
      · cases h)
def tL_tune : List XE := [(0, .aload_n 3, 1, 0, 0, []), (1, .iconst 0, 1, 0, 0, []), (2, .aload_n 0, 1, 0, 0, []), (3, .iload_n 1, 1, 0, 0, []), (4, .iload_n 2, 1, 0, 0, []), (5, .invokevirtual 25, 3, 50, 0, []), (8, .i2l, 1, 0, 0, []), (9, .lastore, 1, 0, 0, []), (10, .goto 7, 3, 17, 0, []), (13, .astore 4, 2, 0, 0, []), (15, .iconst 1, 1, 0, 0, []), (16, .ireturn, 1, 0, 0, []), (17, .iconst 0, 1, 0, 0, []), (18, .ireturn, 1, 0, 0, [])]
theorem tL_tune_ok : xTblOK RL cL_tune ([] : List Jvm.Cond) 5 tL_tune = true := by decide +kernel
abbrev nL_tune (X : Nat × (Nat → Int32)) : List (Nat × Nat × Nat × XS) := [(50, 3, 1, fX7_tune X)]
def fL_tune (X : Nat × (Nat → Int32)) : XS := fun as σ => match as with
  | [.inr (.inr (some (6, a0))), .inl a1, .inl a2, .inr (.inr (some (10, a3)))] => xIter X (xEnv (nL_tune X)) (xHd 10 [(1, 15, 4)]) 0 [] tL_tune 2 (0, [(0, .inr (.inr (some (6, a0)))), (1, .inl a1), (2, .inl a2), (3, .inr (.inr (some (10, a3))))], σ, 1)
  | _ => none
theorem hL_tune {G : XG} {X : Nat × (Nat → Int32)} {p : Program} {l : Launch} {e : Env} {R : Room} {s : State} {m : MethodId} {args : Array Value} {below : List Frame} {meth : Method} {c : Code} (C0 : xCtx G X p s m args meth c cL_tune RL 5) (hT : c.exceptionTable.toList = tableOf [(0, 10, 13, 15)]) : ∀ pc E t i, xHd 10 [(1, 15, 4)] pc E = some (some (t, i)) → xCatOK G p l e R s m args below meth c 5 pc E t i := by
  intro pc E t i h
  unfold xHd at h
  split at h
  · rename_i hpc
    have hpc := Nat.le_of_ble_eq_true hpc
    simp only [xHdL] at h
    split at h
    · have hE := Nat.eq_of_beq_eq_true (by assumption : Nat.beq 1 E = true)
      subst hE
      cases h
      exact xCat C0 hT [] [] (fr := 0) (to := 10) (hp := 13) (ct := 15) rfl ⟨Nat.zero_le _, hpc⟩ (by decide) (xPk_in [605] (ws := [.classLink RL 15 (xXN 1)]) (by decide +kernel) (by decide +kernel) _ List.mem_cons_self) (by decide +kernel) (fun z hz => absurd hz List.not_mem_nil) (by decide) (Or.inl ⟨by decide +kernel, rfl⟩)
    · cases h
  · cases h
theorem mL_tune (l : Launch) (X : Nat × (Nat → Int32)) (hl : l.stackTraces = false) : xMetH l X yL_tune cL_tune 5 (some .int) [(0, 10, 13, 15)] 8 1 (fL_tune X) :=
  xMetH_of (cl := xEnv (nL_tune X)) (rt := 0) (to := 10) (rows := [(1, 15, 4)]) (stops := []) (tbl := tL_tune) (by decide +kernel) (by decide) tL_tune_ok (fun _ h => absurd h List.not_mem_nil) rfl (xEnv_ok (L := nL_tune X) (List.forall_mem_cons.mpr ⟨xCS_V (i := 25) (n := 2) (C := RX7) (k := 6) (mX7_tune l X hl) (xPk_in [717, 718, 719, 59, 720] (by decide +kernel) (by decide +kernel)) (by decide +kernel) (by decide) rfl (by decide) (by decide) (rX7_tune X), (fun _ h => absurd h List.not_mem_nil)⟩)) (xPk_in [716] (ws := [.codeWith yL_tune cL_tune 5 (some .int) [(0, 10, 13, 15)]]) (by decide +kernel) (by decide +kernel) _ List.mem_cons_self) (by decide +kernel) (fun C0 hT => hL_tune C0 hT)
    (fun as σ q h => by
      unfold fL_tune at h
      split at h
      · exact Nat.le_of_ble_eq_true rfl
      · cases h)
    (fun as σ r σ' h => by
      unfold fL_tune at h
      split at h
      · exact ⟨2, h⟩
      · cases h)
def tL_service : List XE := [(0, .aload_n 2, 1, 0, 0, []), (1, .iconst 0, 1, 0, 0, []), (2, .aload_n 0, 1, 0, 0, []), (3, .iload_n 1, 1, 0, 0, []), (4, .invokevirtual 29, 3, 58, 0, []), (7, .i2l, 1, 0, 0, []), (8, .lastore, 1, 0, 0, []), (9, .goto 6, 3, 15, 0, []), (12, .astore_n 3, 1, 0, 0, []), (13, .iconst 1, 1, 0, 0, []), (14, .ireturn, 1, 0, 0, []), (15, .iconst 0, 1, 0, 0, []), (16, .ireturn, 1, 0, 0, [])]
theorem tL_service_ok : xTblOK RL cL_service ([] : List Jvm.Cond) 4 tL_service = true := by decide +kernel
abbrev nL_service (X : Nat × (Nat → Int32)) : List (Nat × Nat × Nat × XS) := [(58, 2, 1, fX7_service X)]
def fL_service (X : Nat × (Nat → Int32)) : XS := fun as σ => match as with
  | [.inr (.inr (some (6, a0))), .inl a1, .inr (.inr (some (10, a2)))] => xIter X (xEnv (nL_service X)) (xHd 9 [(0, 13, 3)]) 0 [] tL_service 2 (0, [(0, .inr (.inr (some (6, a0)))), (1, .inl a1), (2, .inr (.inr (some (10, a2))))], σ, 1)
  | _ => none
theorem hL_service {G : XG} {X : Nat × (Nat → Int32)} {p : Program} {l : Launch} {e : Env} {R : Room} {s : State} {m : MethodId} {args : Array Value} {below : List Frame} {meth : Method} {c : Code} (C0 : xCtx G X p s m args meth c cL_service RL 4) (hT : c.exceptionTable.toList = tableOf [(0, 9, 12, 13)]) : ∀ pc E t i, xHd 9 [(0, 13, 3)] pc E = some (some (t, i)) → xCatOK G p l e R s m args below meth c 4 pc E t i := by
  intro pc E t i h
  unfold xHd at h
  split at h
  · rename_i hpc
    have hpc := Nat.le_of_ble_eq_true hpc
    simp only [xHdL] at h
    split at h
    · have hE := Nat.eq_of_beq_eq_true (by assumption : Nat.beq 0 E = true)
      subst hE
      cases h
      exact xCat C0 hT [] [] (fr := 0) (to := 9) (hp := 12) (ct := 13) rfl ⟨Nat.zero_le _, hpc⟩ (by decide) (xPk_in [604] (ws := [.classLink RL 13 (xXN 0)]) (by decide +kernel) (by decide +kernel) _ List.mem_cons_self) (by decide +kernel) (fun z hz => absurd hz List.not_mem_nil) (by decide) (Or.inr ⟨3, rfl, by decide +kernel, rfl⟩)
    · cases h
  · cases h
theorem mL_service (l : Launch) (X : Nat × (Nat → Int32)) (hl : l.stackTraces = false) : xMetH l X yL_service cL_service 4 (some .int) [(0, 9, 12, 13)] 8 1 (fL_service X) :=
  xMetH_of (cl := xEnv (nL_service X)) (rt := 0) (to := 9) (rows := [(0, 13, 3)]) (stops := []) (tbl := tL_service) (by decide +kernel) (by decide) tL_service_ok (fun _ h => absurd h List.not_mem_nil) rfl (xEnv_ok (L := nL_service X) (List.forall_mem_cons.mpr ⟨xCS_V (i := 29) (n := 1) (C := RX7) (k := 6) (mX7_service l X hl) (xPk_in [724, 725, 726, 59, 727] (by decide +kernel) (by decide +kernel)) (by decide +kernel) (by decide) rfl (by decide) (by decide) (rX7_service X), (fun _ h => absurd h List.not_mem_nil)⟩)) (xPk_in [723] (ws := [.codeWith yL_service cL_service 4 (some .int) [(0, 9, 12, 13)]]) (by decide +kernel) (by decide +kernel) _ List.mem_cons_self) (by decide +kernel) (fun C0 hT => hL_service C0 hT)
    (fun as σ q h => by
      unfold fL_service at h
      split at h
      · exact Nat.le_of_ble_eq_true rfl
      · cases h)
    (fun as σ r σ' h => by
      unfold fL_service at h
      split at h
      · exact ⟨2, h⟩
      · cases h)
def tL_putStem : List XE := [(0, .aload_n 3, 1, 0, 0, []), (1, .iconst 0, 1, 0, 0, []), (2, .aload_n 0, 1, 0, 0, []), (3, .iload_n 1, 1, 0, 0, []), (4, .iload_n 2, 1, 0, 0, []), (5, .invokevirtual 32, 3, 64, 0, []), (8, .i2l, 1, 0, 0, []), (9, .lastore, 1, 0, 0, []), (10, .goto 11, 3, 21, 0, []), (13, .astore 4, 2, 0, 0, []), (15, .iconst 1, 1, 0, 0, []), (16, .ireturn, 1, 0, 0, []), (17, .astore 4, 2, 0, 0, []), (19, .iconst 2, 1, 0, 0, []), (20, .ireturn, 1, 0, 0, []), (21, .iconst 0, 1, 0, 0, []), (22, .ireturn, 1, 0, 0, [])]
theorem tL_putStem_ok : xTblOK RL cL_putStem ([] : List Jvm.Cond) 5 tL_putStem = true := by decide +kernel
abbrev nL_putStem (X : Nat × (Nat → Int32)) : List (Nat × Nat × Nat × XS) := [(64, 3, 2, fX7_putStem X)]
def fL_putStem (X : Nat × (Nat → Int32)) : XS := fun as σ => match as with
  | [.inr (.inr (some (6, a0))), .inl a1, .inl a2, .inr (.inr (some (10, a3)))] => xIter X (xEnv (nL_putStem X)) (xHd 10 [(0, 15, 4), (1, 19, 4)]) 0 [] tL_putStem 2 (0, [(0, .inr (.inr (some (6, a0)))), (1, .inl a1), (2, .inl a2), (3, .inr (.inr (some (10, a3))))], σ, 2)
  | _ => none
theorem hL_putStem {G : XG} {X : Nat × (Nat → Int32)} {p : Program} {l : Launch} {e : Env} {R : Room} {s : State} {m : MethodId} {args : Array Value} {below : List Frame} {meth : Method} {c : Code} (C0 : xCtx G X p s m args meth c cL_putStem RL 5) (hT : c.exceptionTable.toList = tableOf [(0, 10, 13, 13), (0, 10, 17, 15)]) : ∀ pc E t i, xHd 10 [(0, 15, 4), (1, 19, 4)] pc E = some (some (t, i)) → xCatOK G p l e R s m args below meth c 5 pc E t i := by
  intro pc E t i h
  unfold xHd at h
  split at h
  · rename_i hpc
    have hpc := Nat.le_of_ble_eq_true hpc
    simp only [xHdL] at h
    split at h
    · have hE := Nat.eq_of_beq_eq_true (by assumption : Nat.beq 0 E = true)
      subst hE
      cases h
      exact xCat C0 hT [] [(0, 10, 17, 15)] (fr := 0) (to := 10) (hp := 13) (ct := 13) rfl ⟨Nat.zero_le _, hpc⟩ (by decide) (xPk_in [604] (ws := [.classLink RL 13 (xXN 0)]) (by decide +kernel) (by decide +kernel) _ List.mem_cons_self) (by decide +kernel) (fun z hz => absurd hz List.not_mem_nil) (by decide) (Or.inl ⟨by decide +kernel, rfl⟩)
    · split at h
      · have hE := Nat.eq_of_beq_eq_true (by assumption : Nat.beq 1 E = true)
        subst hE
        cases h
        exact xCat C0 hT [(0, 10, 13, 13)] [] (fr := 0) (to := 10) (hp := 17) (ct := 15) rfl ⟨Nat.zero_le _, hpc⟩ (by decide) (xPk_in [605] (ws := [.classLink RL 15 (xXN 1)]) (by decide +kernel) (by decide +kernel) _ List.mem_cons_self) (by decide +kernel) (fun z hz => by
        rw [List.mem_singleton.mp hz]
        exact ⟨by decide, "java/lang/IndexOutOfBoundsException", xPk_in [604] (ws := [.classLink RL 13 "java/lang/IndexOutOfBoundsException"]) (by decide +kernel) (by decide +kernel) _ List.mem_cons_self, C0.2.2.2.2.2.1.2.2.2.2.2.1⟩) (by decide) (Or.inl ⟨by decide +kernel, rfl⟩)
      · cases h
  · cases h
theorem mL_putStem (l : Launch) (X : Nat × (Nat → Int32)) (hl : l.stackTraces = false) : xMetH l X yL_putStem cL_putStem 5 (some .int) [(0, 10, 13, 13), (0, 10, 17, 15)] 8 2 (fL_putStem X) :=
  xMetH_of (cl := xEnv (nL_putStem X)) (rt := 0) (to := 10) (rows := [(0, 15, 4), (1, 19, 4)]) (stops := []) (tbl := tL_putStem) (by decide +kernel) (by decide) tL_putStem_ok (fun _ h => absurd h List.not_mem_nil) rfl (xEnv_ok (L := nL_putStem X) (List.forall_mem_cons.mpr ⟨xCS_V (i := 32) (n := 2) (C := RX7) (k := 6) (mX7_putStem l X hl) (xPk_in [731, 732, 733, 59, 734] (by decide +kernel) (by decide +kernel)) (by decide +kernel) (by decide) rfl (by decide) (by decide) (rX7_putStem X), (fun _ h => absurd h List.not_mem_nil)⟩)) (xPk_in [730] (ws := [.codeWith yL_putStem cL_putStem 5 (some .int) [(0, 10, 13, 13), (0, 10, 17, 15)]]) (by decide +kernel) (by decide +kernel) _ List.mem_cons_self) (by decide +kernel) (fun C0 hT => hL_putStem C0 hT)
    (fun as σ q h => by
      unfold fL_putStem at h
      split at h
      · exact Nat.le_of_ble_eq_true rfl
      · cases h)
    (fun as σ r σ' h => by
      unfold fL_putStem at h
      split at h
      · exact ⟨2, h⟩
      · cases h)
def tL_run : List XE := [(0, .aload_n 2, 1, 0, 0, []), (1, .iconst 0, 1, 0, 0, []), (2, .aload_n 0, 1, 0, 0, []), (3, .iload_n 1, 1, 0, 0, []), (4, .invokevirtual 35, 3, 70, 0, []), (7, .i2l, 1, 0, 0, []), (8, .lastore, 1, 0, 0, []), (9, .goto 9, 3, 18, 0, []), (12, .astore_n 3, 1, 0, 0, []), (13, .iconst 1, 1, 0, 0, []), (14, .ireturn, 1, 0, 0, []), (15, .astore_n 3, 1, 0, 0, []), (16, .iconst 2, 1, 0, 0, []), (17, .ireturn, 1, 0, 0, []), (18, .iconst 0, 1, 0, 0, []), (19, .ireturn, 1, 0, 0, [])]
theorem tL_run_ok : xTblOK RL cL_run ([] : List Jvm.Cond) 4 tL_run = true := by decide +kernel
abbrev nL_run (X : Nat × (Nat → Int32)) : List (Nat × Nat × Nat × XS) := [(70, 2, 2, fX7_run X)]
def fL_run (X : Nat × (Nat → Int32)) : XS := fun as σ => match as with
  | [.inr (.inr (some (6, a0))), .inl a1, .inr (.inr (some (10, a2)))] => xIter X (xEnv (nL_run X)) (xHd 9 [(1, 13, 3), (2, 16, 3)]) 0 [] tL_run 2 (0, [(0, .inr (.inr (some (6, a0)))), (1, .inl a1), (2, .inr (.inr (some (10, a2))))], σ, 2)
  | _ => none
theorem hL_run {G : XG} {X : Nat × (Nat → Int32)} {p : Program} {l : Launch} {e : Env} {R : Room} {s : State} {m : MethodId} {args : Array Value} {below : List Frame} {meth : Method} {c : Code} (C0 : xCtx G X p s m args meth c cL_run RL 4) (hT : c.exceptionTable.toList = tableOf [(0, 9, 12, 15), (0, 9, 15, 38)]) : ∀ pc E t i, xHd 9 [(1, 13, 3), (2, 16, 3)] pc E = some (some (t, i)) → xCatOK G p l e R s m args below meth c 4 pc E t i := by
  intro pc E t i h
  unfold xHd at h
  split at h
  · rename_i hpc
    have hpc := Nat.le_of_ble_eq_true hpc
    simp only [xHdL] at h
    split at h
    · have hE := Nat.eq_of_beq_eq_true (by assumption : Nat.beq 1 E = true)
      subst hE
      cases h
      exact xCat C0 hT [] [(0, 9, 15, 38)] (fr := 0) (to := 9) (hp := 12) (ct := 15) rfl ⟨Nat.zero_le _, hpc⟩ (by decide) (xPk_in [605] (ws := [.classLink RL 15 (xXN 1)]) (by decide +kernel) (by decide +kernel) _ List.mem_cons_self) (by decide +kernel) (fun z hz => absurd hz List.not_mem_nil) (by decide) (Or.inr ⟨3, rfl, by decide +kernel, rfl⟩)
    · split at h
      · have hE := Nat.eq_of_beq_eq_true (by assumption : Nat.beq 2 E = true)
        subst hE
        cases h
        exact xCat C0 hT [(0, 9, 12, 15)] [] (fr := 0) (to := 9) (hp := 15) (ct := 38) rfl ⟨Nat.zero_le _, hpc⟩ (by decide) (xPk_in [742] (ws := [.classLink RL 38 (xXN 2)]) (by decide +kernel) (by decide +kernel) _ List.mem_cons_self) (by decide +kernel) (fun z hz => by
        rw [List.mem_singleton.mp hz]
        exact ⟨by decide, "java/lang/IllegalArgumentException", xPk_in [605] (ws := [.classLink RL 15 "java/lang/IllegalArgumentException"]) (by decide +kernel) (by decide +kernel) _ List.mem_cons_self, C0.2.2.2.2.2.1.2.2.2.2.2.2⟩) (by decide) (Or.inr ⟨3, rfl, by decide +kernel, rfl⟩)
      · cases h
  · cases h
theorem mL_run (l : Launch) (X : Nat × (Nat → Int32)) (hl : l.stackTraces = false) : xMetH l X yL_run cL_run 4 (some .int) [(0, 9, 12, 15), (0, 9, 15, 38)] 8 2 (fL_run X) :=
  xMetH_of (cl := xEnv (nL_run X)) (rt := 0) (to := 9) (rows := [(1, 13, 3), (2, 16, 3)]) (stops := []) (tbl := tL_run) (by decide +kernel) (by decide) tL_run_ok (fun _ h => absurd h List.not_mem_nil) rfl (xEnv_ok (L := nL_run X) (List.forall_mem_cons.mpr ⟨xCS_V (i := 35) (n := 1) (C := RX7) (k := 6) (mX7_run l X hl) (xPk_in [743, 744, 745, 59, 746] (by decide +kernel) (by decide +kernel)) (by decide +kernel) (by decide) rfl (by decide) (by decide) (rX7_run X), (fun _ h => absurd h List.not_mem_nil)⟩)) (xPk_in [741] (ws := [.codeWith yL_run cL_run 4 (some .int) [(0, 9, 12, 15), (0, 9, 15, 38)]]) (by decide +kernel) (by decide +kernel) _ List.mem_cons_self) (by decide +kernel) (fun C0 hT => hL_run C0 hT)
    (fun as σ q h => by
      unfold fL_run at h
      split at h
      · exact Nat.le_of_ble_eq_true rfl
      · cases h)
    (fun as σ r σ' h => by
      unfold fL_run at h
      split at h
      · exact ⟨2, h⟩
      · cases h)
def tL_valve : List XE := [(0, .aload_n 3, 1, 0, 0, []), (1, .iconst 0, 1, 0, 0, []), (2, .aload_n 0, 1, 0, 0, []), (3, .iload_n 1, 1, 0, 0, []), (4, .iload_n 2, 1, 0, 0, []), (5, .invokevirtual 40, 3, 80, 0, []), (8, .i2l, 1, 0, 0, []), (9, .lastore, 1, 0, 0, []), (10, .goto 11, 3, 21, 0, []), (13, .astore 4, 2, 0, 0, []), (15, .iconst 1, 1, 0, 0, []), (16, .ireturn, 1, 0, 0, []), (17, .astore 4, 2, 0, 0, []), (19, .iconst 2, 1, 0, 0, []), (20, .ireturn, 1, 0, 0, []), (21, .iconst 0, 1, 0, 0, []), (22, .ireturn, 1, 0, 0, [])]
theorem tL_valve_ok : xTblOK RL cL_valve ([] : List Jvm.Cond) 5 tL_valve = true := by decide +kernel
abbrev nL_valve (X : Nat × (Nat → Int32)) : List (Nat × Nat × Nat × XS) := [(80, 3, 2, fX7_valve X)]
def fL_valve (X : Nat × (Nat → Int32)) : XS := fun as σ => match as with
  | [.inr (.inr (some (6, a0))), .inl a1, .inl a2, .inr (.inr (some (10, a3)))] => xIter X (xEnv (nL_valve X)) (xHd 10 [(0, 15, 4), (1, 19, 4)]) 0 [] tL_valve 2 (0, [(0, .inr (.inr (some (6, a0)))), (1, .inl a1), (2, .inl a2), (3, .inr (.inr (some (10, a3))))], σ, 2)
  | _ => none
theorem hL_valve {G : XG} {X : Nat × (Nat → Int32)} {p : Program} {l : Launch} {e : Env} {R : Room} {s : State} {m : MethodId} {args : Array Value} {below : List Frame} {meth : Method} {c : Code} (C0 : xCtx G X p s m args meth c cL_valve RL 5) (hT : c.exceptionTable.toList = tableOf [(0, 10, 13, 13), (0, 10, 17, 15)]) : ∀ pc E t i, xHd 10 [(0, 15, 4), (1, 19, 4)] pc E = some (some (t, i)) → xCatOK G p l e R s m args below meth c 5 pc E t i := by
  intro pc E t i h
  unfold xHd at h
  split at h
  · rename_i hpc
    have hpc := Nat.le_of_ble_eq_true hpc
    simp only [xHdL] at h
    split at h
    · have hE := Nat.eq_of_beq_eq_true (by assumption : Nat.beq 0 E = true)
      subst hE
      cases h
      exact xCat C0 hT [] [(0, 10, 17, 15)] (fr := 0) (to := 10) (hp := 13) (ct := 13) rfl ⟨Nat.zero_le _, hpc⟩ (by decide) (xPk_in [604] (ws := [.classLink RL 13 (xXN 0)]) (by decide +kernel) (by decide +kernel) _ List.mem_cons_self) (by decide +kernel) (fun z hz => absurd hz List.not_mem_nil) (by decide) (Or.inl ⟨by decide +kernel, rfl⟩)
    · split at h
      · have hE := Nat.eq_of_beq_eq_true (by assumption : Nat.beq 1 E = true)
        subst hE
        cases h
        exact xCat C0 hT [(0, 10, 13, 13)] [] (fr := 0) (to := 10) (hp := 17) (ct := 15) rfl ⟨Nat.zero_le _, hpc⟩ (by decide) (xPk_in [605] (ws := [.classLink RL 15 (xXN 1)]) (by decide +kernel) (by decide +kernel) _ List.mem_cons_self) (by decide +kernel) (fun z hz => by
        rw [List.mem_singleton.mp hz]
        exact ⟨by decide, "java/lang/IndexOutOfBoundsException", xPk_in [604] (ws := [.classLink RL 13 "java/lang/IndexOutOfBoundsException"]) (by decide +kernel) (by decide +kernel) _ List.mem_cons_self, C0.2.2.2.2.2.1.2.2.2.2.2.1⟩) (by decide) (Or.inl ⟨by decide +kernel, rfl⟩)
      · cases h
  · cases h
theorem mL_valve (l : Launch) (X : Nat × (Nat → Int32)) (hl : l.stackTraces = false) : xMetH l X yL_valve cL_valve 5 (some .int) [(0, 10, 13, 13), (0, 10, 17, 15)] 8 2 (fL_valve X) :=
  xMetH_of (cl := xEnv (nL_valve X)) (rt := 0) (to := 10) (rows := [(0, 15, 4), (1, 19, 4)]) (stops := []) (tbl := tL_valve) (by decide +kernel) (by decide) tL_valve_ok (fun _ h => absurd h List.not_mem_nil) rfl (xEnv_ok (L := nL_valve X) (List.forall_mem_cons.mpr ⟨xCS_V (i := 40) (n := 2) (C := RX7) (k := 6) (mX7_valve l X hl) (xPk_in [766, 767, 768, 59, 769] (by decide +kernel) (by decide +kernel)) (by decide +kernel) (by decide) rfl (by decide) (by decide) (rX7_valve X), (fun _ h => absurd h List.not_mem_nil)⟩)) (xPk_in [765] (ws := [.codeWith yL_valve cL_valve 5 (some .int) [(0, 10, 13, 13), (0, 10, 17, 15)]]) (by decide +kernel) (by decide +kernel) _ List.mem_cons_self) (by decide +kernel) (fun C0 hT => hL_valve C0 hT)
    (fun as σ q h => by
      unfold fL_valve at h
      split at h
      · exact Nat.le_of_ble_eq_true rfl
      · cases h)
    (fun as σ r σ' h => by
      unfold fL_valve at h
      split at h
      · exact ⟨2, h⟩
      · cases h)
def tL_pair : List XE := [(0, .aload_n 2, 1, 0, 0, []), (1, .iconst 0, 1, 0, 0, []), (2, .aload_n 0, 1, 0, 0, []), (3, .iload_n 1, 1, 0, 0, []), (4, .invokevirtual 43, 3, 86, 0, []), (7, .i2l, 1, 0, 0, []), (8, .lastore, 1, 0, 0, []), (9, .goto 6, 3, 15, 0, []), (12, .astore_n 3, 1, 0, 0, []), (13, .iconst 1, 1, 0, 0, []), (14, .ireturn, 1, 0, 0, []), (15, .iconst 0, 1, 0, 0, []), (16, .ireturn, 1, 0, 0, [])]
theorem tL_pair_ok : xTblOK RL cL_pair ([] : List Jvm.Cond) 4 tL_pair = true := by decide +kernel
abbrev nL_pair (X : Nat × (Nat → Int32)) : List (Nat × Nat × Nat × XS) := [(86, 2, 1, fX7_pair X)]
def fL_pair (X : Nat × (Nat → Int32)) : XS := fun as σ => match as with
  | [.inr (.inr (some (6, a0))), .inl a1, .inr (.inr (some (10, a2)))] => xIter X (xEnv (nL_pair X)) (xHd 9 [(1, 13, 3)]) 0 [] tL_pair 2 (0, [(0, .inr (.inr (some (6, a0)))), (1, .inl a1), (2, .inr (.inr (some (10, a2))))], σ, 1)
  | _ => none
theorem hL_pair {G : XG} {X : Nat × (Nat → Int32)} {p : Program} {l : Launch} {e : Env} {R : Room} {s : State} {m : MethodId} {args : Array Value} {below : List Frame} {meth : Method} {c : Code} (C0 : xCtx G X p s m args meth c cL_pair RL 4) (hT : c.exceptionTable.toList = tableOf [(0, 9, 12, 15)]) : ∀ pc E t i, xHd 9 [(1, 13, 3)] pc E = some (some (t, i)) → xCatOK G p l e R s m args below meth c 4 pc E t i := by
  intro pc E t i h
  unfold xHd at h
  split at h
  · rename_i hpc
    have hpc := Nat.le_of_ble_eq_true hpc
    simp only [xHdL] at h
    split at h
    · have hE := Nat.eq_of_beq_eq_true (by assumption : Nat.beq 1 E = true)
      subst hE
      cases h
      exact xCat C0 hT [] [] (fr := 0) (to := 9) (hp := 12) (ct := 15) rfl ⟨Nat.zero_le _, hpc⟩ (by decide) (xPk_in [605] (ws := [.classLink RL 15 (xXN 1)]) (by decide +kernel) (by decide +kernel) _ List.mem_cons_self) (by decide +kernel) (fun z hz => absurd hz List.not_mem_nil) (by decide) (Or.inr ⟨3, rfl, by decide +kernel, rfl⟩)
    · cases h
  · cases h
theorem mL_pair (l : Launch) (X : Nat × (Nat → Int32)) (hl : l.stackTraces = false) : xMetH l X yL_pair cL_pair 4 (some .int) [(0, 9, 12, 15)] 8 1 (fL_pair X) :=
  xMetH_of (cl := xEnv (nL_pair X)) (rt := 0) (to := 9) (rows := [(1, 13, 3)]) (stops := []) (tbl := tL_pair) (by decide +kernel) (by decide) tL_pair_ok (fun _ h => absurd h List.not_mem_nil) rfl (xEnv_ok (L := nL_pair X) (List.forall_mem_cons.mpr ⟨xCS_V (i := 43) (n := 1) (C := RX7) (k := 6) (mX7_pair l X hl) (xPk_in [773, 774, 775, 59, 776] (by decide +kernel) (by decide +kernel)) (by decide +kernel) (by decide) rfl (by decide) (by decide) (rX7_pair X), (fun _ h => absurd h List.not_mem_nil)⟩)) (xPk_in [772] (ws := [.codeWith yL_pair cL_pair 4 (some .int) [(0, 9, 12, 15)]]) (by decide +kernel) (by decide +kernel) _ List.mem_cons_self) (by decide +kernel) (fun C0 hT => hL_pair C0 hT)
    (fun as σ q h => by
      unfold fL_pair at h
      split at h
      · exact Nat.le_of_ble_eq_true rfl
      · cases h)
    (fun as σ r σ' h => by
      unfold fL_pair at h
      split at h
      · exact ⟨2, h⟩
      · cases h)
def tL_ledger : List XE := [(0, .aload_n 3, 1, 0, 0, []), (1, .iconst 0, 1, 0, 0, []), (2, .aload_n 0, 1, 0, 0, []), (3, .iload_n 1, 1, 0, 0, []), (4, .iload_n 2, 1, 0, 0, []), (5, .invokevirtual 46, 3, 92, 0, []), (8, .i2l, 1, 0, 0, []), (9, .lastore, 1, 0, 0, []), (10, .goto 7, 3, 17, 0, []), (13, .astore 4, 2, 0, 0, []), (15, .iconst 1, 1, 0, 0, []), (16, .ireturn, 1, 0, 0, []), (17, .iconst 0, 1, 0, 0, []), (18, .ireturn, 1, 0, 0, [])]
theorem tL_ledger_ok : xTblOK RL cL_ledger ([] : List Jvm.Cond) 5 tL_ledger = true := by decide +kernel
abbrev nL_ledger (X : Nat × (Nat → Int32)) : List (Nat × Nat × Nat × XS) := [(92, 3, 1, fX7_ledger X)]
def fL_ledger (X : Nat × (Nat → Int32)) : XS := fun as σ => match as with
  | [.inr (.inr (some (6, a0))), .inl a1, .inl a2, .inr (.inr (some (10, a3)))] => xIter X (xEnv (nL_ledger X)) (xHd 10 [(1, 15, 4)]) 0 [] tL_ledger 2 (0, [(0, .inr (.inr (some (6, a0)))), (1, .inl a1), (2, .inl a2), (3, .inr (.inr (some (10, a3))))], σ, 1)
  | _ => none
theorem hL_ledger {G : XG} {X : Nat × (Nat → Int32)} {p : Program} {l : Launch} {e : Env} {R : Room} {s : State} {m : MethodId} {args : Array Value} {below : List Frame} {meth : Method} {c : Code} (C0 : xCtx G X p s m args meth c cL_ledger RL 5) (hT : c.exceptionTable.toList = tableOf [(0, 10, 13, 15)]) : ∀ pc E t i, xHd 10 [(1, 15, 4)] pc E = some (some (t, i)) → xCatOK G p l e R s m args below meth c 5 pc E t i := by
  intro pc E t i h
  unfold xHd at h
  split at h
  · rename_i hpc
    have hpc := Nat.le_of_ble_eq_true hpc
    simp only [xHdL] at h
    split at h
    · have hE := Nat.eq_of_beq_eq_true (by assumption : Nat.beq 1 E = true)
      subst hE
      cases h
      exact xCat C0 hT [] [] (fr := 0) (to := 10) (hp := 13) (ct := 15) rfl ⟨Nat.zero_le _, hpc⟩ (by decide) (xPk_in [605] (ws := [.classLink RL 15 (xXN 1)]) (by decide +kernel) (by decide +kernel) _ List.mem_cons_self) (by decide +kernel) (fun z hz => absurd hz List.not_mem_nil) (by decide) (Or.inl ⟨by decide +kernel, rfl⟩)
    · cases h
  · cases h
theorem mL_ledger (l : Launch) (X : Nat × (Nat → Int32)) (hl : l.stackTraces = false) : xMetH l X yL_ledger cL_ledger 5 (some .int) [(0, 10, 13, 15)] 8 1 (fL_ledger X) :=
  xMetH_of (cl := xEnv (nL_ledger X)) (rt := 0) (to := 10) (rows := [(1, 15, 4)]) (stops := []) (tbl := tL_ledger) (by decide +kernel) (by decide) tL_ledger_ok (fun _ h => absurd h List.not_mem_nil) rfl (xEnv_ok (L := nL_ledger X) (List.forall_mem_cons.mpr ⟨xCS_V (i := 46) (n := 2) (C := RX7) (k := 6) (mX7_ledger l X hl) (xPk_in [780, 781, 782, 59, 783] (by decide +kernel) (by decide +kernel)) (by decide +kernel) (by decide) rfl (by decide) (by decide) (rX7_ledger X), (fun _ h => absurd h List.not_mem_nil)⟩)) (xPk_in [779] (ws := [.codeWith yL_ledger cL_ledger 5 (some .int) [(0, 10, 13, 15)]]) (by decide +kernel) (by decide +kernel) _ List.mem_cons_self) (by decide +kernel) (fun C0 hT => hL_ledger C0 hT)
    (fun as σ q h => by
      unfold fL_ledger at h
      split at h
      · exact Nat.le_of_ble_eq_true rfl
      · cases h)
    (fun as σ r σ' h => by
      unfold fL_ledger at h
      split at h
      · exact ⟨2, h⟩
      · cases h)
def tL_ledgerSum : List XE := [(0, .aload_n 3, 1, 0, 0, []), (1, .iconst 0, 1, 0, 0, []), (2, .aload_n 0, 1, 0, 0, []), (3, .iload_n 1, 1, 0, 0, []), (4, .iload_n 2, 1, 0, 0, []), (5, .invokevirtual 49, 3, 98, 0, []), (8, .i2l, 1, 0, 0, []), (9, .lastore, 1, 0, 0, []), (10, .goto 11, 3, 21, 0, []), (13, .astore 4, 2, 0, 0, []), (15, .iconst 1, 1, 0, 0, []), (16, .ireturn, 1, 0, 0, []), (17, .astore 4, 2, 0, 0, []), (19, .iconst 2, 1, 0, 0, []), (20, .ireturn, 1, 0, 0, []), (21, .iconst 0, 1, 0, 0, []), (22, .ireturn, 1, 0, 0, [])]
theorem tL_ledgerSum_ok : xTblOK RL cL_ledgerSum ([] : List Jvm.Cond) 5 tL_ledgerSum = true := by decide +kernel
abbrev nL_ledgerSum (X : Nat × (Nat → Int32)) : List (Nat × Nat × Nat × XS) := [(98, 3, 2, fX7_ledgerSum X)]
def fL_ledgerSum (X : Nat × (Nat → Int32)) : XS := fun as σ => match as with
  | [.inr (.inr (some (6, a0))), .inl a1, .inl a2, .inr (.inr (some (10, a3)))] => xIter X (xEnv (nL_ledgerSum X)) (xHd 10 [(0, 15, 4), (1, 19, 4)]) 0 [] tL_ledgerSum 2 (0, [(0, .inr (.inr (some (6, a0)))), (1, .inl a1), (2, .inl a2), (3, .inr (.inr (some (10, a3))))], σ, 2)
  | _ => none
theorem hL_ledgerSum {G : XG} {X : Nat × (Nat → Int32)} {p : Program} {l : Launch} {e : Env} {R : Room} {s : State} {m : MethodId} {args : Array Value} {below : List Frame} {meth : Method} {c : Code} (C0 : xCtx G X p s m args meth c cL_ledgerSum RL 5) (hT : c.exceptionTable.toList = tableOf [(0, 10, 13, 13), (0, 10, 17, 15)]) : ∀ pc E t i, xHd 10 [(0, 15, 4), (1, 19, 4)] pc E = some (some (t, i)) → xCatOK G p l e R s m args below meth c 5 pc E t i := by
  intro pc E t i h
  unfold xHd at h
  split at h
  · rename_i hpc
    have hpc := Nat.le_of_ble_eq_true hpc
    simp only [xHdL] at h
    split at h
    · have hE := Nat.eq_of_beq_eq_true (by assumption : Nat.beq 0 E = true)
      subst hE
      cases h
      exact xCat C0 hT [] [(0, 10, 17, 15)] (fr := 0) (to := 10) (hp := 13) (ct := 13) rfl ⟨Nat.zero_le _, hpc⟩ (by decide) (xPk_in [604] (ws := [.classLink RL 13 (xXN 0)]) (by decide +kernel) (by decide +kernel) _ List.mem_cons_self) (by decide +kernel) (fun z hz => absurd hz List.not_mem_nil) (by decide) (Or.inl ⟨by decide +kernel, rfl⟩)
    · split at h
      · have hE := Nat.eq_of_beq_eq_true (by assumption : Nat.beq 1 E = true)
        subst hE
        cases h
        exact xCat C0 hT [(0, 10, 13, 13)] [] (fr := 0) (to := 10) (hp := 17) (ct := 15) rfl ⟨Nat.zero_le _, hpc⟩ (by decide) (xPk_in [605] (ws := [.classLink RL 15 (xXN 1)]) (by decide +kernel) (by decide +kernel) _ List.mem_cons_self) (by decide +kernel) (fun z hz => by
        rw [List.mem_singleton.mp hz]
        exact ⟨by decide, "java/lang/IndexOutOfBoundsException", xPk_in [604] (ws := [.classLink RL 13 "java/lang/IndexOutOfBoundsException"]) (by decide +kernel) (by decide +kernel) _ List.mem_cons_self, C0.2.2.2.2.2.1.2.2.2.2.2.1⟩) (by decide) (Or.inl ⟨by decide +kernel, rfl⟩)
      · cases h
  · cases h
theorem mL_ledgerSum (l : Launch) (X : Nat × (Nat → Int32)) (hl : l.stackTraces = false) : xMetH l X yL_ledgerSum cL_ledgerSum 5 (some .int) [(0, 10, 13, 13), (0, 10, 17, 15)] 8 2 (fL_ledgerSum X) :=
  xMetH_of (cl := xEnv (nL_ledgerSum X)) (rt := 0) (to := 10) (rows := [(0, 15, 4), (1, 19, 4)]) (stops := []) (tbl := tL_ledgerSum) (by decide +kernel) (by decide) tL_ledgerSum_ok (fun _ h => absurd h List.not_mem_nil) rfl (xEnv_ok (L := nL_ledgerSum X) (List.forall_mem_cons.mpr ⟨xCS_V (i := 49) (n := 2) (C := RX7) (k := 6) (mX7_ledgerSum l X hl) (xPk_in [787, 788, 789, 59, 790] (by decide +kernel) (by decide +kernel)) (by decide +kernel) (by decide) rfl (by decide) (by decide) (rX7_ledgerSum X), (fun _ h => absurd h List.not_mem_nil)⟩)) (xPk_in [786] (ws := [.codeWith yL_ledgerSum cL_ledgerSum 5 (some .int) [(0, 10, 13, 13), (0, 10, 17, 15)]]) (by decide +kernel) (by decide +kernel) _ List.mem_cons_self) (by decide +kernel) (fun C0 hT => hL_ledgerSum C0 hT)
    (fun as σ q h => by
      unfold fL_ledgerSum at h
      split at h
      · exact Nat.le_of_ble_eq_true rfl
      · cases h)
    (fun as σ r σ' h => by
      unfold fL_ledgerSum at h
      split at h
      · exact ⟨2, h⟩
      · cases h)
def tL_idealFlow : List XE := [(0, .aload_n 2, 1, 0, 0, []), (1, .iconst 0, 1, 0, 0, []), (2, .aload_n 0, 1, 0, 0, []), (3, .iload_n 1, 1, 0, 0, []), (4, .invokevirtual 52, 3, 104, 0, []), (7, .i2l, 1, 0, 0, []), (8, .lastore, 1, 0, 0, []), (9, .goto 6, 3, 15, 0, []), (12, .astore_n 3, 1, 0, 0, []), (13, .iconst 1, 1, 0, 0, []), (14, .ireturn, 1, 0, 0, []), (15, .iconst 0, 1, 0, 0, []), (16, .ireturn, 1, 0, 0, [])]
theorem tL_idealFlow_ok : xTblOK RL cL_idealFlow ([] : List Jvm.Cond) 4 tL_idealFlow = true := by decide +kernel
abbrev nL_idealFlow (X : Nat × (Nat → Int32)) : List (Nat × Nat × Nat × XS) := [(104, 2, 1, fX7_idealFlow X)]
def fL_idealFlow (X : Nat × (Nat → Int32)) : XS := fun as σ => match as with
  | [.inr (.inr (some (6, a0))), .inl a1, .inr (.inr (some (10, a2)))] => xIter X (xEnv (nL_idealFlow X)) (xHd 9 [(1, 13, 3)]) 0 [] tL_idealFlow 2 (0, [(0, .inr (.inr (some (6, a0)))), (1, .inl a1), (2, .inr (.inr (some (10, a2))))], σ, 1)
  | _ => none
theorem hL_idealFlow {G : XG} {X : Nat × (Nat → Int32)} {p : Program} {l : Launch} {e : Env} {R : Room} {s : State} {m : MethodId} {args : Array Value} {below : List Frame} {meth : Method} {c : Code} (C0 : xCtx G X p s m args meth c cL_idealFlow RL 4) (hT : c.exceptionTable.toList = tableOf [(0, 9, 12, 15)]) : ∀ pc E t i, xHd 9 [(1, 13, 3)] pc E = some (some (t, i)) → xCatOK G p l e R s m args below meth c 4 pc E t i := by
  intro pc E t i h
  unfold xHd at h
  split at h
  · rename_i hpc
    have hpc := Nat.le_of_ble_eq_true hpc
    simp only [xHdL] at h
    split at h
    · have hE := Nat.eq_of_beq_eq_true (by assumption : Nat.beq 1 E = true)
      subst hE
      cases h
      exact xCat C0 hT [] [] (fr := 0) (to := 9) (hp := 12) (ct := 15) rfl ⟨Nat.zero_le _, hpc⟩ (by decide) (xPk_in [605] (ws := [.classLink RL 15 (xXN 1)]) (by decide +kernel) (by decide +kernel) _ List.mem_cons_self) (by decide +kernel) (fun z hz => absurd hz List.not_mem_nil) (by decide) (Or.inr ⟨3, rfl, by decide +kernel, rfl⟩)
    · cases h
  · cases h
theorem mL_idealFlow (l : Launch) (X : Nat × (Nat → Int32)) (hl : l.stackTraces = false) : xMetH l X yL_idealFlow cL_idealFlow 4 (some .int) [(0, 9, 12, 15)] 8 1 (fL_idealFlow X) :=
  xMetH_of (cl := xEnv (nL_idealFlow X)) (rt := 0) (to := 9) (rows := [(1, 13, 3)]) (stops := []) (tbl := tL_idealFlow) (by decide +kernel) (by decide) tL_idealFlow_ok (fun _ h => absurd h List.not_mem_nil) rfl (xEnv_ok (L := nL_idealFlow X) (List.forall_mem_cons.mpr ⟨xCS_V (i := 52) (n := 1) (C := RX7) (k := 6) (mX7_idealFlow l X hl) (xPk_in [794, 795, 796, 59, 797] (by decide +kernel) (by decide +kernel)) (by decide +kernel) (by decide) rfl (by decide) (by decide) (rX7_idealFlow X), (fun _ h => absurd h List.not_mem_nil)⟩)) (xPk_in [793] (ws := [.codeWith yL_idealFlow cL_idealFlow 4 (some .int) [(0, 9, 12, 15)]]) (by decide +kernel) (by decide +kernel) _ List.mem_cons_self) (by decide +kernel) (fun C0 hT => hL_idealFlow C0 hT)
    (fun as σ q h => by
      unfold fL_idealFlow at h
      split at h
      · exact Nat.le_of_ble_eq_true rfl
      · cases h)
    (fun as σ r σ' h => by
      unfold fL_idealFlow at h
      split at h
      · exact ⟨2, h⟩
      · cases h)
def tL_signalFor : List XE := [(0, .aload_n 2, 1, 0, 0, []), (1, .iconst 0, 1, 0, 0, []), (2, .aload_n 0, 1, 0, 0, []), (3, .iload_n 1, 1, 0, 0, []), (4, .invokevirtual 55, 3, 110, 0, []), (7, .i2l, 1, 0, 0, []), (8, .lastore, 1, 0, 0, []), (9, .goto 6, 3, 15, 0, []), (12, .astore_n 3, 1, 0, 0, []), (13, .iconst 1, 1, 0, 0, []), (14, .ireturn, 1, 0, 0, []), (15, .iconst 0, 1, 0, 0, []), (16, .ireturn, 1, 0, 0, [])]
theorem tL_signalFor_ok : xTblOK RL cL_signalFor ([] : List Jvm.Cond) 4 tL_signalFor = true := by decide +kernel
abbrev nL_signalFor (X : Nat × (Nat → Int32)) : List (Nat × Nat × Nat × XS) := [(110, 2, 1, fX7_signalFor X)]
def fL_signalFor (X : Nat × (Nat → Int32)) : XS := fun as σ => match as with
  | [.inr (.inr (some (6, a0))), .inl a1, .inr (.inr (some (10, a2)))] => xIter X (xEnv (nL_signalFor X)) (xHd 9 [(1, 13, 3)]) 0 [] tL_signalFor 2 (0, [(0, .inr (.inr (some (6, a0)))), (1, .inl a1), (2, .inr (.inr (some (10, a2))))], σ, 1)
  | _ => none
theorem hL_signalFor {G : XG} {X : Nat × (Nat → Int32)} {p : Program} {l : Launch} {e : Env} {R : Room} {s : State} {m : MethodId} {args : Array Value} {below : List Frame} {meth : Method} {c : Code} (C0 : xCtx G X p s m args meth c cL_signalFor RL 4) (hT : c.exceptionTable.toList = tableOf [(0, 9, 12, 15)]) : ∀ pc E t i, xHd 9 [(1, 13, 3)] pc E = some (some (t, i)) → xCatOK G p l e R s m args below meth c 4 pc E t i := by
  intro pc E t i h
  unfold xHd at h
  split at h
  · rename_i hpc
    have hpc := Nat.le_of_ble_eq_true hpc
    simp only [xHdL] at h
    split at h
    · have hE := Nat.eq_of_beq_eq_true (by assumption : Nat.beq 1 E = true)
      subst hE
      cases h
      exact xCat C0 hT [] [] (fr := 0) (to := 9) (hp := 12) (ct := 15) rfl ⟨Nat.zero_le _, hpc⟩ (by decide) (xPk_in [605] (ws := [.classLink RL 15 (xXN 1)]) (by decide +kernel) (by decide +kernel) _ List.mem_cons_self) (by decide +kernel) (fun z hz => absurd hz List.not_mem_nil) (by decide) (Or.inr ⟨3, rfl, by decide +kernel, rfl⟩)
    · cases h
  · cases h
theorem mL_signalFor (l : Launch) (X : Nat × (Nat → Int32)) (hl : l.stackTraces = false) : xMetH l X yL_signalFor cL_signalFor 4 (some .int) [(0, 9, 12, 15)] 8 1 (fL_signalFor X) :=
  xMetH_of (cl := xEnv (nL_signalFor X)) (rt := 0) (to := 9) (rows := [(1, 13, 3)]) (stops := []) (tbl := tL_signalFor) (by decide +kernel) (by decide) tL_signalFor_ok (fun _ h => absurd h List.not_mem_nil) rfl (xEnv_ok (L := nL_signalFor X) (List.forall_mem_cons.mpr ⟨xCS_V (i := 55) (n := 1) (C := RX7) (k := 6) (mX7_signalFor l X hl) (xPk_in [802, 803, 804, 59, 805] (by decide +kernel) (by decide +kernel)) (by decide +kernel) (by decide) rfl (by decide) (by decide) (rX7_signalFor X), (fun _ h => absurd h List.not_mem_nil)⟩)) (xPk_in [801] (ws := [.codeWith yL_signalFor cL_signalFor 4 (some .int) [(0, 9, 12, 15)]]) (by decide +kernel) (by decide +kernel) _ List.mem_cons_self) (by decide +kernel) (fun C0 hT => hL_signalFor C0 hT)
    (fun as σ q h => by
      unfold fL_signalFor at h
      split at h
      · exact Nat.le_of_ble_eq_true rfl
      · cases h)
    (fun as σ r σ' h => by
      unfold fL_signalFor at h
      split at h
      · exact ⟨2, h⟩
      · cases h)
def tL_moveFor : List XE := [(0, .aload_n 3, 1, 0, 0, []), (1, .iconst 0, 1, 0, 0, []), (2, .aload_n 0, 1, 0, 0, []), (3, .iload_n 1, 1, 0, 0, []), (4, .iload_n 2, 1, 0, 0, []), (5, .invokevirtual 58, 3, 116, 0, []), (8, .i2l, 1, 0, 0, []), (9, .lastore, 1, 0, 0, []), (10, .goto 11, 3, 21, 0, []), (13, .astore 4, 2, 0, 0, []), (15, .iconst 1, 1, 0, 0, []), (16, .ireturn, 1, 0, 0, []), (17, .astore 4, 2, 0, 0, []), (19, .iconst 2, 1, 0, 0, []), (20, .ireturn, 1, 0, 0, []), (21, .iconst 0, 1, 0, 0, []), (22, .ireturn, 1, 0, 0, [])]
theorem tL_moveFor_ok : xTblOK RL cL_moveFor ([] : List Jvm.Cond) 5 tL_moveFor = true := by decide +kernel
abbrev nL_moveFor (X : Nat × (Nat → Int32)) : List (Nat × Nat × Nat × XS) := [(116, 3, 2, fX7_moveFor X)]
def fL_moveFor (X : Nat × (Nat → Int32)) : XS := fun as σ => match as with
  | [.inr (.inr (some (6, a0))), .inl a1, .inl a2, .inr (.inr (some (10, a3)))] => xIter X (xEnv (nL_moveFor X)) (xHd 10 [(0, 15, 4), (1, 19, 4)]) 0 [] tL_moveFor 2 (0, [(0, .inr (.inr (some (6, a0)))), (1, .inl a1), (2, .inl a2), (3, .inr (.inr (some (10, a3))))], σ, 2)
  | _ => none
theorem hL_moveFor {G : XG} {X : Nat × (Nat → Int32)} {p : Program} {l : Launch} {e : Env} {R : Room} {s : State} {m : MethodId} {args : Array Value} {below : List Frame} {meth : Method} {c : Code} (C0 : xCtx G X p s m args meth c cL_moveFor RL 5) (hT : c.exceptionTable.toList = tableOf [(0, 10, 13, 13), (0, 10, 17, 15)]) : ∀ pc E t i, xHd 10 [(0, 15, 4), (1, 19, 4)] pc E = some (some (t, i)) → xCatOK G p l e R s m args below meth c 5 pc E t i := by
  intro pc E t i h
  unfold xHd at h
  split at h
  · rename_i hpc
    have hpc := Nat.le_of_ble_eq_true hpc
    simp only [xHdL] at h
    split at h
    · have hE := Nat.eq_of_beq_eq_true (by assumption : Nat.beq 0 E = true)
      subst hE
      cases h
      exact xCat C0 hT [] [(0, 10, 17, 15)] (fr := 0) (to := 10) (hp := 13) (ct := 13) rfl ⟨Nat.zero_le _, hpc⟩ (by decide) (xPk_in [604] (ws := [.classLink RL 13 (xXN 0)]) (by decide +kernel) (by decide +kernel) _ List.mem_cons_self) (by decide +kernel) (fun z hz => absurd hz List.not_mem_nil) (by decide) (Or.inl ⟨by decide +kernel, rfl⟩)
    · split at h
      · have hE := Nat.eq_of_beq_eq_true (by assumption : Nat.beq 1 E = true)
        subst hE
        cases h
        exact xCat C0 hT [(0, 10, 13, 13)] [] (fr := 0) (to := 10) (hp := 17) (ct := 15) rfl ⟨Nat.zero_le _, hpc⟩ (by decide) (xPk_in [605] (ws := [.classLink RL 15 (xXN 1)]) (by decide +kernel) (by decide +kernel) _ List.mem_cons_self) (by decide +kernel) (fun z hz => by
        rw [List.mem_singleton.mp hz]
        exact ⟨by decide, "java/lang/IndexOutOfBoundsException", xPk_in [604] (ws := [.classLink RL 13 "java/lang/IndexOutOfBoundsException"]) (by decide +kernel) (by decide +kernel) _ List.mem_cons_self, C0.2.2.2.2.2.1.2.2.2.2.2.1⟩) (by decide) (Or.inl ⟨by decide +kernel, rfl⟩)
      · cases h
  · cases h
theorem mL_moveFor (l : Launch) (X : Nat × (Nat → Int32)) (hl : l.stackTraces = false) : xMetH l X yL_moveFor cL_moveFor 5 (some .int) [(0, 10, 13, 13), (0, 10, 17, 15)] 8 2 (fL_moveFor X) :=
  xMetH_of (cl := xEnv (nL_moveFor X)) (rt := 0) (to := 10) (rows := [(0, 15, 4), (1, 19, 4)]) (stops := []) (tbl := tL_moveFor) (by decide +kernel) (by decide) tL_moveFor_ok (fun _ h => absurd h List.not_mem_nil) rfl (xEnv_ok (L := nL_moveFor X) (List.forall_mem_cons.mpr ⟨xCS_V (i := 58) (n := 2) (C := RX7) (k := 6) (mX7_moveFor l X hl) (xPk_in [813, 814, 815, 59, 816] (by decide +kernel) (by decide +kernel)) (by decide +kernel) (by decide) rfl (by decide) (by decide) (rX7_moveFor X), (fun _ h => absurd h List.not_mem_nil)⟩)) (xPk_in [812] (ws := [.codeWith yL_moveFor cL_moveFor 5 (some .int) [(0, 10, 13, 13), (0, 10, 17, 15)]]) (by decide +kernel) (by decide +kernel) _ List.mem_cons_self) (by decide +kernel) (fun C0 hT => hL_moveFor C0 hT)
    (fun as σ q h => by
      unfold fL_moveFor at h
      split at h
      · exact Nat.le_of_ble_eq_true rfl
      · cases h)
    (fun as σ r σ' h => by
      unfold fL_moveFor at h
      split at h
      · exact ⟨2, h⟩
      · cases h)
def tL_restAfter : List XE := [(0, .aload_n 2, 1, 0, 0, []), (1, .iconst 0, 1, 0, 0, []), (2, .aload_n 0, 1, 0, 0, []), (3, .iload_n 1, 1, 0, 0, []), (4, .invokevirtual 61, 3, 122, 0, []), (7, .i2l, 1, 0, 0, []), (8, .lastore, 1, 0, 0, []), (9, .goto 6, 3, 15, 0, []), (12, .astore_n 3, 1, 0, 0, []), (13, .iconst 1, 1, 0, 0, []), (14, .ireturn, 1, 0, 0, []), (15, .iconst 0, 1, 0, 0, []), (16, .ireturn, 1, 0, 0, [])]
theorem tL_restAfter_ok : xTblOK RL cL_restAfter ([] : List Jvm.Cond) 4 tL_restAfter = true := by decide +kernel
abbrev nL_restAfter (X : Nat × (Nat → Int32)) : List (Nat × Nat × Nat × XS) := [(122, 2, 1, fX7_restAfter X)]
def fL_restAfter (X : Nat × (Nat → Int32)) : XS := fun as σ => match as with
  | [.inr (.inr (some (6, a0))), .inl a1, .inr (.inr (some (10, a2)))] => xIter X (xEnv (nL_restAfter X)) (xHd 9 [(1, 13, 3)]) 0 [] tL_restAfter 2 (0, [(0, .inr (.inr (some (6, a0)))), (1, .inl a1), (2, .inr (.inr (some (10, a2))))], σ, 1)
  | _ => none
theorem hL_restAfter {G : XG} {X : Nat × (Nat → Int32)} {p : Program} {l : Launch} {e : Env} {R : Room} {s : State} {m : MethodId} {args : Array Value} {below : List Frame} {meth : Method} {c : Code} (C0 : xCtx G X p s m args meth c cL_restAfter RL 4) (hT : c.exceptionTable.toList = tableOf [(0, 9, 12, 15)]) : ∀ pc E t i, xHd 9 [(1, 13, 3)] pc E = some (some (t, i)) → xCatOK G p l e R s m args below meth c 4 pc E t i := by
  intro pc E t i h
  unfold xHd at h
  split at h
  · rename_i hpc
    have hpc := Nat.le_of_ble_eq_true hpc
    simp only [xHdL] at h
    split at h
    · have hE := Nat.eq_of_beq_eq_true (by assumption : Nat.beq 1 E = true)
      subst hE
      cases h
      exact xCat C0 hT [] [] (fr := 0) (to := 9) (hp := 12) (ct := 15) rfl ⟨Nat.zero_le _, hpc⟩ (by decide) (xPk_in [605] (ws := [.classLink RL 15 (xXN 1)]) (by decide +kernel) (by decide +kernel) _ List.mem_cons_self) (by decide +kernel) (fun z hz => absurd hz List.not_mem_nil) (by decide) (Or.inr ⟨3, rfl, by decide +kernel, rfl⟩)
    · cases h
  · cases h
theorem mL_restAfter (l : Launch) (X : Nat × (Nat → Int32)) (hl : l.stackTraces = false) : xMetH l X yL_restAfter cL_restAfter 4 (some .int) [(0, 9, 12, 15)] 8 1 (fL_restAfter X) :=
  xMetH_of (cl := xEnv (nL_restAfter X)) (rt := 0) (to := 9) (rows := [(1, 13, 3)]) (stops := []) (tbl := tL_restAfter) (by decide +kernel) (by decide) tL_restAfter_ok (fun _ h => absurd h List.not_mem_nil) rfl (xEnv_ok (L := nL_restAfter X) (List.forall_mem_cons.mpr ⟨xCS_V (i := 61) (n := 1) (C := RX7) (k := 6) (mX7_restAfter l X hl) (xPk_in [822, 823, 824, 59, 825] (by decide +kernel) (by decide +kernel)) (by decide +kernel) (by decide) rfl (by decide) (by decide) (rX7_restAfter X), (fun _ h => absurd h List.not_mem_nil)⟩)) (xPk_in [821] (ws := [.codeWith yL_restAfter cL_restAfter 4 (some .int) [(0, 9, 12, 15)]]) (by decide +kernel) (by decide +kernel) _ List.mem_cons_self) (by decide +kernel) (fun C0 hT => hL_restAfter C0 hT)
    (fun as σ q h => by
      unfold fL_restAfter at h
      split at h
      · exact Nat.le_of_ble_eq_true rfl
      · cases h)
    (fun as σ r σ' h => by
      unfold fL_restAfter at h
      split at h
      · exact ⟨2, h⟩
      · cases h)
def tL_wornAfter : List XE := [(0, .aload 4, 2, 0, 0, []), (2, .iconst 0, 1, 0, 0, []), (3, .aload_n 0, 1, 0, 0, []), (4, .iload_n 1, 1, 0, 0, []), (5, .iload_n 2, 1, 0, 0, []), (6, .iload_n 3, 1, 0, 0, []), (7, .invokevirtual 64, 3, 128, 0, []), (10, .i2l, 1, 0, 0, []), (11, .lastore, 1, 0, 0, []), (12, .goto 11, 3, 23, 0, []), (15, .astore 5, 2, 0, 0, []), (17, .iconst 1, 1, 0, 0, []), (18, .ireturn, 1, 0, 0, []), (19, .astore 5, 2, 0, 0, []), (21, .iconst 2, 1, 0, 0, []), (22, .ireturn, 1, 0, 0, []), (23, .iconst 0, 1, 0, 0, []), (24, .ireturn, 1, 0, 0, [])]
theorem tL_wornAfter_ok : xTblOK RL cL_wornAfter ([] : List Jvm.Cond) 6 tL_wornAfter = true := by decide +kernel
abbrev nL_wornAfter (X : Nat × (Nat → Int32)) : List (Nat × Nat × Nat × XS) := [(128, 4, 2, fX7_wornAfter X)]
def fL_wornAfter (X : Nat × (Nat → Int32)) : XS := fun as σ => match as with
  | [.inr (.inr (some (6, a0))), .inl a1, .inl a2, .inl a3, .inr (.inr (some (10, a4)))] => xIter X (xEnv (nL_wornAfter X)) (xHd 12 [(0, 17, 5), (1, 21, 5)]) 0 [] tL_wornAfter 2 (0, [(0, .inr (.inr (some (6, a0)))), (1, .inl a1), (2, .inl a2), (3, .inl a3), (4, .inr (.inr (some (10, a4))))], σ, 2)
  | _ => none
theorem hL_wornAfter {G : XG} {X : Nat × (Nat → Int32)} {p : Program} {l : Launch} {e : Env} {R : Room} {s : State} {m : MethodId} {args : Array Value} {below : List Frame} {meth : Method} {c : Code} (C0 : xCtx G X p s m args meth c cL_wornAfter RL 6) (hT : c.exceptionTable.toList = tableOf [(0, 12, 15, 13), (0, 12, 19, 15)]) : ∀ pc E t i, xHd 12 [(0, 17, 5), (1, 21, 5)] pc E = some (some (t, i)) → xCatOK G p l e R s m args below meth c 6 pc E t i := by
  intro pc E t i h
  unfold xHd at h
  split at h
  · rename_i hpc
    have hpc := Nat.le_of_ble_eq_true hpc
    simp only [xHdL] at h
    split at h
    · have hE := Nat.eq_of_beq_eq_true (by assumption : Nat.beq 0 E = true)
      subst hE
      cases h
      exact xCat C0 hT [] [(0, 12, 19, 15)] (fr := 0) (to := 12) (hp := 15) (ct := 13) rfl ⟨Nat.zero_le _, hpc⟩ (by decide) (xPk_in [604] (ws := [.classLink RL 13 (xXN 0)]) (by decide +kernel) (by decide +kernel) _ List.mem_cons_self) (by decide +kernel) (fun z hz => absurd hz List.not_mem_nil) (by decide) (Or.inl ⟨by decide +kernel, rfl⟩)
    · split at h
      · have hE := Nat.eq_of_beq_eq_true (by assumption : Nat.beq 1 E = true)
        subst hE
        cases h
        exact xCat C0 hT [(0, 12, 15, 13)] [] (fr := 0) (to := 12) (hp := 19) (ct := 15) rfl ⟨Nat.zero_le _, hpc⟩ (by decide) (xPk_in [605] (ws := [.classLink RL 15 (xXN 1)]) (by decide +kernel) (by decide +kernel) _ List.mem_cons_self) (by decide +kernel) (fun z hz => by
        rw [List.mem_singleton.mp hz]
        exact ⟨by decide, "java/lang/IndexOutOfBoundsException", xPk_in [604] (ws := [.classLink RL 13 "java/lang/IndexOutOfBoundsException"]) (by decide +kernel) (by decide +kernel) _ List.mem_cons_self, C0.2.2.2.2.2.1.2.2.2.2.2.1⟩) (by decide) (Or.inl ⟨by decide +kernel, rfl⟩)
      · cases h
  · cases h
theorem mL_wornAfter (l : Launch) (X : Nat × (Nat → Int32)) (hl : l.stackTraces = false) : xMetH l X yL_wornAfter cL_wornAfter 6 (some .int) [(0, 12, 15, 13), (0, 12, 19, 15)] 8 2 (fL_wornAfter X) :=
  xMetH_of (cl := xEnv (nL_wornAfter X)) (rt := 0) (to := 12) (rows := [(0, 17, 5), (1, 21, 5)]) (stops := []) (tbl := tL_wornAfter) (by decide +kernel) (by decide) tL_wornAfter_ok (fun _ h => absurd h List.not_mem_nil) rfl (xEnv_ok (L := nL_wornAfter X) (List.forall_mem_cons.mpr ⟨xCS_V (i := 64) (n := 3) (C := RX7) (k := 6) (mX7_wornAfter l X hl) (xPk_in [832, 833, 834, 59, 835] (by decide +kernel) (by decide +kernel)) (by decide +kernel) (by decide) rfl (by decide) (by decide) (rX7_wornAfter X), (fun _ h => absurd h List.not_mem_nil)⟩)) (xPk_in [831] (ws := [.codeWith yL_wornAfter cL_wornAfter 6 (some .int) [(0, 12, 15, 13), (0, 12, 19, 15)]]) (by decide +kernel) (by decide +kernel) _ List.mem_cons_self) (by decide +kernel) (fun C0 hT => hL_wornAfter C0 hT)
    (fun as σ q h => by
      unfold fL_wornAfter at h
      split at h
      · exact Nat.le_of_ble_eq_true rfl
      · cases h)
    (fun as σ r σ' h => by
      unfold fL_wornAfter at h
      split at h
      · exact ⟨2, h⟩
      · cases h)
def tL_missedWithin : List XE := [(0, .aload_n 2, 1, 0, 0, []), (1, .iconst 0, 1, 0, 0, []), (2, .aload_n 0, 1, 0, 0, []), (3, .iload_n 1, 1, 0, 0, []), (4, .invokevirtual 67, 3, 134, 0, []), (7, .i2l, 1, 0, 0, []), (8, .lastore, 1, 0, 0, []), (9, .goto 6, 3, 15, 0, []), (12, .astore_n 3, 1, 0, 0, []), (13, .iconst 1, 1, 0, 0, []), (14, .ireturn, 1, 0, 0, []), (15, .iconst 0, 1, 0, 0, []), (16, .ireturn, 1, 0, 0, [])]
theorem tL_missedWithin_ok : xTblOK RL cL_missedWithin ([] : List Jvm.Cond) 4 tL_missedWithin = true := by decide +kernel
abbrev nL_missedWithin (X : Nat × (Nat → Int32)) : List (Nat × Nat × Nat × XS) := [(134, 2, 1, fX7_missedWithin X)]
def fL_missedWithin (X : Nat × (Nat → Int32)) : XS := fun as σ => match as with
  | [.inr (.inr (some (6, a0))), .inl a1, .inr (.inr (some (10, a2)))] => xIter X (xEnv (nL_missedWithin X)) (xHd 9 [(1, 13, 3)]) 0 [] tL_missedWithin 2 (0, [(0, .inr (.inr (some (6, a0)))), (1, .inl a1), (2, .inr (.inr (some (10, a2))))], σ, 1)
  | _ => none
theorem hL_missedWithin {G : XG} {X : Nat × (Nat → Int32)} {p : Program} {l : Launch} {e : Env} {R : Room} {s : State} {m : MethodId} {args : Array Value} {below : List Frame} {meth : Method} {c : Code} (C0 : xCtx G X p s m args meth c cL_missedWithin RL 4) (hT : c.exceptionTable.toList = tableOf [(0, 9, 12, 15)]) : ∀ pc E t i, xHd 9 [(1, 13, 3)] pc E = some (some (t, i)) → xCatOK G p l e R s m args below meth c 4 pc E t i := by
  intro pc E t i h
  unfold xHd at h
  split at h
  · rename_i hpc
    have hpc := Nat.le_of_ble_eq_true hpc
    simp only [xHdL] at h
    split at h
    · have hE := Nat.eq_of_beq_eq_true (by assumption : Nat.beq 1 E = true)
      subst hE
      cases h
      exact xCat C0 hT [] [] (fr := 0) (to := 9) (hp := 12) (ct := 15) rfl ⟨Nat.zero_le _, hpc⟩ (by decide) (xPk_in [605] (ws := [.classLink RL 15 (xXN 1)]) (by decide +kernel) (by decide +kernel) _ List.mem_cons_self) (by decide +kernel) (fun z hz => absurd hz List.not_mem_nil) (by decide) (Or.inr ⟨3, rfl, by decide +kernel, rfl⟩)
    · cases h
  · cases h
theorem mL_missedWithin (l : Launch) (X : Nat × (Nat → Int32)) (hl : l.stackTraces = false) : xMetH l X yL_missedWithin cL_missedWithin 4 (some .int) [(0, 9, 12, 15)] 8 1 (fL_missedWithin X) :=
  xMetH_of (cl := xEnv (nL_missedWithin X)) (rt := 0) (to := 9) (rows := [(1, 13, 3)]) (stops := []) (tbl := tL_missedWithin) (by decide +kernel) (by decide) tL_missedWithin_ok (fun _ h => absurd h List.not_mem_nil) rfl (xEnv_ok (L := nL_missedWithin X) (List.forall_mem_cons.mpr ⟨xCS_V (i := 67) (n := 1) (C := RX7) (k := 6) (mX7_missedWithin l X hl) (xPk_in [841, 842, 843, 59, 844] (by decide +kernel) (by decide +kernel)) (by decide +kernel) (by decide) rfl (by decide) (by decide) (rX7_missedWithin X), (fun _ h => absurd h List.not_mem_nil)⟩)) (xPk_in [840] (ws := [.codeWith yL_missedWithin cL_missedWithin 4 (some .int) [(0, 9, 12, 15)]]) (by decide +kernel) (by decide +kernel) _ List.mem_cons_self) (by decide +kernel) (fun C0 hT => hL_missedWithin C0 hT)
    (fun as σ q h => by
      unfold fL_missedWithin at h
      split at h
      · exact Nat.le_of_ble_eq_true rfl
      · cases h)
    (fun as σ r σ' h => by
      unfold fL_missedWithin at h
      split at h
      · exact ⟨2, h⟩
      · cases h)
def tL_type : List XE := [(0, .aload_n 2, 1, 0, 0, []), (1, .iconst 0, 1, 0, 0, []), (2, .aload_n 0, 1, 0, 0, []), (3, .iload_n 1, 1, 0, 0, []), (4, .invokevirtual 70, 3, 140, 0, []), (7, .i2l, 1, 0, 0, []), (8, .lastore, 1, 0, 0, []), (9, .goto 9, 3, 18, 0, []), (12, .astore_n 3, 1, 0, 0, []), (13, .iconst 1, 1, 0, 0, []), (14, .ireturn, 1, 0, 0, []), (15, .astore_n 3, 1, 0, 0, []), (16, .iconst 2, 1, 0, 0, []), (17, .ireturn, 1, 0, 0, []), (18, .iconst 0, 1, 0, 0, []), (19, .ireturn, 1, 0, 0, [])]
theorem tL_type_ok : xTblOK RL cL_type ([] : List Jvm.Cond) 4 tL_type = true := by decide +kernel
abbrev nL_type (X : Nat × (Nat → Int32)) : List (Nat × Nat × Nat × XS) := [(140, 2, 2, fX7_type X)]
def fL_type (X : Nat × (Nat → Int32)) : XS := fun as σ => match as with
  | [.inr (.inr (some (6, a0))), .inl a1, .inr (.inr (some (10, a2)))] => xIter X (xEnv (nL_type X)) (xHd 9 [(1, 13, 3), (2, 16, 3)]) 0 [] tL_type 2 (0, [(0, .inr (.inr (some (6, a0)))), (1, .inl a1), (2, .inr (.inr (some (10, a2))))], σ, 2)
  | _ => none
theorem hL_type {G : XG} {X : Nat × (Nat → Int32)} {p : Program} {l : Launch} {e : Env} {R : Room} {s : State} {m : MethodId} {args : Array Value} {below : List Frame} {meth : Method} {c : Code} (C0 : xCtx G X p s m args meth c cL_type RL 4) (hT : c.exceptionTable.toList = tableOf [(0, 9, 12, 15), (0, 9, 15, 38)]) : ∀ pc E t i, xHd 9 [(1, 13, 3), (2, 16, 3)] pc E = some (some (t, i)) → xCatOK G p l e R s m args below meth c 4 pc E t i := by
  intro pc E t i h
  unfold xHd at h
  split at h
  · rename_i hpc
    have hpc := Nat.le_of_ble_eq_true hpc
    simp only [xHdL] at h
    split at h
    · have hE := Nat.eq_of_beq_eq_true (by assumption : Nat.beq 1 E = true)
      subst hE
      cases h
      exact xCat C0 hT [] [(0, 9, 15, 38)] (fr := 0) (to := 9) (hp := 12) (ct := 15) rfl ⟨Nat.zero_le _, hpc⟩ (by decide) (xPk_in [605] (ws := [.classLink RL 15 (xXN 1)]) (by decide +kernel) (by decide +kernel) _ List.mem_cons_self) (by decide +kernel) (fun z hz => absurd hz List.not_mem_nil) (by decide) (Or.inr ⟨3, rfl, by decide +kernel, rfl⟩)
    · split at h
      · have hE := Nat.eq_of_beq_eq_true (by assumption : Nat.beq 2 E = true)
        subst hE
        cases h
        exact xCat C0 hT [(0, 9, 12, 15)] [] (fr := 0) (to := 9) (hp := 15) (ct := 38) rfl ⟨Nat.zero_le _, hpc⟩ (by decide) (xPk_in [742] (ws := [.classLink RL 38 (xXN 2)]) (by decide +kernel) (by decide +kernel) _ List.mem_cons_self) (by decide +kernel) (fun z hz => by
        rw [List.mem_singleton.mp hz]
        exact ⟨by decide, "java/lang/IllegalArgumentException", xPk_in [605] (ws := [.classLink RL 15 "java/lang/IllegalArgumentException"]) (by decide +kernel) (by decide +kernel) _ List.mem_cons_self, C0.2.2.2.2.2.1.2.2.2.2.2.2⟩) (by decide) (Or.inr ⟨3, rfl, by decide +kernel, rfl⟩)
      · cases h
  · cases h
theorem mL_type (l : Launch) (X : Nat × (Nat → Int32)) (hl : l.stackTraces = false) : xMetH l X yL_type cL_type 4 (some .int) [(0, 9, 12, 15), (0, 9, 15, 38)] 8 2 (fL_type X) :=
  xMetH_of (cl := xEnv (nL_type X)) (rt := 0) (to := 9) (rows := [(1, 13, 3), (2, 16, 3)]) (stops := []) (tbl := tL_type) (by decide +kernel) (by decide) tL_type_ok (fun _ h => absurd h List.not_mem_nil) rfl (xEnv_ok (L := nL_type X) (List.forall_mem_cons.mpr ⟨xCS_V (i := 70) (n := 1) (C := RX7) (k := 6) (mX7_type l X hl) (xPk_in [848, 849, 850, 59, 851] (by decide +kernel) (by decide +kernel)) (by decide +kernel) (by decide) rfl (by decide) (by decide) (rX7_type X), (fun _ h => absurd h List.not_mem_nil)⟩)) (xPk_in [847] (ws := [.codeWith yL_type cL_type 4 (some .int) [(0, 9, 12, 15), (0, 9, 15, 38)]]) (by decide +kernel) (by decide +kernel) _ List.mem_cons_self) (by decide +kernel) (fun C0 hT => hL_type C0 hT)
    (fun as σ q h => by
      unfold fL_type at h
      split at h
      · exact Nat.le_of_ble_eq_true rfl
      · cases h)
    (fun as σ r σ' h => by
      unfold fL_type at h
      split at h
      · exact ⟨2, h⟩
      · cases h)
def tL_undo : List XE := [(0, .aload_n 1, 1, 0, 0, []), (1, .iconst 0, 1, 0, 0, []), (2, .aload_n 0, 1, 0, 0, []), (3, .invokevirtual 73, 3, 146, 0, []), (6, .i2l, 1, 0, 0, []), (7, .lastore, 1, 0, 0, []), (8, .goto 6, 3, 14, 0, []), (11, .astore_n 2, 1, 0, 0, []), (12, .iconst 1, 1, 0, 0, []), (13, .ireturn, 1, 0, 0, []), (14, .iconst 0, 1, 0, 0, []), (15, .ireturn, 1, 0, 0, [])]
theorem tL_undo_ok : xTblOK RL cL_undo ([] : List Jvm.Cond) 3 tL_undo = true := by decide +kernel
abbrev nL_undo (X : Nat × (Nat → Int32)) : List (Nat × Nat × Nat × XS) := [(146, 1, 1, fX7_undo X)]
def fL_undo (X : Nat × (Nat → Int32)) : XS := fun as σ => match as with
  | [.inr (.inr (some (6, a0))), .inr (.inr (some (10, a1)))] => xIter X (xEnv (nL_undo X)) (xHd 8 [(2, 12, 2)]) 0 [] tL_undo 2 (0, [(0, .inr (.inr (some (6, a0)))), (1, .inr (.inr (some (10, a1))))], σ, 1)
  | _ => none
theorem hL_undo {G : XG} {X : Nat × (Nat → Int32)} {p : Program} {l : Launch} {e : Env} {R : Room} {s : State} {m : MethodId} {args : Array Value} {below : List Frame} {meth : Method} {c : Code} (C0 : xCtx G X p s m args meth c cL_undo RL 3) (hT : c.exceptionTable.toList = tableOf [(0, 8, 11, 38)]) : ∀ pc E t i, xHd 8 [(2, 12, 2)] pc E = some (some (t, i)) → xCatOK G p l e R s m args below meth c 3 pc E t i := by
  intro pc E t i h
  unfold xHd at h
  split at h
  · rename_i hpc
    have hpc := Nat.le_of_ble_eq_true hpc
    simp only [xHdL] at h
    split at h
    · have hE := Nat.eq_of_beq_eq_true (by assumption : Nat.beq 2 E = true)
      subst hE
      cases h
      exact xCat C0 hT [] [] (fr := 0) (to := 8) (hp := 11) (ct := 38) rfl ⟨Nat.zero_le _, hpc⟩ (by decide) (xPk_in [742] (ws := [.classLink RL 38 (xXN 2)]) (by decide +kernel) (by decide +kernel) _ List.mem_cons_self) (by decide +kernel) (fun z hz => absurd hz List.not_mem_nil) (by decide) (Or.inr ⟨2, rfl, by decide +kernel, rfl⟩)
    · cases h
  · cases h
theorem mL_undo (l : Launch) (X : Nat × (Nat → Int32)) (hl : l.stackTraces = false) : xMetH l X yL_undo cL_undo 3 (some .int) [(0, 8, 11, 38)] 7 1 (fL_undo X) :=
  xMetH_of (cl := xEnv (nL_undo X)) (rt := 0) (to := 8) (rows := [(2, 12, 2)]) (stops := []) (tbl := tL_undo) (by decide +kernel) (by decide) tL_undo_ok (fun _ h => absurd h List.not_mem_nil) rfl (xEnv_ok (L := nL_undo X) (List.forall_mem_cons.mpr ⟨xCS_V (i := 73) (n := 0) (C := RX7) (k := 6) (mX7_undo l X hl) (xPk_in [865, 866, 867, 59, 868] (by decide +kernel) (by decide +kernel)) (by decide +kernel) (by decide) rfl (by decide) (by decide) (rX7_undo X), (fun _ h => absurd h List.not_mem_nil)⟩)) (xPk_in [864] (ws := [.codeWith yL_undo cL_undo 3 (some .int) [(0, 8, 11, 38)]]) (by decide +kernel) (by decide +kernel) _ List.mem_cons_self) (by decide +kernel) (fun C0 hT => hL_undo C0 hT)
    (fun as σ q h => by
      unfold fL_undo at h
      split at h
      · exact Nat.le_of_ble_eq_true rfl
      · cases h)
    (fun as σ r σ' h => by
      unfold fL_undo at h
      split at h
      · exact ⟨2, h⟩
      · cases h)
