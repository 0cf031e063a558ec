/-! ===== the law's own methods: calls with handlers ===== -/
def xMetH (l : Launch) (X : Nat × (Nat → Int32)) (y : MethodName) (cc : ByteArray) (maxL : Nat) (ret : Option FieldType) (hh : List (Nat × Nat × Nat × Nat)) (lev κ : Nat) (f : XS) : Prop :=
  ∀ (G : XG) (as : List XV) (σ : XH) (r : XR) (σ' : XH), xAP G → xsok as → f as σ = some (r, σ') →
    vx_Met l y [.codeWith y cc maxL ret hh] (xRm lev κ) (xPc0 G X as σ) (fun _ => xQR G σ' r) (xXR G σ' r) κ (6 * κ) (xA G)
theorem xCS_SH {l : Launch} {X : Nat × (Nat → Int32)} {own : String} {lev lev' i n κ' maxL : Nat} {y : MethodName} {cy : ByteArray} {ret : Option FieldType} {hh : List (Nat × Nat × Nat × Nat)} {f : XS} (hM : xMetH l X y cy maxL ret hh lev' κ' f)
    (hw : ∀ w ∈ va_wsS own i y [.codeWith y cy maxL ret hh], w ∈ xW) (hd : y.cls ≠ "java/lang/invoke/MethodHandle" ∧ y.cls ≠ "java/lang/invoke/VarHandle" ∧ (parseMethodDescriptor y.desc).map (fun d => d.parameters.length) = some n) (hl : lev' + 1 ≤ lev) (hm : 19 + maxL + 37 * lev' ≤ 37 * lev) : xCS l X own lev (2 * i + 1) n κ' f := by
  intro p e R s m args below meth c H locs cells slots cc pc ls G nL σ σ' r as rest C0 hR hS hfr hlo hce hsl hsz hlen hok hws hfa hdg
  obtain ⟨hx, hb, hown, hml, hlocks, hK, hts, hST, hA⟩ := id C0
  rw [xCI_S] at hdg
  have hG : GoodIn xW (va_wsS own i y [.codeWith y cy maxL ret hh]) := fun w h => ⟨hw w h, xW_good (hw w h)⟩
  have hcw := vx_cwSW (R := R) (s := s) (args := args) (mc := κ') (ms := 6 * κ') (rm := xRm lev' κ') n hts hG rfl rfl rfl hd ⟨by show lev' + 1 ≤ R.frames; omega, by show 8 + (maxL + 11) + 37 * lev' ≤ R.locals; omega⟩
  exact vx_runSX (As := as.map (xcv G)) (rest := rest.map (xcv G)) (g := F0 m pc ls ((as.reverse ++ rest).map (xcv G))) (below := below) (e := e) (cells := cells) (slots := slots) (locs := locs) (H := H) (meth := meth) ⟨hx, hb, hml, hown, hts⟩ (hM G as σ r σ' hA hok hfa) hcw
    ⟨xPc0_blind _ _ _ _, xPc0_pre C0 hR hS⟩ rfl (by rw [List.length_map]; exact hlen) hsz (by simp) (lv_room (by rw [xws_cat]; exact hws)) hdg ⟨hce, hsl⟩
def xHdL : List (Nat × Nat × Nat) → Nat → Option (Option (Nat × Nat))
  | [], _ => none
  | q :: r, E => match Nat.beq q.1 E with
    | true => some (some q.2)
    | false => xHdL r E
def xHd (to : Nat) (rows : List (Nat × Nat × Nat)) : Nat → Nat → Option (Option (Nat × Nat)) := fun pc E => match Nat.blt pc to with
  | true => xHdL rows E
  | false => none
theorem xHdL_no : ∀ (rows : List (Nat × Nat × Nat)) (E : Nat), xHdL rows E ≠ some none
  | [], _ => fun h => by cases h
  | q :: r, E => by
    unfold xHdL
    split
    · exact fun h => by cases h
    · exact xHdL_no r E
/-- the claim on a handler -/
abbrev xCatOK (G : XG) (p : Program) (l : Launch) (e : Env) (R : Room) (s : State) (m : MethodId) (args : Array Value) (below : List Frame) (meth : Method) (c : Code) (nL pc E t i : Nat) : Prop :=
  ∀ (H : Heap) (locs : List Loc) (ls : Array Slot) (cells slots : Nat) (lv : XL) (q : Addr) (ce : Cell) (rest : List Value) (Q : State → Prop), lv_has ls nL (xcl G lv) → H[q]? = some ce → ce.vm = .none → s.vm.findClass (xXN E) = some ce.cls →
    (∀ ls', lv_has ls' nL (xcl G (lv.filter (xk1 i))) → W p l e R s m args below meth c H locs cells slots Q (F0 m t ls' [])) → vx_W p l e R s m args below meth c H locs cells slots Q (F0 m pc ls rest) q
theorem xCat {G : XG} {X : Nat × (Nat → Int32)} {p : Program} {l : Launch} {e : Env} {R : Room} {s : State} {m : MethodId} {args : Array Value} {below : List Frame} {meth : Method} {c : Code} {cc : ByteArray} {nL pc E t i : Nat} {hh : List (Nat × Nat × Nat × Nat)}
    (C0 : xCtx G X p s m args meth c cc RL nL) (hT : c.exceptionTable.toList = tableOf hh) (pre suf : List (Nat × Nat × Nat × Nat)) {fr to hp ct : Nat} (hs : hh = pre ++ (fr, to, hp, ct) :: suf) (hpc : fr ≤ pc ∧ pc < to) (hct : ct ≠ 0) (hlink : Jvm.Cond.classLink RL ct (xXN E) ∈ xW) (hcast : Jvm.Cond.castable (xXN E) (xXN E) ∈ xTW)
    (hpass : ∀ z ∈ pre, z.2.2.2 ≠ 0 ∧ ∃ nm : String, Jvm.Cond.classLink RL z.2.2.2 nm ∈ xW ∧ va_Nc (xXN E) nm s) (hi : i < nL) (hst : (decode cc hp = .ok (.astore i, 2) ∧ t = hp + 2) ∨ ∃ q : Fin 4, (q : Nat) = i ∧ decode cc hp = .ok (.astore_n q, 1) ∧ t = hp + 1) : xCatOK G p l e R s m args below meth c nL pc E t i := by
  obtain ⟨hx, hb, hown, hml, hlocks, hWK, hts, hST, hA⟩ := C0
  intro H locs ls cells slots lv q ce rest Q hl hq hv hcl kk
  refine vx_catch hown (tableOf pre) ⟨fr, to, hp, ct⟩ (tableOf suf) (by rw [hT, hs]; simp [tableOf]) (fun z hz => ?_) (by simp [covers, hpc.1, hpc.2]) hct (hts _ hlink) (va_tabs rfl rfl (hWK.2.2.2.1 _ hcast)) hq hv hcl ?_
  · obtain ⟨z0, hz0, rfl⟩ := List.mem_map.mp hz
    obtain ⟨g1, nm, g2, g3⟩ := hpass z0 hz0
    exact Or.inr ⟨g1, nm, hts _ g2, g3⟩
  · have hsub : ∀ ls', lv_has ls' nL ((i, Value.ref q) :: xcl G (lv.filter (xk1 i))) → lv_has ls' nL (xcl G (lv.filter (xk1 i))) := fun ls' h => ⟨h.1, h.2.1, fun z hz => h.2.2 z (List.mem_cons_of_mem _ hz)⟩
    rcases hst with ⟨hd, rfl⟩ | ⟨n, hn, hd, rfl⟩
    · exact lv_astore (lv' := (i, Value.ref q) :: xcl G (lv.filter (xk1 i))) hx hb hd hl hi (by rw [xcl_f1]) (fun ls' h => kk ls' (hsub ls' h))
    · exact lv_astore_n (lv' := (i, Value.ref q) :: xcl G (lv.filter (xk1 i))) hx hb hd hn hl hi (by rw [xcl_f1]) (fun ls' h => kk ls' (hsub ls' h))
theorem xMetH_of {l : Launch} {X : Nat × (Nat → Int32)} {y : MethodName} {cc : ByteArray} {maxL : Nat} {ret : Option FieldType} {hh : List (Nat × Nat × Nat × Nat)} {lev κ : Nat} {f : XS} {WL : List Jvm.Cond} {cl : XC} {rt to : Nat} {rows : List (Nat × Nat × Nat)} {stops : List (Nat × List Nat)} {tbl : List XE}
    (hy : plainName y.cls = true) (hlv : 1 ≤ lev) (htbl : xTblOK y.cls cc WL maxL tbl = true) (hWL : ∀ w ∈ WL, w ∈ xW) (hret : xRO rt ret) (hcl : ∀ a n κ' f, cl a = some (n, κ', f) → xCS l X y.cls lev a n κ' f)
    (hcw : Jvm.Cond.codeWith y cc maxL ret hh ∈ xW) (hnew : tbl.all (fun e => !xIsNew e) = true)
    (hcat : ∀ {G : XG} {p : Program} {e : Env} {R : Room} {s : State} {m : MethodId} {args : Array Value} {below : List Frame} {meth : Method} {c : Code}, xCtx G X p s m args meth c cc y.cls maxL → c.exceptionTable.toList = tableOf hh → ∀ pc E t i, xHd to rows pc E = some (some (t, i)) → xCatOK G p l e R s m args below meth c maxL pc E t i)
    (hlen : ∀ as σ q, f as σ = some q → xws as ≤ maxL) (hf : ∀ as σ r σ', f as σ = some (r, σ') → ∃ n, xIter X cl (xHd to rows) rt stops tbl n (0, xargs 0 as, σ, κ) = some (r, σ')) : xMetH l X y cc maxL ret hh lev κ f := by
  intro G as σ r σ' hA hok hfa
  refine vx_ofWH (cc := cc) (maxL := maxL) (ret := ret) (hh := hh) (ws' := []) hy rfl ?_
  intro p e s m args below meth c s₁ B hml hv
  obtain ⟨hargs, hWK, hST, hR⟩ := hv
  have hx := B.exec
  have hb := B.bytes
  have hr := B.returns
  have hown : s.vm.findClass y.cls = some m.cls := findClass_of_methodNamed B.named
  have hlocks := B.notSynchronized
  have hts : ∀ w ∈ xW, w.before args s = true := fun w hw => word_at (State.WarmedH.refl s) (xW_good hw) (hWK.2.1 w hw)
  have hT := vx_table (x := y) B (hts _ hcw)
  have C0 : xCtx G X p s m args meth c cc y.cls maxL := ⟨hx, hb, hown, hml, hlocks, hWK, hts, hST, hA⟩
  have hrt : xRT rt meth := by
    match rt, hret with
    | 0, h => exact hr.trans h
    | 1, h => exact hr.trans h
    | 2, h => exact hr.trans h
    | 3, ⟨n, h⟩ => exact ⟨n, hr.trans h⟩
    | n + 4, h => exact hr.trans h
  have hnone : ∀ pc E, xHd to rows pc E ≠ some none := fun pc E => by
    unfold xHd
    split
    · exact xHdL_no rows E
    · exact fun h => by cases h
  have F : xFix G X p l e (xRm lev κ) s m args below meth c cc y.cls maxL lev κ WL cl (xHd to rows) rt := ⟨C0, ⟨Nat.le_refl _, Nat.le_refl _, Nat.le_refl _, Nat.le_refl _⟩, hWL, hrt, hcl, fun pc E h => absurd h (hnone pc E), fun pc E t i h => hcat C0 hT pc E t i h⟩
  obtain ⟨n, hn⟩ := hf as σ r σ' hfa
  have hgo := xIter_sound (e := e) (R := xRm lev κ) (below := below) F hlv htbl (fun en hen hi => xNoNew (P := fun en => xNewOK G p l e (xRm lev κ) s m args below meth c κ maxL en) hnew en hen hi hi) n 0 _ σ κ r σ' hn
  have hl := lv_entry (as.map (xcv G)) (n := maxL) (by rw [xsl_len]; exact hlen _ _ _ hfa)
  rw [xargs_eq] at hl
  subst hargs
  rw [lg_entry_eq]
  exact hgo (xlok_args hok 0) (fun v hv => by cases hv) s.heap [] _ 0 0 hR va_S.rf hl (by omega) (by omega)
/-! ===== wrappers (written by wip/p28/gen/law1.py) ===== -/
def tL_ranges : List XE := [(0, .aload_n 0, 1, 0, 0, []), (1, .iload_n 1, 1, 0, 0, []), (2, .iload_n 2, 1, 0, 0, []), (3, .iload_n 3, 1, 0, 0, []), (4, .iload 4, 2, 0, 0, []), (6, .invokevirtual 80, 3, 160, 0, []), (9, .ireturn, 1, 0, 0, []), (10, .astore 5, 2, 0, 0, []), (12, .ldc 69, 2, 0, 0, [((-2000000001), 0)]), (14, .ireturn, 1, 0, 0, []), (15, .astore 5, 2, 0, 0, []), (17, .ldc 90, 2, 0, 0, [((-2000000002), 0)]), (19, .ireturn, 1, 0, 0, [])]
theorem tL_ranges_ok : xTblOK RL cL_ranges xFL 6 tL_ranges = true := by decide +kernel
abbrev nL_ranges (X : Nat × (Nat → Int32)) : List (Nat × Nat × Nat × XS) := [(160, 5, 2, fX7_setRange X)]
def fL_ranges (X : Nat × (Nat → Int32)) : XS := fun as σ => match as with
  | [.inr (.inr (some (6, a0))), .inl a1, .inl a2, .inl a3, .inl a4] => xIter X (xEnv (nL_ranges X)) (xHd 9 [(0, 12, 5), (1, 17, 5)]) 0 [] tL_ranges 2 (0, [(0, .inr (.inr (some (6, a0)))), (1, .inl a1), (2, .inl a2), (3, .inl a3), (4, .inl a4)], σ, 2)
  | _ => none
theorem hL_ranges {G : XG} {X : Nat × (Nat → Int32)} {p : Program} {l : Launch} {e : Env} {R : Room} {s : State} {m : MethodId} {args : Array Value} {below : List Frame} {meth : Method} {c : Code} (C0 : xCtx G X p s m args meth c cL_ranges RL 6) (hT : c.exceptionTable.toList = tableOf [(0, 9, 10, 86), (0, 9, 15, 88)]) : ∀ pc E t i, xHd 9 [(0, 12, 5), (1, 17, 5)] pc E = some (some (t, i)) → xCatOK G p l e R s m args below meth c 6 pc E t i := by
  intro pc E t i h
  unfold xHd at h
  split at h
  · rename_i hpc
    have hpc := Nat.le_of_ble_eq_true hpc
    simp only [xHdL] at h
    split at h
    · have hE := Nat.eq_of_beq_eq_true (by assumption : Nat.beq 0 E = true)
      subst hE
      cases h
      exact xCat C0 hT [] [(0, 9, 15, 88)] (fr := 0) (to := 9) (hp := 10) (ct := 86) rfl ⟨Nat.zero_le _, hpc⟩ (by decide) (xPk_in [216] (ws := [.classLink RL 86 (xXN 0)]) (by decide +kernel) (by decide +kernel) _ List.mem_cons_self) (by decide +kernel) (fun z hz => absurd hz List.not_mem_nil) (by decide) (Or.inl ⟨by decide +kernel, rfl⟩)
    · split at h
      · have hE := Nat.eq_of_beq_eq_true (by assumption : Nat.beq 1 E = true)
        subst hE
        cases h
        exact xCat C0 hT [(0, 9, 10, 86)] [] (fr := 0) (to := 9) (hp := 15) (ct := 88) rfl ⟨Nat.zero_le _, hpc⟩ (by decide) (xPk_in [217] (ws := [.classLink RL 88 (xXN 1)]) (by decide +kernel) (by decide +kernel) _ List.mem_cons_self) (by decide +kernel) (fun z hz => by
        rw [List.mem_singleton.mp hz]
        exact ⟨by decide, "java/lang/IndexOutOfBoundsException", xPk_in [216] (ws := [.classLink RL 86 "java/lang/IndexOutOfBoundsException"]) (by decide +kernel) (by decide +kernel) _ List.mem_cons_self, C0.2.2.2.2.2.1.2.2.2.2.2.1⟩) (by decide) (Or.inl ⟨by decide +kernel, rfl⟩)
      · cases h
  · cases h
theorem mL_ranges (l : Launch) (X : Nat × (Nat → Int32)) (hl : l.stackTraces = false) : xMetH l X yL_ranges cL_ranges 6 (some .int) [(0, 9, 10, 86), (0, 9, 15, 88)] 8 2 (fL_ranges X) :=
  xMetH_of (cl := xEnv (nL_ranges X)) (rt := 0) (to := 9) (rows := [(0, 12, 5), (1, 17, 5)]) (stops := []) (tbl := tL_ranges) (by decide +kernel) (by decide) tL_ranges_ok x_FL rfl (xEnv_ok (L := nL_ranges X) (List.forall_mem_cons.mpr ⟨xCS_V (i := 80) (n := 4) (C := RX7) (k := 6) (mX7_setRange l X hl) (xPk_in [218, 219, 220, 7, 221] (by decide +kernel) (by decide +kernel)) (by decide +kernel) (by decide) rfl (by decide) (by decide) (rX7_setRange X), (fun _ h => absurd h List.not_mem_nil)⟩)) (xPk_in [215] (ws := [.codeWith yL_ranges cL_ranges 6 (some .int) [(0, 9, 10, 86), (0, 9, 15, 88)]]) (by decide +kernel) (by decide +kernel) _ List.mem_cons_self) (by decide +kernel) (fun C0 hT => hL_ranges C0 hT)
    (fun as σ q h => by
      unfold fL_ranges at h
      split at h
      · exact Nat.le_of_ble_eq_true rfl
      · cases h)
    (fun as σ r σ' h => by
      unfold fL_ranges at h
      split at h
      · exact ⟨2, h⟩
      · cases h)
def tL_sets : List XE := [(0, .aload_n 0, 1, 0, 0, []), (1, .iload_n 1, 1, 0, 0, []), (2, .iload_n 2, 1, 0, 0, []), (3, .iload_n 3, 1, 0, 0, []), (4, .invokevirtual 91, 3, 182, 0, []), (7, .ireturn, 1, 0, 0, []), (8, .astore 4, 2, 0, 0, []), (10, .ldc 69, 2, 0, 0, [((-2000000001), 0)]), (12, .ireturn, 1, 0, 0, []), (13, .astore 4, 2, 0, 0, []), (15, .ldc 90, 2, 0, 0, [((-2000000002), 0)]), (17, .ireturn, 1, 0, 0, [])]
theorem tL_sets_ok : xTblOK RL cL_sets xFL 5 tL_sets = true := by decide +kernel
abbrev nL_sets (X : Nat × (Nat → Int32)) : List (Nat × Nat × Nat × XS) := [(182, 4, 2, fX7_setValve X)]
def fL_sets (X : Nat × (Nat → Int32)) : XS := fun as σ => match as with
  | [.inr (.inr (some (6, a0))), .inl a1, .inl a2, .inl a3] => xIter X (xEnv (nL_sets X)) (xHd 7 [(0, 10, 4), (1, 15, 4)]) 0 [] tL_sets 2 (0, [(0, .inr (.inr (some (6, a0)))), (1, .inl a1), (2, .inl a2), (3, .inl a3)], σ, 2)
  | _ => none
theorem hL_sets {G : XG} {X : Nat × (Nat → Int32)} {p : Program} {l : Launch} {e : Env} {R : Room} {s : State} {m : MethodId} {args : Array Value} {below : List Frame} {meth : Method} {c : Code} (C0 : xCtx G X p s m args meth c cL_sets RL 5) (hT : c.exceptionTable.toList = tableOf [(0, 7, 8, 86), (0, 7, 13, 88)]) : ∀ pc E t i, xHd 7 [(0, 10, 4), (1, 15, 4)] pc E = some (some (t, i)) → xCatOK G p l e R s m args below meth c 5 pc E t i := by
  intro pc E t i h
  unfold xHd at h
  split at h
  · rename_i hpc
    have hpc := Nat.le_of_ble_eq_true hpc
    simp only [xHdL] at h
    split at h
    · have hE := Nat.eq_of_beq_eq_true (by assumption : Nat.beq 0 E = true)
      subst hE
      cases h
      exact xCat C0 hT [] [(0, 7, 13, 88)] (fr := 0) (to := 7) (hp := 8) (ct := 86) rfl ⟨Nat.zero_le _, hpc⟩ (by decide) (xPk_in [216] (ws := [.classLink RL 86 (xXN 0)]) (by decide +kernel) (by decide +kernel) _ List.mem_cons_self) (by decide +kernel) (fun z hz => absurd hz List.not_mem_nil) (by decide) (Or.inl ⟨by decide +kernel, rfl⟩)
    · split at h
      · have hE := Nat.eq_of_beq_eq_true (by assumption : Nat.beq 1 E = true)
        subst hE
        cases h
        exact xCat C0 hT [(0, 7, 8, 86)] [] (fr := 0) (to := 7) (hp := 13) (ct := 88) rfl ⟨Nat.zero_le _, hpc⟩ (by decide) (xPk_in [217] (ws := [.classLink RL 88 (xXN 1)]) (by decide +kernel) (by decide +kernel) _ List.mem_cons_self) (by decide +kernel) (fun z hz => by
        rw [List.mem_singleton.mp hz]
        exact ⟨by decide, "java/lang/IndexOutOfBoundsException", xPk_in [216] (ws := [.classLink RL 86 "java/lang/IndexOutOfBoundsException"]) (by decide +kernel) (by decide +kernel) _ List.mem_cons_self, C0.2.2.2.2.2.1.2.2.2.2.2.1⟩) (by decide) (Or.inl ⟨by decide +kernel, rfl⟩)
      · cases h
  · cases h
theorem mL_sets (l : Launch) (X : Nat × (Nat → Int32)) (hl : l.stackTraces = false) : xMetH l X yL_sets cL_sets 5 (some .int) [(0, 7, 8, 86), (0, 7, 13, 88)] 8 2 (fL_sets X) :=
  xMetH_of (cl := xEnv (nL_sets X)) (rt := 0) (to := 7) (rows := [(0, 10, 4), (1, 15, 4)]) (stops := []) (tbl := tL_sets) (by decide +kernel) (by decide) tL_sets_ok x_FL rfl (xEnv_ok (L := nL_sets X) (List.forall_mem_cons.mpr ⟨xCS_V (i := 91) (n := 3) (C := RX7) (k := 6) (mX7_setValve l X hl) (xPk_in [359, 360, 361, 7, 362] (by decide +kernel) (by decide +kernel)) (by decide +kernel) (by decide) rfl (by decide) (by decide) (rX7_setValve X), (fun _ h => absurd h List.not_mem_nil)⟩)) (xPk_in [358] (ws := [.codeWith yL_sets cL_sets 5 (some .int) [(0, 7, 8, 86), (0, 7, 13, 88)]]) (by decide +kernel) (by decide +kernel) _ List.mem_cons_self) (by decide +kernel) (fun C0 hT => hL_sets C0 hT)
    (fun as σ q h => by
      unfold fL_sets at h
      split at h
      · exact Nat.le_of_ble_eq_true rfl
      · cases h)
    (fun as σ r σ' h => by
      unfold fL_sets at h
      split at h
      · exact ⟨2, h⟩
      · cases h)
def tL_signals : List XE := [(0, .aload_n 0, 1, 0, 0, []), (1, .iload_n 1, 1, 0, 0, []), (2, .invokevirtual 94, 3, 188, 0, []), (5, .ireturn, 1, 0, 0, []), (6, .astore_n 2, 1, 0, 0, []), (7, .ldc 90, 2, 0, 0, [((-2000000002), 0)]), (9, .ireturn, 1, 0, 0, [])]
theorem tL_signals_ok : xTblOK RL cL_signals xFL 3 tL_signals = true := by decide +kernel
abbrev nL_signals (X : Nat × (Nat → Int32)) : List (Nat × Nat × Nat × XS) := [(188, 2, 1, fX7_setSignal X)]
def fL_signals (X : Nat × (Nat → Int32)) : XS := fun as σ => match as with
  | [.inr (.inr (some (6, a0))), .inl a1] => xIter X (xEnv (nL_signals X)) (xHd 5 [(1, 7, 2)]) 0 [] tL_signals 2 (0, [(0, .inr (.inr (some (6, a0)))), (1, .inl a1)], σ, 1)
  | _ => none
theorem hL_signals {G : XG} {X : Nat × (Nat → Int32)} {p : Program} {l : Launch} {e : Env} {R : Room} {s : State} {m : MethodId} {args : Array Value} {below : List Frame} {meth : Method} {c : Code} (C0 : xCtx G X p s m args meth c cL_signals RL 3) (hT : c.exceptionTable.toList = tableOf [(0, 5, 6, 88)]) : ∀ pc E t i, xHd 5 [(1, 7, 2)] pc E = some (some (t, i)) → xCatOK G p l e R s m args below meth c 3 pc E t i := by
  intro pc E t i h
  unfold xHd at h
  split at h
  · rename_i hpc
    have hpc := Nat.le_of_ble_eq_true hpc
    simp only [xHdL] at h
    split at h
    · have hE := Nat.eq_of_beq_eq_true (by assumption : Nat.beq 1 E = true)
      subst hE
      cases h
      exact xCat C0 hT [] [] (fr := 0) (to := 5) (hp := 6) (ct := 88) rfl ⟨Nat.zero_le _, hpc⟩ (by decide) (xPk_in [217] (ws := [.classLink RL 88 (xXN 1)]) (by decide +kernel) (by decide +kernel) _ List.mem_cons_self) (by decide +kernel) (fun z hz => absurd hz List.not_mem_nil) (by decide) (Or.inr ⟨2, rfl, by decide +kernel, rfl⟩)
    · cases h
  · cases h
theorem mL_signals (l : Launch) (X : Nat × (Nat → Int32)) (hl : l.stackTraces = false) : xMetH l X yL_signals cL_signals 3 (some .int) [(0, 5, 6, 88)] 8 1 (fL_signals X) :=
  xMetH_of (cl := xEnv (nL_signals X)) (rt := 0) (to := 5) (rows := [(1, 7, 2)]) (stops := []) (tbl := tL_signals) (by decide +kernel) (by decide) tL_signals_ok x_FL rfl (xEnv_ok (L := nL_signals X) (List.forall_mem_cons.mpr ⟨xCS_V (i := 94) (n := 1) (C := RX7) (k := 6) (mX7_setSignal l X hl) (xPk_in [398, 399, 400, 7, 401] (by decide +kernel) (by decide +kernel)) (by decide +kernel) (by decide) rfl (by decide) (by decide) (rX7_setSignal X), (fun _ h => absurd h List.not_mem_nil)⟩)) (xPk_in [397] (ws := [.codeWith yL_signals cL_signals 3 (some .int) [(0, 5, 6, 88)]]) (by decide +kernel) (by decide +kernel) _ List.mem_cons_self) (by decide +kernel) (fun C0 hT => hL_signals C0 hT)
    (fun as σ q h => by
      unfold fL_signals at h
      split at h
      · exact Nat.le_of_ble_eq_true rfl
      · cases h)
    (fun as σ r σ' h => by
      unfold fL_signals at h
      split at h
      · exact ⟨2, h⟩
      · cases h)
def tL_tunes : List XE := [(0, .aload_n 0, 1, 0, 0, []), (1, .iload_n 1, 1, 0, 0, []), (2, .iload_n 2, 1, 0, 0, []), (3, .invokevirtual 98, 3, 196, 0, []), (6, .ireturn, 1, 0, 0, []), (7, .astore_n 3, 1, 0, 0, []), (8, .ldc 90, 2, 0, 0, [((-2000000002), 0)]), (10, .ireturn, 1, 0, 0, [])]
theorem tL_tunes_ok : xTblOK RL cL_tunes xFL 4 tL_tunes = true := by decide +kernel
abbrev nL_tunes (X : Nat × (Nat → Int32)) : List (Nat × Nat × Nat × XS) := [(196, 3, 1, fX7_tune X)]
def fL_tunes (X : Nat × (Nat → Int32)) : XS := fun as σ => match as with
  | [.inr (.inr (some (6, a0))), .inl a1, .inl a2] => xIter X (xEnv (nL_tunes X)) (xHd 6 [(1, 8, 3)]) 0 [] tL_tunes 2 (0, [(0, .inr (.inr (some (6, a0)))), (1, .inl a1), (2, .inl a2)], σ, 1)
  | _ => none
theorem hL_tunes {G : XG} {X : Nat × (Nat → Int32)} {p : Program} {l : Launch} {e : Env} {R : Room} {s : State} {m : MethodId} {args : Array Value} {below : List Frame} {meth : Method} {c : Code} (C0 : xCtx G X p s m args meth c cL_tunes RL 4) (hT : c.exceptionTable.toList = tableOf [(0, 6, 7, 88)]) : ∀ pc E t i, xHd 6 [(1, 8, 3)] pc E = some (some (t, i)) → xCatOK G p l e R s m args below meth c 4 pc E t i := by
  intro pc E t i h
  unfold xHd at h
  split at h
  · rename_i hpc
    have hpc := Nat.le_of_ble_eq_true hpc
    simp only [xHdL] at h
    split at h
    · have hE := Nat.eq_of_beq_eq_true (by assumption : Nat.beq 1 E = true)
      subst hE
      cases h
      exact xCat C0 hT [] [] (fr := 0) (to := 6) (hp := 7) (ct := 88) rfl ⟨Nat.zero_le _, hpc⟩ (by decide) (xPk_in [217] (ws := [.classLink RL 88 (xXN 1)]) (by decide +kernel) (by decide +kernel) _ List.mem_cons_self) (by decide +kernel) (fun z hz => absurd hz List.not_mem_nil) (by decide) (Or.inr ⟨3, rfl, by decide +kernel, rfl⟩)
    · cases h
  · cases h
theorem mL_tunes (l : Launch) (X : Nat × (Nat → Int32)) (hl : l.stackTraces = false) : xMetH l X yL_tunes cL_tunes 4 (some .int) [(0, 6, 7, 88)] 8 1 (fL_tunes X) :=
  xMetH_of (cl := xEnv (nL_tunes X)) (rt := 0) (to := 6) (rows := [(1, 8, 3)]) (stops := []) (tbl := tL_tunes) (by decide +kernel) (by decide) tL_tunes_ok x_FL rfl (xEnv_ok (L := nL_tunes X) (List.forall_mem_cons.mpr ⟨xCS_V (i := 98) (n := 2) (C := RX7) (k := 6) (mX7_tune l X hl) (xPk_in [412, 413, 414, 7, 415] (by decide +kernel) (by decide +kernel)) (by decide +kernel) (by decide) rfl (by decide) (by decide) (rX7_tune X), (fun _ h => absurd h List.not_mem_nil)⟩)) (xPk_in [411] (ws := [.codeWith yL_tunes cL_tunes 4 (some .int) [(0, 6, 7, 88)]]) (by decide +kernel) (by decide +kernel) _ List.mem_cons_self) (by decide +kernel) (fun C0 hT => hL_tunes C0 hT)
    (fun as σ q h => by
      unfold fL_tunes at h
      split at h
      · exact Nat.le_of_ble_eq_true rfl
      · cases h)
    (fun as σ r σ' h => by
      unfold fL_tunes at h
      split at h
      · exact ⟨2, h⟩
      · cases h)
def tL_serves : List XE := [(0, .aload_n 0, 1, 0, 0, []), (1, .iload_n 1, 1, 0, 0, []), (2, .invokevirtual 101, 3, 202, 0, []), (5, .ireturn, 1, 0, 0, []), (6, .astore_n 2, 1, 0, 0, []), (7, .ldc 69, 2, 0, 0, [((-2000000001), 0)]), (9, .ireturn, 1, 0, 0, [])]
theorem tL_serves_ok : xTblOK RL cL_serves xFL 3 tL_serves = true := by decide +kernel
abbrev nL_serves (X : Nat × (Nat → Int32)) : List (Nat × Nat × Nat × XS) := [(202, 2, 1, fX7_service X)]
def fL_serves (X : Nat × (Nat → Int32)) : XS := fun as σ => match as with
  | [.inr (.inr (some (6, a0))), .inl a1] => xIter X (xEnv (nL_serves X)) (xHd 5 [(0, 7, 2)]) 0 [] tL_serves 2 (0, [(0, .inr (.inr (some (6, a0)))), (1, .inl a1)], σ, 1)
  | _ => none
theorem hL_serves {G : XG} {X : Nat × (Nat → Int32)} {p : Program} {l : Launch} {e : Env} {R : Room} {s : State} {m : MethodId} {args : Array Value} {below : List Frame} {meth : Method} {c : Code} (C0 : xCtx G X p s m args meth c cL_serves RL 3) (hT : c.exceptionTable.toList = tableOf [(0, 5, 6, 86)]) : ∀ pc E t i, xHd 5 [(0, 7, 2)] pc E = some (some (t, i)) → xCatOK G p l e R s m args below meth c 3 pc E t i := by
  intro pc E t i h
  unfold xHd at h
  split at h
  · rename_i hpc
    have hpc := Nat.le_of_ble_eq_true hpc
    simp only [xHdL] at h
    split at h
    · have hE := Nat.eq_of_beq_eq_true (by assumption : Nat.beq 0 E = true)
      subst hE
      cases h
      exact xCat C0 hT [] [] (fr := 0) (to := 5) (hp := 6) (ct := 86) rfl ⟨Nat.zero_le _, hpc⟩ (by decide) (xPk_in [216] (ws := [.classLink RL 86 (xXN 0)]) (by decide +kernel) (by decide +kernel) _ List.mem_cons_self) (by decide +kernel) (fun z hz => absurd hz List.not_mem_nil) (by decide) (Or.inr ⟨2, rfl, by decide +kernel, rfl⟩)
    · cases h
  · cases h
theorem mL_serves (l : Launch) (X : Nat × (Nat → Int32)) (hl : l.stackTraces = false) : xMetH l X yL_serves cL_serves 3 (some .int) [(0, 5, 6, 86)] 8 1 (fL_serves X) :=
  xMetH_of (cl := xEnv (nL_serves X)) (rt := 0) (to := 5) (rows := [(0, 7, 2)]) (stops := []) (tbl := tL_serves) (by decide +kernel) (by decide) tL_serves_ok x_FL rfl (xEnv_ok (L := nL_serves X) (List.forall_mem_cons.mpr ⟨xCS_V (i := 101) (n := 1) (C := RX7) (k := 6) (mX7_service l X hl) (xPk_in [443, 444, 445, 7, 446] (by decide +kernel) (by decide +kernel)) (by decide +kernel) (by decide) rfl (by decide) (by decide) (rX7_service X), (fun _ h => absurd h List.not_mem_nil)⟩)) (xPk_in [442] (ws := [.codeWith yL_serves cL_serves 3 (some .int) [(0, 5, 6, 86)]]) (by decide +kernel) (by decide +kernel) _ List.mem_cons_self) (by decide +kernel) (fun C0 hT => hL_serves C0 hT)
    (fun as σ q h => by
      unfold fL_serves at h
      split at h
      · exact Nat.le_of_ble_eq_true rfl
      · cases h)
    (fun as σ r σ' h => by
      unfold fL_serves at h
      split at h
      · exact ⟨2, h⟩
      · cases h)
def tL_stems : List XE := [(0, .aload_n 0, 1, 0, 0, []), (1, .iload_n 1, 1, 0, 0, []), (2, .iload_n 2, 1, 0, 0, []), (3, .invokevirtual 104, 3, 208, 0, []), (6, .ireturn, 1, 0, 0, []), (7, .astore_n 3, 1, 0, 0, []), (8, .ldc 69, 2, 0, 0, [((-2000000001), 0)]), (10, .ireturn, 1, 0, 0, []), (11, .astore_n 3, 1, 0, 0, []), (12, .ldc 90, 2, 0, 0, [((-2000000002), 0)]), (14, .ireturn, 1, 0, 0, [])]
theorem tL_stems_ok : xTblOK RL cL_stems xFL 4 tL_stems = true := by decide +kernel
abbrev nL_stems (X : Nat × (Nat → Int32)) : List (Nat × Nat × Nat × XS) := [(208, 3, 2, fX7_putStem X)]
def fL_stems (X : Nat × (Nat → Int32)) : XS := fun as σ => match as with
  | [.inr (.inr (some (6, a0))), .inl a1, .inl a2] => xIter X (xEnv (nL_stems X)) (xHd 6 [(0, 8, 3), (1, 12, 3)]) 0 [] tL_stems 2 (0, [(0, .inr (.inr (some (6, a0)))), (1, .inl a1), (2, .inl a2)], σ, 2)
  | _ => none
theorem hL_stems {G : XG} {X : Nat × (Nat → Int32)} {p : Program} {l : Launch} {e : Env} {R : Room} {s : State} {m : MethodId} {args : Array Value} {below : List Frame} {meth : Method} {c : Code} (C0 : xCtx G X p s m args meth c cL_stems RL 4) (hT : c.exceptionTable.toList = tableOf [(0, 6, 7, 86), (0, 6, 11, 88)]) : ∀ pc E t i, xHd 6 [(0, 8, 3), (1, 12, 3)] pc E = some (some (t, i)) → xCatOK G p l e R s m args below meth c 4 pc E t i := by
  intro pc E t i h
  unfold xHd at h
  split at h
  · rename_i hpc
    have hpc := Nat.le_of_ble_eq_true hpc
    simp only [xHdL] at h
    split at h
    · have hE := Nat.eq_of_beq_eq_true (by assumption : Nat.beq 0 E = true)
      subst hE
      cases h
      exact xCat C0 hT [] [(0, 6, 11, 88)] (fr := 0) (to := 6) (hp := 7) (ct := 86) rfl ⟨Nat.zero_le _, hpc⟩ (by decide) (xPk_in [216] (ws := [.classLink RL 86 (xXN 0)]) (by decide +kernel) (by decide +kernel) _ List.mem_cons_self) (by decide +kernel) (fun z hz => absurd hz List.not_mem_nil) (by decide) (Or.inr ⟨3, rfl, by decide +kernel, rfl⟩)
    · split at h
      · have hE := Nat.eq_of_beq_eq_true (by assumption : Nat.beq 1 E = true)
        subst hE
        cases h
        exact xCat C0 hT [(0, 6, 7, 86)] [] (fr := 0) (to := 6) (hp := 11) (ct := 88) rfl ⟨Nat.zero_le _, hpc⟩ (by decide) (xPk_in [217] (ws := [.classLink RL 88 (xXN 1)]) (by decide +kernel) (by decide +kernel) _ List.mem_cons_self) (by decide +kernel) (fun z hz => by
        rw [List.mem_singleton.mp hz]
        exact ⟨by decide, "java/lang/IndexOutOfBoundsException", xPk_in [216] (ws := [.classLink RL 86 "java/lang/IndexOutOfBoundsException"]) (by decide +kernel) (by decide +kernel) _ List.mem_cons_self, C0.2.2.2.2.2.1.2.2.2.2.2.1⟩) (by decide) (Or.inr ⟨3, rfl, by decide +kernel, rfl⟩)
      · cases h
  · cases h
theorem mL_stems (l : Launch) (X : Nat × (Nat → Int32)) (hl : l.stackTraces = false) : xMetH l X yL_stems cL_stems 4 (some .int) [(0, 6, 7, 86), (0, 6, 11, 88)] 8 2 (fL_stems X) :=
  xMetH_of (cl := xEnv (nL_stems X)) (rt := 0) (to := 6) (rows := [(0, 8, 3), (1, 12, 3)]) (stops := []) (tbl := tL_stems) (by decide +kernel) (by decide) tL_stems_ok x_FL rfl (xEnv_ok (L := nL_stems X) (List.forall_mem_cons.mpr ⟨xCS_V (i := 104) (n := 2) (C := RX7) (k := 6) (mX7_putStem l X hl) (xPk_in [457, 458, 459, 7, 460] (by decide +kernel) (by decide +kernel)) (by decide +kernel) (by decide) rfl (by decide) (by decide) (rX7_putStem X), (fun _ h => absurd h List.not_mem_nil)⟩)) (xPk_in [456] (ws := [.codeWith yL_stems cL_stems 4 (some .int) [(0, 6, 7, 86), (0, 6, 11, 88)]]) (by decide +kernel) (by decide +kernel) _ List.mem_cons_self) (by decide +kernel) (fun C0 hT => hL_stems C0 hT)
    (fun as σ q h => by
      unfold fL_stems at h
      split at h
      · exact Nat.le_of_ble_eq_true rfl
      · cases h)
    (fun as σ r σ' h => by
      unfold fL_stems at h
      split at h
      · exact ⟨2, h⟩
      · cases h)
def tL_runs : List XE := [(0, .aload_n 0, 1, 0, 0, []), (1, .iload_n 1, 1, 0, 0, []), (2, .invokevirtual 107, 3, 214, 0, []), (5, .ireturn, 1, 0, 0, []), (6, .astore_n 2, 1, 0, 0, []), (7, .ldc 90, 2, 0, 0, [((-2000000002), 0)]), (9, .ireturn, 1, 0, 0, []), (10, .astore_n 2, 1, 0, 0, []), (11, .ldc 112, 2, 0, 0, [((-2000000003), 0)]), (13, .ireturn, 1, 0, 0, [])]
theorem tL_runs_ok : xTblOK RL cL_runs xFL 3 tL_runs = true := by decide +kernel
abbrev nL_runs (X : Nat × (Nat → Int32)) : List (Nat × Nat × Nat × XS) := [(214, 2, 2, fX7_run X)]
def fL_runs (X : Nat × (Nat → Int32)) : XS := fun as σ => match as with
  | [.inr (.inr (some (6, a0))), .inl a1] => xIter X (xEnv (nL_runs X)) (xHd 5 [(1, 7, 2), (2, 11, 2)]) 0 [] tL_runs 2 (0, [(0, .inr (.inr (some (6, a0)))), (1, .inl a1)], σ, 2)
  | _ => none
theorem hL_runs {G : XG} {X : Nat × (Nat → Int32)} {p : Program} {l : Launch} {e : Env} {R : Room} {s : State} {m : MethodId} {args : Array Value} {below : List Frame} {meth : Method} {c : Code} (C0 : xCtx G X p s m args meth c cL_runs RL 3) (hT : c.exceptionTable.toList = tableOf [(0, 5, 6, 88), (0, 5, 10, 110)]) : ∀ pc E t i, xHd 5 [(1, 7, 2), (2, 11, 2)] pc E = some (some (t, i)) → xCatOK G p l e R s m args below meth c 3 pc E t i := by
  intro pc E t i h
  unfold xHd at h
  split at h
  · rename_i hpc
    have hpc := Nat.le_of_ble_eq_true hpc
    simp only [xHdL] at h
    split at h
    · have hE := Nat.eq_of_beq_eq_true (by assumption : Nat.beq 1 E = true)
      subst hE
      cases h
      exact xCat C0 hT [] [(0, 5, 10, 110)] (fr := 0) (to := 5) (hp := 6) (ct := 88) rfl ⟨Nat.zero_le _, hpc⟩ (by decide) (xPk_in [217] (ws := [.classLink RL 88 (xXN 1)]) (by decide +kernel) (by decide +kernel) _ List.mem_cons_self) (by decide +kernel) (fun z hz => absurd hz List.not_mem_nil) (by decide) (Or.inr ⟨2, rfl, by decide +kernel, rfl⟩)
    · split at h
      · have hE := Nat.eq_of_beq_eq_true (by assumption : Nat.beq 2 E = true)
        subst hE
        cases h
        exact xCat C0 hT [(0, 5, 6, 88)] [] (fr := 0) (to := 5) (hp := 10) (ct := 110) rfl ⟨Nat.zero_le _, hpc⟩ (by decide) (xPk_in [498] (ws := [.classLink RL 110 (xXN 2)]) (by decide +kernel) (by decide +kernel) _ List.mem_cons_self) (by decide +kernel) (fun z hz => by
        rw [List.mem_singleton.mp hz]
        exact ⟨by decide, "java/lang/IllegalArgumentException", xPk_in [217] (ws := [.classLink RL 88 "java/lang/IllegalArgumentException"]) (by decide +kernel) (by decide +kernel) _ List.mem_cons_self, C0.2.2.2.2.2.1.2.2.2.2.2.2⟩) (by decide) (Or.inr ⟨2, rfl, by decide +kernel, rfl⟩)
      · cases h
  · cases h
theorem mL_runs (l : Launch) (X : Nat × (Nat → Int32)) (hl : l.stackTraces = false) : xMetH l X yL_runs cL_runs 3 (some .int) [(0, 5, 6, 88), (0, 5, 10, 110)] 8 2 (fL_runs X) :=
  xMetH_of (cl := xEnv (nL_runs X)) (rt := 0) (to := 5) (rows := [(1, 7, 2), (2, 11, 2)]) (stops := []) (tbl := tL_runs) (by decide +kernel) (by decide) tL_runs_ok x_FL rfl (xEnv_ok (L := nL_runs X) (List.forall_mem_cons.mpr ⟨xCS_V (i := 107) (n := 1) (C := RX7) (k := 6) (mX7_run l X hl) (xPk_in [499, 500, 501, 7, 502] (by decide +kernel) (by decide +kernel)) (by decide +kernel) (by decide) rfl (by decide) (by decide) (rX7_run X), (fun _ h => absurd h List.not_mem_nil)⟩)) (xPk_in [497] (ws := [.codeWith yL_runs cL_runs 3 (some .int) [(0, 5, 6, 88), (0, 5, 10, 110)]]) (by decide +kernel) (by decide +kernel) _ List.mem_cons_self) (by decide +kernel) (fun C0 hT => hL_runs C0 hT)
    (fun as σ q h => by
      unfold fL_runs at h
      split at h
      · exact Nat.le_of_ble_eq_true rfl
      · cases h)
    (fun as σ r σ' h => by
      unfold fL_runs at h
      split at h
      · exact ⟨2, h⟩
      · cases h)
def tL_valveOf : List XE := [(0, .aload_n 0, 1, 0, 0, []), (1, .iload_n 1, 1, 0, 0, []), (2, .iload_n 2, 1, 0, 0, []), (3, .invokevirtual 113, 3, 226, 0, []), (6, .ireturn, 1, 0, 0, []), (7, .astore_n 3, 1, 0, 0, []), (8, .ldc 69, 2, 0, 0, [((-2000000001), 0)]), (10, .ireturn, 1, 0, 0, []), (11, .astore_n 3, 1, 0, 0, []), (12, .ldc 90, 2, 0, 0, [((-2000000002), 0)]), (14, .ireturn, 1, 0, 0, [])]
theorem tL_valveOf_ok : xTblOK RL cL_valveOf xFL 4 tL_valveOf = true := by decide +kernel
abbrev nL_valveOf (X : Nat × (Nat → Int32)) : List (Nat × Nat × Nat × XS) := [(226, 3, 2, fX7_valve X)]
def fL_valveOf (X : Nat × (Nat → Int32)) : XS := fun as σ => match as with
  | [.inr (.inr (some (6, a0))), .inl a1, .inl a2] => xIter X (xEnv (nL_valveOf X)) (xHd 6 [(0, 8, 3), (1, 12, 3)]) 0 [] tL_valveOf 2 (0, [(0, .inr (.inr (some (6, a0)))), (1, .inl a1), (2, .inl a2)], σ, 2)
  | _ => none
theorem hL_valveOf {G : XG} {X : Nat × (Nat → Int32)} {p : Program} {l : Launch} {e : Env} {R : Room} {s : State} {m : MethodId} {args : Array Value} {below : List Frame} {meth : Method} {c : Code} (C0 : xCtx G X p s m args meth c cL_valveOf RL 4) (hT : c.exceptionTable.toList = tableOf [(0, 6, 7, 86), (0, 6, 11, 88)]) : ∀ pc E t i, xHd 6 [(0, 8, 3), (1, 12, 3)] pc E = some (some (t, i)) → xCatOK G p l e R s m args below meth c 4 pc E t i := by
  intro pc E t i h
  unfold xHd at h
  split at h
  · rename_i hpc
    have hpc := Nat.le_of_ble_eq_true hpc
    simp only [xHdL] at h
    split at h
    · have hE := Nat.eq_of_beq_eq_true (by assumption : Nat.beq 0 E = true)
      subst hE
      cases h
      exact xCat C0 hT [] [(0, 6, 11, 88)] (fr := 0) (to := 6) (hp := 7) (ct := 86) rfl ⟨Nat.zero_le _, hpc⟩ (by decide) (xPk_in [216] (ws := [.classLink RL 86 (xXN 0)]) (by decide +kernel) (by decide +kernel) _ List.mem_cons_self) (by decide +kernel) (fun z hz => absurd hz List.not_mem_nil) (by decide) (Or.inr ⟨3, rfl, by decide +kernel, rfl⟩)
    · split at h
      · have hE := Nat.eq_of_beq_eq_true (by assumption : Nat.beq 1 E = true)
        subst hE
        cases h
        exact xCat C0 hT [(0, 6, 7, 86)] [] (fr := 0) (to := 6) (hp := 11) (ct := 88) rfl ⟨Nat.zero_le _, hpc⟩ (by decide) (xPk_in [217] (ws := [.classLink RL 88 (xXN 1)]) (by decide +kernel) (by decide +kernel) _ List.mem_cons_self) (by decide +kernel) (fun z hz => by
        rw [List.mem_singleton.mp hz]
        exact ⟨by decide, "java/lang/IndexOutOfBoundsException", xPk_in [216] (ws := [.classLink RL 86 "java/lang/IndexOutOfBoundsException"]) (by decide +kernel) (by decide +kernel) _ List.mem_cons_self, C0.2.2.2.2.2.1.2.2.2.2.2.1⟩) (by decide) (Or.inr ⟨3, rfl, by decide +kernel, rfl⟩)
      · cases h
  · cases h
theorem mL_valveOf (l : Launch) (X : Nat × (Nat → Int32)) (hl : l.stackTraces = false) : xMetH l X yL_valveOf cL_valveOf 4 (some .int) [(0, 6, 7, 86), (0, 6, 11, 88)] 8 2 (fL_valveOf X) :=
  xMetH_of (cl := xEnv (nL_valveOf X)) (rt := 0) (to := 6) (rows := [(0, 8, 3), (1, 12, 3)]) (stops := []) (tbl := tL_valveOf) (by decide +kernel) (by decide) tL_valveOf_ok x_FL rfl (xEnv_ok (L := nL_valveOf X) (List.forall_mem_cons.mpr ⟨xCS_V (i := 113) (n := 2) (C := RX7) (k := 6) (mX7_valve l X hl) (xPk_in [579, 580, 581, 7, 582] (by decide +kernel) (by decide +kernel)) (by decide +kernel) (by decide) rfl (by decide) (by decide) (rX7_valve X), (fun _ h => absurd h List.not_mem_nil)⟩)) (xPk_in [578] (ws := [.codeWith yL_valveOf cL_valveOf 4 (some .int) [(0, 6, 7, 86), (0, 6, 11, 88)]]) (by decide +kernel) (by decide +kernel) _ List.mem_cons_self) (by decide +kernel) (fun C0 hT => hL_valveOf C0 hT)
    (fun as σ q h => by
      unfold fL_valveOf at h
      split at h
      · exact Nat.le_of_ble_eq_true rfl
      · cases h)
    (fun as σ r σ' h => by
      unfold fL_valveOf at h
      split at h
      · exact ⟨2, h⟩
      · cases h)
def tL_pairOf : List XE := [(0, .aload_n 0, 1, 0, 0, []), (1, .iload_n 1, 1, 0, 0, []), (2, .invokevirtual 116, 3, 232, 0, []), (5, .ireturn, 1, 0, 0, []), (6, .astore_n 2, 1, 0, 0, []), (7, .ldc 90, 2, 0, 0, [((-2000000002), 0)]), (9, .ireturn, 1, 0, 0, [])]
theorem tL_pairOf_ok : xTblOK RL cL_pairOf xFL 3 tL_pairOf = true := by decide +kernel
abbrev nL_pairOf (X : Nat × (Nat → Int32)) : List (Nat × Nat × Nat × XS) := [(232, 2, 1, fX7_pair X)]
def fL_pairOf (X : Nat × (Nat → Int32)) : XS := fun as σ => match as with
  | [.inr (.inr (some (6, a0))), .inl a1] => xIter X (xEnv (nL_pairOf X)) (xHd 5 [(1, 7, 2)]) 0 [] tL_pairOf 2 (0, [(0, .inr (.inr (some (6, a0)))), (1, .inl a1)], σ, 1)
  | _ => none
theorem hL_pairOf {G : XG} {X : Nat × (Nat → Int32)} {p : Program} {l : Launch} {e : Env} {R : Room} {s : State} {m : MethodId} {args : Array Value} {below : List Frame} {meth : Method} {c : Code} (C0 : xCtx G X p s m args meth c cL_pairOf RL 3) (hT : c.exceptionTable.toList = tableOf [(0, 5, 6, 88)]) : ∀ pc E t i, xHd 5 [(1, 7, 2)] pc E = some (some (t, i)) → xCatOK G p l e R s m args below meth c 3 pc E t i := by
  intro pc E t i h
  unfold xHd at h
  split at h
  · rename_i hpc
    have hpc := Nat.le_of_ble_eq_true hpc
    simp only [xHdL] at h
    split at h
    · have hE := Nat.eq_of_beq_eq_true (by assumption : Nat.beq 1 E = true)
      subst hE
      cases h
      exact xCat C0 hT [] [] (fr := 0) (to := 5) (hp := 6) (ct := 88) rfl ⟨Nat.zero_le _, hpc⟩ (by decide) (xPk_in [217] (ws := [.classLink RL 88 (xXN 1)]) (by decide +kernel) (by decide +kernel) _ List.mem_cons_self) (by decide +kernel) (fun z hz => absurd hz List.not_mem_nil) (by decide) (Or.inr ⟨2, rfl, by decide +kernel, rfl⟩)
    · cases h
  · cases h
theorem mL_pairOf (l : Launch) (X : Nat × (Nat → Int32)) (hl : l.stackTraces = false) : xMetH l X yL_pairOf cL_pairOf 3 (some .int) [(0, 5, 6, 88)] 8 1 (fL_pairOf X) :=
  xMetH_of (cl := xEnv (nL_pairOf X)) (rt := 0) (to := 5) (rows := [(1, 7, 2)]) (stops := []) (tbl := tL_pairOf) (by decide +kernel) (by decide) tL_pairOf_ok x_FL rfl (xEnv_ok (L := nL_pairOf X) (List.forall_mem_cons.mpr ⟨xCS_V (i := 116) (n := 1) (C := RX7) (k := 6) (mX7_pair l X hl) (xPk_in [587, 588, 589, 7, 590] (by decide +kernel) (by decide +kernel)) (by decide +kernel) (by decide) rfl (by decide) (by decide) (rX7_pair X), (fun _ h => absurd h List.not_mem_nil)⟩)) (xPk_in [586] (ws := [.codeWith yL_pairOf cL_pairOf 3 (some .int) [(0, 5, 6, 88)]]) (by decide +kernel) (by decide +kernel) _ List.mem_cons_self) (by decide +kernel) (fun C0 hT => hL_pairOf C0 hT)
    (fun as σ q h => by
      unfold fL_pairOf at h
      split at h
      · exact Nat.le_of_ble_eq_true rfl
      · cases h)
    (fun as σ r σ' h => by
      unfold fL_pairOf at h
      split at h
      · exact ⟨2, h⟩
      · cases h)
def tL_ledgerOf : List XE := [(0, .aload_n 0, 1, 0, 0, []), (1, .iload_n 1, 1, 0, 0, []), (2, .iload_n 2, 1, 0, 0, []), (3, .invokevirtual 119, 3, 238, 0, []), (6, .ireturn, 1, 0, 0, []), (7, .astore_n 3, 1, 0, 0, []), (8, .ldc 90, 2, 0, 0, [((-2000000002), 0)]), (10, .ireturn, 1, 0, 0, [])]
theorem tL_ledgerOf_ok : xTblOK RL cL_ledgerOf xFL 4 tL_ledgerOf = true := by decide +kernel
abbrev nL_ledgerOf (X : Nat × (Nat → Int32)) : List (Nat × Nat × Nat × XS) := [(238, 3, 1, fX7_ledger X)]
def fL_ledgerOf (X : Nat × (Nat → Int32)) : XS := fun as σ => match as with
  | [.inr (.inr (some (6, a0))), .inl a1, .inl a2] => xIter X (xEnv (nL_ledgerOf X)) (xHd 6 [(1, 8, 3)]) 0 [] tL_ledgerOf 2 (0, [(0, .inr (.inr (some (6, a0)))), (1, .inl a1), (2, .inl a2)], σ, 1)
  | _ => none
theorem hL_ledgerOf {G : XG} {X : Nat × (Nat → Int32)} {p : Program} {l : Launch} {e : Env} {R : Room} {s : State} {m : MethodId} {args : Array Value} {below : List Frame} {meth : Method} {c : Code} (C0 : xCtx G X p s m args meth c cL_ledgerOf RL 4) (hT : c.exceptionTable.toList = tableOf [(0, 6, 7, 88)]) : ∀ pc E t i, xHd 6 [(1, 8, 3)] pc E = some (some (t, i)) → xCatOK G p l e R s m args below meth c 4 pc E t i := by
  intro pc E t i h
  unfold xHd at h
  split at h
  · rename_i hpc
    have hpc := Nat.le_of_ble_eq_true hpc
    simp only [xHdL] at h
    split at h
    · have hE := Nat.eq_of_beq_eq_true (by assumption : Nat.beq 1 E = true)
      subst hE
      cases h
      exact xCat C0 hT [] [] (fr := 0) (to := 6) (hp := 7) (ct := 88) rfl ⟨Nat.zero_le _, hpc⟩ (by decide) (xPk_in [217] (ws := [.classLink RL 88 (xXN 1)]) (by decide +kernel) (by decide +kernel) _ List.mem_cons_self) (by decide +kernel) (fun z hz => absurd hz List.not_mem_nil) (by decide) (Or.inr ⟨3, rfl, by decide +kernel, rfl⟩)
    · cases h
  · cases h
theorem mL_ledgerOf (l : Launch) (X : Nat × (Nat → Int32)) (hl : l.stackTraces = false) : xMetH l X yL_ledgerOf cL_ledgerOf 4 (some .int) [(0, 6, 7, 88)] 8 1 (fL_ledgerOf X) :=
  xMetH_of (cl := xEnv (nL_ledgerOf X)) (rt := 0) (to := 6) (rows := [(1, 8, 3)]) (stops := []) (tbl := tL_ledgerOf) (by decide +kernel) (by decide) tL_ledgerOf_ok x_FL rfl (xEnv_ok (L := nL_ledgerOf X) (List.forall_mem_cons.mpr ⟨xCS_V (i := 119) (n := 2) (C := RX7) (k := 6) (mX7_ledger l X hl) (xPk_in [621, 622, 623, 7, 624] (by decide +kernel) (by decide +kernel)) (by decide +kernel) (by decide) rfl (by decide) (by decide) (rX7_ledger X), (fun _ h => absurd h List.not_mem_nil)⟩)) (xPk_in [620] (ws := [.codeWith yL_ledgerOf cL_ledgerOf 4 (some .int) [(0, 6, 7, 88)]]) (by decide +kernel) (by decide +kernel) _ List.mem_cons_self) (by decide +kernel) (fun C0 hT => hL_ledgerOf C0 hT)
    (fun as σ q h => by
      unfold fL_ledgerOf at h
      split at h
      · exact Nat.le_of_ble_eq_true rfl
      · cases h)
    (fun as σ r σ' h => by
      unfold fL_ledgerOf at h
      split at h
      · exact ⟨2, h⟩
      · cases h)
def tL_sumOf : List XE := [(0, .aload_n 0, 1, 0, 0, []), (1, .iload_n 1, 1, 0, 0, []), (2, .iload_n 2, 1, 0, 0, []), (3, .invokevirtual 122, 3, 244, 0, []), (6, .ireturn, 1, 0, 0, []), (7, .astore_n 3, 1, 0, 0, []), (8, .ldc 69, 2, 0, 0, [((-2000000001), 0)]), (10, .ireturn, 1, 0, 0, []), (11, .astore_n 3, 1, 0, 0, []), (12, .ldc 90, 2, 0, 0, [((-2000000002), 0)]), (14, .ireturn, 1, 0, 0, [])]
theorem tL_sumOf_ok : xTblOK RL cL_sumOf xFL 4 tL_sumOf = true := by decide +kernel
abbrev nL_sumOf (X : Nat × (Nat → Int32)) : List (Nat × Nat × Nat × XS) := [(244, 3, 2, fX7_ledgerSum X)]
def fL_sumOf (X : Nat × (Nat → Int32)) : XS := fun as σ => match as with
  | [.inr (.inr (some (6, a0))), .inl a1, .inl a2] => xIter X (xEnv (nL_sumOf X)) (xHd 6 [(0, 8, 3), (1, 12, 3)]) 0 [] tL_sumOf 2 (0, [(0, .inr (.inr (some (6, a0)))), (1, .inl a1), (2, .inl a2)], σ, 2)
  | _ => none
theorem hL_sumOf {G : XG} {X : Nat × (Nat → Int32)} {p : Program} {l : Launch} {e : Env} {R : Room} {s : State} {m : MethodId} {args : Array Value} {below : List Frame} {meth : Method} {c : Code} (C0 : xCtx G X p s m args meth c cL_sumOf RL 4) (hT : c.exceptionTable.toList = tableOf [(0, 6, 7, 86), (0, 6, 11, 88)]) : ∀ pc E t i, xHd 6 [(0, 8, 3), (1, 12, 3)] pc E = some (some (t, i)) → xCatOK G p l e R s m args below meth c 4 pc E t i := by
  intro pc E t i h
  unfold xHd at h
  split at h
  · rename_i hpc
    have hpc := Nat.le_of_ble_eq_true hpc
    simp only [xHdL] at h
    split at h
    · have hE := Nat.eq_of_beq_eq_true (by assumption : Nat.beq 0 E = true)
      subst hE
      cases h
      exact xCat C0 hT [] [(0, 6, 11, 88)] (fr := 0) (to := 6) (hp := 7) (ct := 86) rfl ⟨Nat.zero_le _, hpc⟩ (by decide) (xPk_in [216] (ws := [.classLink RL 86 (xXN 0)]) (by decide +kernel) (by decide +kernel) _ List.mem_cons_self) (by decide +kernel) (fun z hz => absurd hz List.not_mem_nil) (by decide) (Or.inr ⟨3, rfl, by decide +kernel, rfl⟩)
    · split at h
      · have hE := Nat.eq_of_beq_eq_true (by assumption : Nat.beq 1 E = true)
        subst hE
        cases h
        exact xCat C0 hT [(0, 6, 7, 86)] [] (fr := 0) (to := 6) (hp := 11) (ct := 88) rfl ⟨Nat.zero_le _, hpc⟩ (by decide) (xPk_in [217] (ws := [.classLink RL 88 (xXN 1)]) (by decide +kernel) (by decide +kernel) _ List.mem_cons_self) (by decide +kernel) (fun z hz => by
        rw [List.mem_singleton.mp hz]
        exact ⟨by decide, "java/lang/IndexOutOfBoundsException", xPk_in [216] (ws := [.classLink RL 86 "java/lang/IndexOutOfBoundsException"]) (by decide +kernel) (by decide +kernel) _ List.mem_cons_self, C0.2.2.2.2.2.1.2.2.2.2.2.1⟩) (by decide) (Or.inr ⟨3, rfl, by decide +kernel, rfl⟩)
      · cases h
  · cases h
theorem mL_sumOf (l : Launch) (X : Nat × (Nat → Int32)) (hl : l.stackTraces = false) : xMetH l X yL_sumOf cL_sumOf 4 (some .int) [(0, 6, 7, 86), (0, 6, 11, 88)] 8 2 (fL_sumOf X) :=
  xMetH_of (cl := xEnv (nL_sumOf X)) (rt := 0) (to := 6) (rows := [(0, 8, 3), (1, 12, 3)]) (stops := []) (tbl := tL_sumOf) (by decide +kernel) (by decide) tL_sumOf_ok x_FL rfl (xEnv_ok (L := nL_sumOf X) (List.forall_mem_cons.mpr ⟨xCS_V (i := 122) (n := 2) (C := RX7) (k := 6) (mX7_ledgerSum l X hl) (xPk_in [604, 605, 606, 7, 607] (by decide +kernel) (by decide +kernel)) (by decide +kernel) (by decide) rfl (by decide) (by decide) (rX7_ledgerSum X), (fun _ h => absurd h List.not_mem_nil)⟩)) (xPk_in [603] (ws := [.codeWith yL_sumOf cL_sumOf 4 (some .int) [(0, 6, 7, 86), (0, 6, 11, 88)]]) (by decide +kernel) (by decide +kernel) _ List.mem_cons_self) (by decide +kernel) (fun C0 hT => hL_sumOf C0 hT)
    (fun as σ q h => by
      unfold fL_sumOf at h
      split at h
      · exact Nat.le_of_ble_eq_true rfl
      · cases h)
    (fun as σ r σ' h => by
      unfold fL_sumOf at h
      split at h
      · exact ⟨2, h⟩
      · cases h)
