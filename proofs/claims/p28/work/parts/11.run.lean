/-! ===== whole runs of the engine are sound; a method's contract out of a run ===== -/
/-- a code's table: its rows, that they follow each other, that places of locals are there -/
def xSeq : List XE → Bool
  | [] => true
  | e :: r => (match r with
    | [] => true
    | e' :: _ => decide (e'.1 = e.1 + e.2.2.1)) && xSeq r
def xLocOK (nL : Nat) (e : XE) : Bool := match e.2.1 with
  | .istore i => decide (i < nL) | .astore i => decide (i < nL) | .iinc i _ => decide (i < nL) | .istore_n q => decide (q.val < nL) | .astore_n q => decide (q.val < nL)
  | .lstore i => decide (i + 1 < nL) | .lstore_n q => decide (q.val + 1 < nL)
  | _ => true
def xTblOK (own : String) (cc : ByteArray) (WL : List Jvm.Cond) (nL : Nat) (tbl : List XE) : Bool := tbl.all (fun e => xRowOK own cc WL e && xLocOK nL e) && xSeq tbl
theorem xSeq_app {pre : List XE} {e e' : XE} {r : List XE} (h : xSeq (pre ++ e :: e' :: r) = true) : e'.1 = e.1 + e.2.2.1 := by
  induction pre with
  | nil =>
    unfold xSeq at h
    simp only [Bool.and_eq_true, decide_eq_true_eq, List.nil_append] at h
    exact h.1
  | cons a pre ih =>
    have h2 : xSeq (a :: (pre ++ e :: e' :: r)) = true := h
    unfold xSeq at h2
    simp only [Bool.and_eq_true] at h2
    exact ih h2.2
theorem xPc_suf {t : Nat} : ∀ (tbl : List XE), ∃ pre, tbl = pre ++ xPc tbl t
  | [] => ⟨[], rfl⟩
  | e :: r => by
    unfold xPc
    cases Nat.beq e.1 t with
    | true => exact ⟨[], rfl⟩
    | false =>
      obtain ⟨pre, h⟩ := xPc_suf (t := t) r
      exact ⟨e :: pre, congrArg (e :: ·) h⟩
theorem xPc_head {t : Nat} {e : XE} {r : List XE} : ∀ {tbl : List XE}, xPc tbl t = e :: r → e.1 = t
  | [], h => by cases h
  | e0 :: r0, h => by
    unfold xPc at h
    cases hb : Nat.beq e0.1 t with
    | true =>
      rw [hb] at h
      cases h
      exact Nat.eq_of_beq_eq_true hb
    | false =>
      rw [hb] at h
      exact xPc_head h
theorem xStopAt_some {stops : List (Nat × List Nat)} {cur : List XE} {q : Nat × List Nat} (h : xStopAt stops cur = some q) : ∃ e r, cur = e :: r ∧ q.1 = e.1 := by
  unfold xStopAt at h
  split at h
  · cases h
  · split at h
    · cases h
    · split at h
      · cases h
      · cases h
        exact ⟨_, _, rfl, rfl⟩
section XRUN
variable {p : Program} {l : Launch} {e : Env} {R : Room} {s : State} {m : MethodId} {args : Array Value} {below : List Frame} {meth : Method} {c : Code} {Q : State → Prop}
variable {cc : ByteArray} {G : XG} {X : Nat × (Nat → Int32)} {own : String} {nL lev κ : Nat} {WL : List Jvm.Cond} {cl : XC} {hd : Nat → Nat → Option (Option (Nat × Nat))} {rt : Nat} {stops : List (Nat × List Nat)} {tbl : List XE}
theorem xStopOut_sound {q : Nat × List Nat} {lv : XL} {st : List XV} {σ : XH} {b : Nat} {out : XO} (h : xStopOut q lv st σ b = some out) (hstop : ∀ pc lv σ b, out = .inr (pc, lv, σ, b) → xGo G p l e R s m args below meth c κ nL Q pc lv [] σ b) : xGo G p l e R s m args below meth c κ nL Q q.1 lv st σ b := by
  unfold xStopOut at h
  split at h
  · split at h
    · cases h
    · rename_i lv' hp
      cases h
      intro hl hs H locs ls cells slots hR hS hls hc1 hc2
      exact hstop _ _ _ _ rfl (xlpick_ok hl hp) hs H locs ls cells slots hR hS (xlpick_has hls hp) hc1 hc2
  · cases h
/-- a row that throws -/
abbrev xNewOK (G : XG) (p : Program) (l : Launch) (e : Env) (R : Room) (s : State) (m : MethodId) (args : Array Value) (below : List Frame) (meth : Method) (c : Code) (κ nL : Nat) (en : XE) : Prop :=
  (∃ i, en.2.1 = .new i) → ∀ (σ : XH) (H : Heap) (locs : List Loc) (ls : Array Slot) (cells slots : Nat), xRP G σ H → va_S (xA G) s.heap H locs → ls.size = nL → cells + 1 ≤ κ → slots + 6 ≤ 6 * κ → W p l e R s m args below meth c H locs cells slots (xFin G below args s κ σ (.inr en.2.2.2.1)) (F0 m en.1 ls [])
theorem xExec_sound (F : xFix G X p l e R s m args below meth c cc own nL lev κ WL cl hd rt) (hlv : 1 ≤ lev) (htbl : xTblOK own cc WL nL tbl = true) (hnew : ∀ en ∈ tbl, xNewOK G p l e R s m args below meth c κ nL en) {out : XO}
    (hout : ∀ r σ', out = .inl (r, σ') → Q = xFin G below args s κ σ' r) (hstop : ∀ pc lv σ b, out = .inr (pc, lv, σ, b) → xGo G p l e R s m args below meth c κ nL Q pc lv [] σ b) :
    ∀ (n : Nat) (pre : List XE) (en : XE) (r : List XE) (lv : XL) (st : List XV) (σ : XH) (b : Nat), tbl = pre ++ en :: r → xExec X cl hd rt stops tbl n (en :: r) lv st σ b = some out → xGo G p l e R s m args below meth c κ nL Q en.1 lv st σ b := by
  simp only [xTblOK, Bool.and_eq_true, List.all_eq_true] at htbl
  obtain ⟨hrows, hseq⟩ := htbl
  intro n
  induction n with
  | zero => intro pre en r lv st σ b _ h; cases h
  | succ n ih =>
    intro pre en r lv st σ b htb h
    have hen : en ∈ tbl := by rw [htb]; exact List.mem_append_right _ List.mem_cons_self
    unfold xExec at h
    obtain ⟨hr1, hr2⟩ := hrows en hen
    refine xOp_sound F hlv en hr1 (hnew en hen) (fun i hi => ?_) (fun i hi => ?_) (fun lv st σ b hk => ?_) (fun t lv st σ b hj => ?_) hout h
    · unfold xLocOK at hr2
      rcases hi with hi | hi | ⟨z, hi⟩ | ⟨q, hq, hi | hi⟩ <;> rw [hi] at hr2 <;> first | exact of_decide_eq_true hr2 | (rw [← hq]; exact of_decide_eq_true hr2)
    · unfold xLocOK at hr2
      rcases hi with hi | ⟨q, hq, hi⟩ <;> rw [hi] at hr2 <;> first | exact of_decide_eq_true hr2 | (rw [← hq]; exact of_decide_eq_true hr2)
    · split at hk
      · cases r with
        | nil =>
          cases n with
          | zero => cases hk
          | succ n => cases hk
        | cons e' r' =>
          have he : e'.1 = en.1 + en.2.2.1 := xSeq_app (pre := pre) (by rw [← htb]; exact hseq)
          rw [← he]
          exact ih (pre ++ [en]) e' r' lv st σ b (by rw [htb]; simp) hk
      · rename_i q hq
        obtain ⟨e', r', hc, hq1⟩ := xStopAt_some hq
        subst hc
        have he : e'.1 = en.1 + en.2.2.1 := xSeq_app (pre := pre) (by rw [← htb]; exact hseq)
        rw [← he, ← hq1]
        exact xStopOut_sound hk hstop
    · split at hj
      · cases hp : xPc tbl t with
        | nil =>
          rw [hp] at hj
          cases n with
          | zero => cases hj
          | succ n => cases hj
        | cons e' r' =>
          rw [hp] at hj
          obtain ⟨pre', hpre⟩ := xPc_suf (t := t) tbl
          rw [hp] at hpre
          rw [← xPc_head hp]
          exact ih pre' e' r' lv st σ b hpre hj
      · rename_i q hq
        obtain ⟨e', r', hc, hq1⟩ := xStopAt_some hq
        rw [← xPc_head hc, ← hq1]
        exact xStopOut_sound hj hstop
theorem xIter_sound (F : xFix G X p l e R s m args below meth c cc own nL lev κ WL cl hd rt) (hlv : 1 ≤ lev) (htbl : xTblOK own cc WL nL tbl = true) (hnew : ∀ en ∈ tbl, xNewOK G p l e R s m args below meth c κ nL en) :
    ∀ (n pc : Nat) (lv : XL) (σ : XH) (b : Nat) (r : XR) (σ' : XH), xIter X cl hd rt stops tbl n (pc, lv, σ, b) = some (r, σ') → xGo G p l e R s m args below meth c κ nL (xFin G below args s κ σ' r) pc lv [] σ b := by
  intro n
  induction n with
  | zero => intro pc lv σ b r σ' h; cases h
  | succ n ih =>
    intro pc lv σ b r σ' h
    unfold xIter at h
    dsimp only at h
    cases hx : xExec X cl hd rt stops tbl 1000 (xPc tbl pc) lv [] σ b with
    | none => rw [hx] at h; cases h
    | some out =>
      rw [hx] at h
      cases hp : xPc tbl pc with
      | nil => rw [hp] at hx; cases hx
      | cons e' r' =>
        obtain ⟨pre', hpre⟩ := xPc_suf (t := pc) tbl
        rw [hp] at hpre hx
        rw [← xPc_head hp]
        cases out with
        | inl r0 =>
          cases h
          exact xExec_sound F hlv htbl hnew (fun r2 σ2 hr => by cases hr; rfl) (fun _ _ _ _ hr => by cases hr) 1000 pre' e' r' lv [] σ b hpre hx
        | inr s0 =>
          exact xExec_sound F hlv htbl hnew (fun r2 σ2 hr => by cases hr) (fun pc2 lv2 σ2 b2 hr => by cases hr; exact ih _ _ _ _ _ _ h) 1000 pre' e' r' lv [] σ b hpre hx
end XRUN
theorem xargs_eq (G : XG) : ∀ (i : Nat) (as : List XV), lv_args i (as.map (xcv G)) = xcl G (xargs i as)
  | _, [] => rfl
  | i, v :: vs => by
    unfold xargs
    show (i, xcv G v) :: lv_args (if (xcv G v).category = 2 then i + 2 else i + 1) (vs.map (xcv G)) = (i, xcv G v) :: xcl G (xargs (match xcat v with | 2 => i + 2 | _ => i + 1) vs)
    rw [xargs_eq G _ vs]
    rcases v with x | x | x
    · rfl
    · rfl
    · rw [xcv_cat]
      rfl
theorem xsl_len (G : XG) : ∀ (as : List XV), (lg_sl (as.map (xcv G))).length = xws as
  | [] => rfl
  | v :: vs => by
    have ih := xsl_len G vs
    have h1 : lg_sl ((v :: vs).map (xcv G)) = (if (xcv G v).category = 2 then [.val (xcv G v), .second] else [.val (xcv G v)]) ++ lg_sl (vs.map (xcv G)) := rfl
    rw [h1, List.length_append, ih, xcv_cat]
    show _ = xcat v + xws vs
    rcases v with x | x | x <;> rfl
theorem xlok_args {as : List XV} (h : xsok as) : ∀ i, xlok (xargs i as) := by
  induction as with
  | nil => intro i q hq; cases hq
  | cons v vs ih =>
    intro i
    exact xlok_c (ih (xsok_t h) _) (xsok_h h)
def xRO (rt : Nat) (ret : Option FieldType) : Prop := match rt with
  | 0 => ret = some .int
  | 1 => ret = some .boolean
  | 2 => ret = some .long
  | 3 => ∃ n, ret = some (.object n)
  | _ => ret = none
/-- vx_ofW for a method that is no native, whatever its class -/
theorem vx_ofWF {l : Launch} {y : MethodName} {ws ws' : List Cond} {rm : Room} {Pc : Array Value → State → Prop} {Qc : Array Value → State → Outcome → State → Prop} {XC : String → State → State → Prop} {mc ms : Nat} {free : Addr → Prop} {cc : ByteArray} {maxL : Nat} {ret : Option FieldType}
    (hy : plainFor y = true) (hw : ws = Cond.code y cc maxL ret :: ws')
    (body : ∀ p e s m args below meth c s₁, BodyLoose p l y (headSpec ws rm) cc maxL ret e s m args below meth c s₁ → c.maxLocals = maxL → (∀ x ∈ c.exceptionTable.toList, False) → Pc args s →
      W p l e (headSpec ws rm).room s m args below meth c s.heap [] 0 0 (vx_MQ below Qc XC args s mc ms free) (entryFrame m args maxL)) : vx_Met l y ws rm Pc Qc XC mc ms free := by
  refine MetFree.of_bodySF (code := cc) (maxLocals := maxL) (ret := ret) hy ?_ ?_
  · intro args s m h hn
    obtain ⟨meth, c, h1, h2, h3, h4, h5, h6, -, -⟩ := Cond.code_spec hn (atoms_spec (ws := ws) h _ (by rw [hw]; exact List.mem_cons_self))
    exact ⟨meth, c, h1, h2, h3, h4, h5, h6⟩
  · intro p e s m args below meth c s₁ B hml hP _
    have hh0 : s₁.heap = s.heap := by rw [B.state]; rfl
    have ht : ∀ x ∈ c.exceptionTable.toList, False := by
      obtain ⟨meth9, c9, h1, h2, -, -, -, -, h7, -⟩ := Cond.code_spec B.named (atoms_spec (ws := ws) B.pre _ (by rw [hw]; exact List.mem_cons_self))
      cases Option.some.inj (h1.symm.trans B.method)
      cases Option.some.inj (h2.symm.trans (Stand.of_body B).code)
      intro x hx
      rw [Array.isEmpty_iff.mp h7] at hx
      cases hx
    obtain ⟨t, a1, o, b1, b2, b3⟩ := body p e s m args below meth c s₁ B hml ht hP s₁ hh0 (Stand.of_body B)
    exact ⟨t, o, a1, b1, b2, b3⟩
/-- a method's contract out of its runs -/
theorem xMet_of {l : Launch} {X : Nat × (Nat → Int32)} {y : MethodName} {cc : ByteArray} {maxL : Nat} {ret : Option FieldType} {lev κ : Nat} {f : XS} {WL : List Jvm.Cond} {cl : XC} {rt : Nat} {stops : List (Nat × List Nat)} {tbl : List XE}
    (hy : plainFor y = true) (hlv : 1 ≤ lev) (htbl : xTblOK y.cls cc WL maxL tbl = true) (hWL : ∀ w ∈ WL, w ∈ xW) (hret : xRO rt ret) (hcl : ∀ a n κ' f, cl a = some (n, κ', f) → xCS l X y.cls lev a n κ' f)
    (hnew : ∀ en ∈ tbl, (∃ i, en.2.1 = .new i) → ∀ {G : XG} {p : Program} {e : Env} {R : Room} {s : State} {m : MethodId} {args : Array Value} {below : List Frame} {meth : Method} {c : Code}, xCtx G X p s m args meth c cc y.cls maxL → lev ≤ R.frames → 37 * lev ≤ R.locals → κ ≤ R.cells → 6 * κ ≤ R.slots → (∀ x ∈ c.exceptionTable.toList, False) → xNewOK G p l e R s m args below meth c κ maxL en)
    (hlen : ∀ as σ q, f as σ = some q → xws as ≤ maxL) (hf : ∀ as σ r σ', f as σ = some (r, σ') → ∃ n, xIter X cl (fun _ _ => some none) rt stops tbl n (0, xargs 0 as, σ, κ) = some (r, σ')) : xMet l X y cc maxL ret lev κ f := by
  intro G as σ r σ' hA hok hfa
  refine vx_ofWF (cc := cc) (maxL := maxL) (ret := ret) (ws' := []) hy rfl ?_
  intro p e s m args below meth c s₁ B hml ht hv
  obtain ⟨hargs, hWK, hST, hR⟩ := hv
  have hx := B.exec
  have hb := B.bytes
  have hr := B.returns
  have hown : s.vm.findClass y.cls = some m.cls := findClass_of_methodNamed B.named
  have hlocks := B.notSynchronized
  have hts : ∀ w ∈ xW, w.before args s = true := fun w hw => word_at (State.WarmedH.refl s) (xW_good hw) (hWK.2.1 w hw)
  have C0 : xCtx G X p s m args meth c cc y.cls maxL := ⟨hx, hb, hown, hml, hlocks, hWK, hts, hST, hA⟩
  have hrt : xRT rt meth := by
    match rt, hret with
    | 0, h => exact hr.trans h
    | 1, h => exact hr.trans h
    | 2, h => exact hr.trans h
    | 3, ⟨n, h⟩ => exact ⟨n, hr.trans h⟩
    | n + 4, h => exact hr.trans h
  have F : xFix G X p l e (xRm lev κ) s m args below meth c cc y.cls maxL lev κ WL cl (fun _ _ => some none) rt := ⟨C0, ⟨Nat.le_refl _, Nat.le_refl _, Nat.le_refl _, Nat.le_refl _⟩, hWL, hrt, hcl, fun pc E _ x hx => absurd hx (fun q => ht x q), fun pc E t i h => by cases h⟩
  obtain ⟨n, hn⟩ := hf as σ r σ' hfa
  have hgo := xIter_sound (e := e) (R := xRm lev κ) (below := below) F hlv htbl (fun en hen hi => hnew en hen hi C0 (Nat.le_refl _) (Nat.le_refl _) (Nat.le_refl _) (Nat.le_refl _) ht hi) n 0 _ σ κ r σ' hn
  have hl := lv_entry (as.map (xcv G)) (n := maxL) (by rw [xsl_len]; exact hlen _ _ _ hfa)
  rw [xargs_eq] at hl
  subst hargs
  rw [lg_entry_eq]
  exact hgo (xlok_args hok 0) (fun v hv => by cases hv) s.heap [] _ 0 0 hR va_S.rf hl (by omega) (by omega)
