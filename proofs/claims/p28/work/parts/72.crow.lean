/-! ===== constructors: rows over a world that is a list of cells ===== -/
abbrev yz (n : Nat) : List Value := List.replicate n (.int 0)
def xDF : Nat → List Value
  | 0 => [.null, .int 0]
  | 1 => [.null, .int 0, .int 0]
  | 2 => [.null, .null, .int 0, .int 0, .int 0, .null]
  | 3 => [.null, .null, .null, .int 0, .int 0, .int 0, .int 0, .int 0, .int 0, .int 0, .int 0, .int 0]
  | 4 => [.int 0, .int 0, .int 0, .int 0, .int 0, .int 0, .int 0, .int 0, .int 0, .int 0, .int 0, .int 0, .int 0, .int 0, .int 0, .int 0]
  | 6 => [.null, .null, .null, .null]
  | _ => []
theorem xDF_ok (k : Nat) (hk : k < 8) : ∀ j, j < xNN k → defaultValue (xYY k j) = vp_V (xDF k) j := by
  have h : ∀ k, k < 8 → ∀ j, j < xNN k → defaultValue (xYY k j) = vp_V (xDF k) j := by decide +kernel
  exact h k hk
def yWK (G : XG) (U : State) : Prop := xWK G U ∧ va_AO RX4 U
theorem yWK.moved {G : XG} {u U : State} (hW : u.WarmedH U.vm) (h : yWK G u) : yWK G U := ⟨xWK.moved hW h.1, va_AO.moved hW.alike h.2⟩
def yCtx (G : XG) (p : Program) (s : State) (m : MethodId) (args : Array Value) (meth : Method) (c : Code) (cc : ByteArray) (own : String) (nL : Nat) : Prop :=
  p.tables.exec = Jvm.exec ∧ c.code = cc ∧ s.vm.findClass own = some m.cls ∧ c.maxLocals = nL ∧ meth.locks = false ∧ yWK G s ∧ (∀ w ∈ xW, w.before args s = true)
/-- a world: its cells, apart, all in A; nothing outside A has changed since the method's start -/
def yPs (G : XG) (A : Nat → Prop) (H0 : Heap) (ws : va_W) (H : Heap) (locs : List Loc) : Prop := va_P (xD G) xCl ws H ∧ va_D A ws ∧ va_S A H0 H locs ∧ ∀ q, H0.size ≤ q → A q
theorem yPs.eq {G : XG} {A : Nat → Prop} {H0 : Heap} {ws ws' : va_W} {H : Heap} {locs : List Loc} (h : yPs G A H0 ws H locs) (e : ws = ws') : yPs G A H0 ws' H locs := e ▸ h
section YROWS
variable {p : Program} {l : Launch} {e : Env} {R : Room} {s : State} {m : MethodId} {args : Array Value} {below : List Frame} {meth : Method} {c : Code} {H : Heap} {locs : List Loc} {cells slots : Nat} {Q : State → Prop}
variable {cc : ByteArray} {pc : Nat} {ls : Array Slot} {rest : List Value} {G : XG} {own : String} {nL : Nat} {A : Nat → Prop} {ws : va_W}
theorem yr_new (C0 : yCtx G p s m args meth c cc own nL) (P : yPs G A s.heap ws H locs) (k : Nat) (hk : k < 8) {index : Nat} (hw : ∀ w ∈ ([.classLink own index (xRR k), .instantiable (xRR k) (xNN k), .initialized (xRR k)] : List Jvm.Cond), w ∈ xW) (hc : cells + 1 ≤ R.cells) (hs : slots + xNN k ≤ R.slots) (hdg : decode cc pc = .ok (.new index, 3))
    (kk : ∀ (q : Nat) (H1 : Heap), yPs G A s.heap (ws ++ [(q, .inr (k, xDF k))]) H1 locs → W p l e R s m args below meth c H1 locs (cells + 1) (slots + xNN k) Q (F0 m (pc + 3) ls (.ref q :: rest))) : W p l e R s m args below meth c H locs cells slots Q (F0 m pc ls rest) := by
  obtain ⟨hx, hb, hown, hml, hlocks, ⟨⟨hK, -⟩, hAO⟩, hts⟩ := C0
  obtain ⟨hP, hD, hS, hA⟩ := P
  exact va_new (ci := k) (fs := xDF k) hx hb hts (x_in k hk) (xYY k) (x_ty k hk) hown (hts _ (hw _ (by simp))) (hts _ (hw _ (by simp))) (hts _ (hw _ (by simp))) hK hP hD hS hA (x_cl k hk) (xDF_ok k hk) hc hs hdg fun q H1 a1 a2 a3 => kk q H1 ⟨a1, a2, a3, hA⟩
theorem yr_newI (C0 : yCtx G p s m args meth c cc own nL) (P : yPs G A s.heap ws H locs) (N : Nat) {n : Int32} (hn : ¬ n < 0) (hN : n.toNatClampNeg = N) (hby : N * componentBytes .int ≤ 536870912) (hw : Jvm.Cond.arrayClass .int ∈ xW) (hc : cells + 1 ≤ R.cells) (hs : slots + N ≤ R.slots) (hdg : decode cc pc = .ok (.newarray .int, 2))
    (kk : ∀ (q : Nat) (H1 : Heap), yPs G A s.heap (ws ++ [(q, .inl (xcI G, N, .inl (fun _ => 0)))]) H1 locs → W p l e R s m args below meth c H1 locs (cells + 1) (slots + N) Q (F0 m (pc + 2) ls (.ref q :: rest))) : W p l e R s m args below meth c H locs cells slots Q (F0 m pc ls (.int n :: rest)) := by
  obtain ⟨hx, hb, hown, hml, hlocks, ⟨⟨hK, -⟩, hAO⟩, hts⟩ := C0
  obtain ⟨hP, hD, hS, hA⟩ := P
  refine va_newa (ty := .int) (atype := .int) (a0 := (N, .inl (fun _ => 0))) hx hb (hts _ hw) rfl hK hP hD hS hA (fun cA => rfl) hn hN hby hc hs hdg fun q cA H1 b1 a1 a2 a3 => ?_
  have e : cA = xcI G := Option.some.inj ((b1.2 2 _ rfl).2.symm.trans (hK.2 0 _ rfl).2)
  subst e
  exact kk q H1 ⟨a1, a2, a3, hA⟩
theorem yr_newT (C0 : yCtx G p s m args meth c cc own nL) (P : yPs G A s.heap ws H locs) (N : Nat) {n : Int32} {index : Nat} (hn : ¬ n < 0) (hN : n.toNatClampNeg = N) (hby : N * 4 ≤ 536870912) (hw : Jvm.Cond.classLink own index RX4 ∈ xW) (hc : cells + 1 ≤ R.cells) (hs : slots + N ≤ R.slots) (hdg : decode cc pc = .ok (.anewarray index, 3))
    (kk : ∀ (q : Nat) (H1 : Heap), yPs G A s.heap (ws ++ [(q, .inl (xcT G, N, .inr (.inr (.inr (.inr (fun _ => none))))))]) H1 locs → W p l e R s m args below meth c H1 locs (cells + 1) (slots + N) Q (F0 m (pc + 3) ls (.ref q :: rest))) : W p l e R s m args below meth c H locs cells slots Q (F0 m pc ls (.int n :: rest)) := by
  obtain ⟨hx, hb, hown, hml, hlocks, ⟨⟨hK, -⟩, hAO⟩, hts⟩ := C0
  obtain ⟨hP, hD, hS, hA⟩ := P
  refine va_newq (C := RX4) hx hb hown (hts _ hw) hAO hK hP hD hS hA hn hN hby hc hs hdg fun q cA H1 b1 a1 a2 a3 => ?_
  have e : cA = xcT G := by
    obtain ⟨-, -, -, -, -, h1⟩ := (b1.2 2 _ rfl).2
    obtain ⟨-, -, -, -, -, h2⟩ := (hK.2 1 _ rfl).2
    exact Option.some.inj (h1.symm.trans h2)
  subst e
  exact kk q H1 ⟨a1, a2, a3, hA⟩
theorem yr_put (C0 : yCtx G p s m args meth c cc own nL) (P : yPs G A s.heap ws H locs) (q0 k f : Nat) {a index : Nat} {fs : List Value} {v : Value} (he : ws[q0]? = some (a, .inr (k, fs))) (hk : k < 8) (hf : f < xNN k) (hw : (Jvm.Cond.fieldLink own index (xTT k f).1 (xTT k f).2.1 (xTT k f).2.2.1) ∈ xW)
    (hfin : (xTT k f).2.2.2 = false ∨ ((xTT k f).2.2.2 = true ∧ meth.name = "<init>" ∧ (xTT k f).1 = own)) (hn : narrow (xYY k f) v = v) (hfit : fits (xYY k f) v = true) (hl : f < fs.length) (hdg : decode cc pc = .ok (.putfield index, 3))
    (kk : ∀ (H1 : Heap) (locs1 : List Loc), yPs G A s.heap (ws.set q0 (a, .inr (k, fs.set f v))) H1 locs1 → W p l e R s m args below meth c H1 locs1 cells slots Q (F0 m (pc + 3) ls rest)) : W p l e R s m args below meth c H locs cells slots Q (F0 m pc ls (v :: .ref a :: rest)) := by
  obtain ⟨hx, hb, hown, hml, hlocks, ⟨⟨hK, -⟩, hAO⟩, hts⟩ := C0
  obtain ⟨hP, hD, hS, hA⟩ := P
  rcases hfin with hfin | ⟨hfin, h1, h2⟩
  · exact va_put (ci := k) hx hb hts (x_in k hk) (xYY k) (x_ty k hk) (x_nm k hk) hown hK hP hD hS q0 he (x_cl k hk) f hf (hts _ hw) (fun x h => h) hfin (x_ty k hk f hf) hn hfit hl hdg fun H1 locs1 a1 a2 a3 => kk H1 locs1 ⟨a1, a2, a3, hA⟩
  · exact va_putF (ci := k) hx hb hts (x_in k hk) (xYY k) (x_ty k hk) (x_nm k hk) hown hK hP hD hS q0 he (x_cl k hk) f hf (hts _ hw) (fun x h => h) hfin h1 h2 (x_ty k hk f hf) hn hfit hl hdg fun H1 locs1 a1 a2 a3 => kk H1 locs1 ⟨a1, a2, a3, hA⟩
theorem yr_get (C0 : yCtx G p s m args meth c cc own nL) (P : yPs G A s.heap ws H locs) (q0 k f : Nat) {a index : Nat} {fs : List Value} {v : Value} (he : ws[q0]? = some (a, .inr (k, fs))) (hk : k < 8) (hf : f < xNN k) (hw : (Jvm.Cond.fieldLink own index (xTT k f).1 (xTT k f).2.1 (xTT k f).2.2.1) ∈ xW) (hv : fs[f]? = some v) (hdg : decode cc pc = .ok (.getfield index, 3))
    (kk : W p l e R s m args below meth c H locs cells slots Q (F0 m (pc + 3) ls (v :: rest))) : W p l e R s m args below meth c H locs cells slots Q (F0 m pc ls (.ref a :: rest)) := by
  obtain ⟨hx, hb, hown, hml, hlocks, ⟨⟨hK, -⟩, hAO⟩, hts⟩ := C0
  obtain ⟨hP, hD, hS, hA⟩ := P
  exact va_get (ci := k) hx hb hts (x_in k hk) hown hK hP q0 he (x_cl k hk) f hf (hts _ hw) (fun x h => h) hv hdg kk
theorem yr_iast (C0 : yCtx G p s m args meth c cc own nL) (P : yPs G A s.heap ws H locs) (q0 : Nat) {a n : Nat} {f : Nat → Int32} {i x : Int32} (he : ws[q0]? = some (a, .inl (xcI G, n, .inl f))) (hin : vp_in i n) (hdg : decode cc pc = .ok (.iastore, 1))
    (kk : ∀ (H1 : Heap) (locs1 : List Loc), yPs G A s.heap (ws.set q0 (a, .inl (xcI G, n, .inl (upd f i.toNatClampNeg x)))) H1 locs1 → W p l e R s m args below meth c H1 locs1 cells slots Q (F0 m (pc + 1) ls rest)) : W p l e R s m args below meth c H locs cells slots Q (F0 m pc ls (.int x :: .int i :: .ref a :: rest)) := by
  obtain ⟨hx, hb, hown, hml, hlocks, ⟨⟨hK, -⟩, hAO⟩, hts⟩ := C0
  obtain ⟨hP, hD, hS, hA⟩ := P
  exact va_iast hx hb hK hP hD hS q0 0 he rfl hin hdg fun H1 locs1 a1 a2 a3 => kk H1 locs1 ⟨a1, a2, a3, hA⟩
theorem yr_astq (C0 : yCtx G p s m args meth c cc own nL) (P : yPs G A s.heap ws H locs) (q0 qk : Nat) {a n v : Nat} {vs : List Value} {f : Nat → Option Nat} {i : Int32} (he : ws[q0]? = some (a, .inl (xcT G, n, .inr (.inr (.inr (.inr f)))))) (hv : ws[qk]? = some (v, .inr (3, vs))) (hin : vp_in i n) (hdg : decode cc pc = .ok (.aastore, 1))
    (kk : ∀ (H1 : Heap) (locs1 : List Loc), yPs G A s.heap (ws.set q0 (a, .inl (xcT G, n, .inr (.inr (.inr (.inr (va_up f i.toNatClampNeg (some v)))))))) H1 locs1 → W p l e R s m args below meth c H1 locs1 cells slots Q (F0 m (pc + 1) ls rest)) : W p l e R s m args below meth c H locs cells slots Q (F0 m pc ls (.ref v :: .int i :: .ref a :: rest)) := by
  obtain ⟨hx, hb, hown, hml, hlocks, ⟨⟨hK, -⟩, hAO⟩, hts⟩ := C0
  obtain ⟨hP, hD, hS, hA⟩ := P
  exact va_astq (ci := 3) (r := (RX4, TX4, 12)) hx hb hK hP hD hS q0 1 qk he rfl hv rfl hin hdg fun H1 locs1 a1 a2 a3 => kk H1 locs1 ⟨a1, a2, a3, hA⟩
theorem yr_obj (C0 : yCtx G p s m args meth c cc own nL) {index a : Nat} (hw : ∀ w ∈ ([.methodLink own index objectInit, .instanceMethod objectInit, .code objectInit ⟨#[0xb1]⟩ 1 none] : List Jvm.Cond), w ∈ xW) (hsz : ls.size = nL) (hf : 1 ≤ R.frames) (hl : 12 ≤ R.locals) (hdg : decode cc pc = .ok (.invokespecial index, 3))
    (kk : W p l e R s m args below meth c H locs cells slots Q (F0 m (pc + 3) ls [])) : W p l e R s m args below meth c H locs cells slots Q (F0 m pc ls [.ref a]) := by
  obtain ⟨hx, hb, hown, hml, hlocks, -, hts⟩ := C0
  refine W.objInit (idx := index) (rest := []) hx hb hown (hts _ (hw _ (by simp))) (hts _ (hw _ (by simp))) (hts _ (hw _ (by simp))) rfl (by rw [hml]; exact hsz) rfl hdg hf (by show 2 * 0 + 0 + 12 ≤ _; omega) ?_
  exact W.eq (g2 := F0 m (pc + 3) ls []) rfl kk
end YROWS
/-- a constructor's contract: out of the default object the cells that 'out' names, at addresses g -/
def yMet (l : Launch) (y : MethodName) (cc : ByteArray) (maxL lev mc ms k : Nat) (as : List Value) (out : XG → Nat → (Nat → Nat) → va_W) : Prop :=
  ∀ (G : XG) (a sz : Nat), Met l y [.code y cc maxL none] ({ frames := lev, cells := mc, slots := ms, locals := 37 * lev }) (va_Pc (.ref a :: as) (fun U => U.heap.size = sz ∧ va_P (xD G) xCl [(a, .inr (k, xDF k))] U.heap ∧ yWK G U))
    (va_Qv (fun _ : Nat → Nat => True) (fun g t => va_P (xD G) xCl (out G a g) t.heap ∧ va_D (va_A [(a, .inr (k, xDF k))] sz) (out G a g)) (va_A [(a, .inr (k, xDF k))] sz)) mc ms (va_A [(a, .inr (k, xDF k))] sz)
abbrev yQ (G : XG) (below : List Frame) (args : Array Value) (s : State) (mc ms k a : Nat) (out : XG → Nat → (Nat → Nat) → va_W) : State → Prop :=
  MQ below (va_Qv (fun _ : Nat → Nat => True) (fun g t => va_P (xD G) xCl (out G a g) t.heap ∧ va_D (va_A [(a, .inr (k, xDF k))] s.heap.size) (out G a g)) (va_A [(a, .inr (k, xDF k))] s.heap.size)) args s mc ms (va_A [(a, .inr (k, xDF k))] s.heap.size)
theorem yMet_of {l : Launch} {y : MethodName} {cc : ByteArray} {maxL lev mc ms k : Nat} {as : List Value} {out : XG → Nat → (Nat → Nat) → va_W} (hy : plainName y.cls = true) (hsl : (lg_sl (.ref 0 :: as)).length ≤ maxL)
    (body : ∀ {G : XG} {p : Program} {e : Env} {s : State} {m : MethodId} {args : Array Value} {below : List Frame} {meth : Method} {c : Code} {a : Nat} {ls : Array Slot}, yCtx G p s m args meth c cc y.cls maxL → meth.name = y.name → meth.sig.returnType = none → yPs G (va_A [(a, .inr (k, xDF k))] s.heap.size) s.heap [(a, .inr (k, xDF k))] s.heap [] → lv_has ls maxL (lv_args 0 (.ref a :: as)) →
      W p l e ({ frames := lev, cells := mc, slots := ms, locals := 37 * lev }) s m args below meth c s.heap [] 0 0 (yQ G below args s mc ms k a out) (F0 m 0 ls [])) : yMet l y cc maxL lev mc ms k as out := by
  intro G a sz
  refine Met.ofW (cc := cc) (maxL := maxL) (ret := none) hy rfl ?_
  intro p e s m args below meth c s₁ B hml hv
  obtain ⟨rfl, rfl, hP, hWK⟩ := hv
  have hts : ∀ w ∈ xW, w.before (Value.ref a :: as).toArray s = true := fun w hw => word_at (State.WarmedH.refl s) (xW_good hw) (hWK.1.2.1 w hw)
  have hl := lv_entry (.ref a :: as) (n := maxL) hsl
  rw [lg_entry_eq]
  have hD : va_D (va_A [(a, .inr (k, xDF k))] s.heap.size) [(a, .inr (k, xDF k))] := by
    refine ⟨fun i j x y hi hj _ => ?_, fun i q hq => va_A.in hq⟩
    have h1 := (List.getElem?_eq_some_iff.mp hi).1
    have h2 := (List.getElem?_eq_some_iff.mp hj).1
    simp only [List.length_singleton] at h1 h2
    omega
  exact body ⟨B.exec, B.bytes, findClass_of_methodNamed B.named, hml, B.notSynchronized, hWK, hts⟩ (name_of_methodNamed B.named B.method).1 B.returns ⟨hP, hD, va_S.rf, fun q h => Or.inr h⟩ hl
section YCALL
variable {p : Program} {l : Launch} {e : Env} {R : Room} {s : State} {m : MethodId} {args : Array Value} {below : List Frame} {meth : Method} {c : Code} {H : Heap} {locs : List Loc} {cells slots : Nat} {Q : State → Prop}
variable {cc : ByteArray} {pc : Nat} {ls : Array Slot} {rest : List Value} {G : XG} {own : String} {nL : Nat} {A : Nat → Prop} {ws : va_W}
theorem yr_ret (C0 : yCtx G p s m args meth c cc own nL) {k a mc ms : Nat} {out : XG → Nat → (Nat → Nat) → va_W} (g : Nat → Nat) (P : yPs G (va_A [(a, .inr (k, xDF k))] s.heap.size) s.heap (out G a g) H locs) (hr : meth.sig.returnType = none) (hdg : decode cc pc = .ok (.return_, 1)) : W p l e R s m args below meth c H locs mc ms (yQ G below args s mc ms k a out) (F0 m pc ls []) := by
  obtain ⟨hx, hb, hown, hml, hlocks, -, hts⟩ := C0
  obtain ⟨hP, hD, hS, hA⟩ := P
  exact W.vret hx hb hr (fun t ht hW => ⟨⟨g, rfl, trivial, by rw [ht]; exact hP, hD⟩, hS.F ht⟩) hS.2.2 hdg
theorem yr_call (C0 : yCtx G p s m args meth c cc own nL) (P : yPs G A s.heap ws H locs) {y : MethodName} {cy : ByteArray} {maxL lev mc ms k n index a : Nat} {as : List Value} {out : XG → Nat → (Nat → Nat) → va_W} (hM : yMet l y cy maxL lev mc ms k as out) (q0 : Nat) (isR : List Nat) {wr : va_W} (hC : [q0].map (fun i => ws[i]?) = [(a, .inr (k, xDF k))].map some) (hR : isR.map (fun i => ws[i]?) = wr.map some) (hn : va_nd isR = true) (hdis : ∀ i ∈ isR, i ∉ [q0])
    (hw : ∀ w ∈ ([.methodLink own index y, .instanceMethod y, .initialized y.cls, .code y cy maxL none] : List Jvm.Cond), w ∈ xW) (hy : y.name = "<init>") (hd : y.cls ≠ "java/lang/invoke/MethodHandle" ∧ y.cls ≠ "java/lang/invoke/VarHandle" ∧ (parseMethodDescriptor y.desc).map (fun d => d.parameters.length) = some n)
    (hf : lev + 1 ≤ R.frames) (hl : 37 * (lev + 1) ≤ R.locals) (hm : maxL ≤ 18) (hc : cells + mc ≤ R.cells) (hs : slots + ms ≤ R.slots) (hlen : as.length = n) (hsz : ls.size = nL) {st0 : List Value} (hst : st0 = as.reverse ++ .ref a :: rest) (hro : (rest.map fun v => v.category).sum ≤ 8) (hdg : decode cc pc = .ok (.invokespecial index, 3))
    (kk : ∀ (g : Nat → Nat) (H1 : Heap) (locs1 : List Loc), yPs G A s.heap (wr ++ out G a g) H1 locs1 → W p l e R s m args below meth c H1 locs1 (cells + mc) (slots + ms) Q (F0 m (pc + 3) ls rest)) : W p l e R s m args below meth c H locs cells slots Q (F0 m pc ls st0) := by
  subst hst
  obtain ⟨hx, hb, hown, hml, hlocks, hWK, hts⟩ := C0
  obtain ⟨hP, hD, hS, hA⟩ := P
  have hFc := va_free (wc := [(a, .inr (k, xDF k))]) hD hS hA [q0] hC
  have he : ws[q0]? = some (a, .inr (k, xDF k)) := by
    have := hC
    simp only [List.map_cons, List.map_nil, List.cons.injEq, and_true] at this
    exact this
  have hPc : va_P (xD G) xCl [(a, .inr (k, xDF k))] H := fun i q hq => by
    have h1 := (List.getElem?_eq_some_iff.mp hq).1
    simp only [List.length_singleton] at h1
    have : i = 0 := by omega
    subst this
    cases hq
    exact hP q0 _ he
  have hG : GoodIn xW [.code y cy maxL none] := fun w h => by
    have := hw w (by rw [List.mem_singleton.mp h]; simp)
    exact ⟨this, xW_good this⟩
  refine va_callv (va_runI (As := as) (rest := rest) (nL := nL) (n := n) (index := index) (mc := mc) (ms := ms) ⟨hx, hb, hml, hown, hts⟩ (hM G a H.size) (cwI n hts hG rfl rfl rfl (hts _ (hw _ (by simp))) (hts _ (hw _ (by simp))) (hts _ (hw _ (by simp))) hy hd ⟨hf, by show 8 + (maxL + 11) + 37 * lev ≤ _; omega⟩) ⟨fun a' U g mk q => ?_, fun U hU hW => ⟨rfl, by rw [hU], by rw [hU]; exact hPc, yWK.moved hW hWK⟩⟩ rfl hlen hsz rfl (lv_room hro) hdg ⟨hc, hs⟩) hS (fun q _ h => hFc q h) hFc (fun g t H1 locs1 ht hvm hw2 hB hz1 hk1 hS1 => ?_)
  · obtain ⟨q0', q1, qP, qK⟩ := q
    have hW : U.WarmedH (U.calling g mk a').vm := State.WarmedH.refl U
    exact ⟨q0', q1, qP, yWK.moved hW qK⟩
  · obtain ⟨hP1, hD1⟩ := hB
    rw [ht] at hP1
    obtain ⟨b1, b2⟩ := va_join (wr := wr) (w1 := out G a g) hP hD [q0] isR hC hR hn hdis hk1 hFc hP1 hD1
    exact kk g H1 locs1 ⟨b1, b2, hS1, hA⟩
end YCALL
