/-! ===== one step of the engine is sound ===== -/
section XCALL
variable {p : Program} {l : Launch} {e : Env} {R : Room} {s : State} {m : MethodId} {args : Array Value} {below : List Frame} {meth : Method} {c : Code} {H : Heap} {locs : List Loc} {cells slots : Nat} {Q : State → Prop}
variable {pc : Nat} {ls : Array Slot} {st0 rest : List Value} {G : XG}
theorem xr_call {σ' : XH} {r : XR} {mc ms : Nat} (hr : vx_Run p l e R s m args below meth c H locs cells slots mc ms (F0 m pc ls st0) rest (xQR G σ' r) (xXR G σ' r) (xA G)) (hS : va_S (xA G) s.heap H locs)
    (kn : r = .inl none → ∀ (H1 : Heap) (locs1 : List Loc), xRP G σ' H1 → va_S (xA G) s.heap H1 locs1 → W p l e R s m args below meth c H1 locs1 (cells + mc) (slots + ms) Q (F0 m (pc + 3) ls rest))
    (kv : ∀ v, r = .inl (some v) → xok v → ∀ (H1 : Heap) (locs1 : List Loc), xRP G σ' H1 → va_S (xA G) s.heap H1 locs1 → W p l e R s m args below meth c H1 locs1 (cells + mc) (slots + ms) Q (F0 m (pc + 3) ls (xcv G v :: rest)))
    (kx : ∀ E, r = .inr E → ∀ (q : Addr) (ce : Cell) (H1 : Heap) (locs1 : List Loc), xRP G σ' H1 → va_S (xA G) s.heap H1 locs1 → H1[q]? = some ce → ce.vm = .none → s.vm.findClass (xXN E) = some ce.cls → vx_W p l e R s m args below meth c H1 locs1 (cells + mc) (slots + ms) Q (F0 m pc ls rest) q) :
    W p l e R s m args below meth c H locs cells slots Q (F0 m pc ls st0) := by
  intro T hT X
  rcases hr T hT X with ⟨v, st₀, t, T', L, h0, X', hL, e1, e2, ⟨⟨v9, hv, ho, hok⟩, hRP, hF⟩, st⟩ | ⟨q, st₀, t, T', L, E, ce, h0, X', hL, e1, e2, ⟨⟨k9, hk, hE⟩, hRP, hF⟩, hce, hcv, hcl, st⟩
  · obtain ⟨k1, k2, k3⟩ := vx_keep h0 e1 hS (fun q _ h => h) (fun q h => h) hL hF
    have hv2 : v = v9.map (xcv G) := by
      cases ho
      rfl
    subst hv2
    rw [← e1] at hRP
    cases v9 with
    | none =>
      obtain ⟨t2, a1, b1⟩ := kn hv T'.heap (locs ++ L) hRP k3 T' rfl X'
      exact ⟨t2, st t2 a1, b1⟩
    | some w =>
      obtain ⟨t2, a1, b1⟩ := kv w hv (hok w rfl) T'.heap (locs ++ L) hRP k3 T' rfl X'
      exact ⟨t2, st t2 a1, b1⟩
  · obtain ⟨k1, k2, k3⟩ := vx_keep h0 e1 hS (fun q _ h => h) (fun q h => h) hL hF
    rw [← e1] at hRP hce
    subst hE
    obtain ⟨t2, a1, b1⟩ := kx k9 hk q ce T'.heap (locs ++ L) hRP k3 hce hcv hcl T' rfl X'
    exact ⟨t2, st.trans a1, b1⟩
end XCALL
/-- from here on the machine comes to Q -/
def xGo (G : XG) (p : Program) (l : Launch) (e : Env) (R : Room) (s : State) (m : MethodId) (args : Array Value) (below : List Frame) (meth : Method) (c : Code) (κ nL : Nat) (Q : State → Prop) (pc : Nat) (lv : XL) (st : List XV) (σ : XH) (b : Nat) : Prop :=
  xlok lv → xsok st → ∀ (H : Heap) (locs : List Loc) (ls : Array Slot) (cells slots : Nat), xRP G σ H → va_S (xA G) s.heap H locs → lv_has ls nL (xcl G lv) → cells + b ≤ κ → slots + 6 * b ≤ 6 * κ →
    W p l e R s m args below meth c H locs cells slots Q (F0 m pc ls (st.map (xcv G)))
abbrev xFin (G : XG) (below : List Frame) (args : Array Value) (s : State) (κ : Nat) (σ' : XH) (r : XR) : State → Prop := vx_MQ below (fun _ => xQR G σ' r) (xXR G σ' r) args s κ (6 * κ) (xA G)
def xRT (rt : Nat) (meth : Method) : Prop := match rt with
  | 0 => meth.sig.returnType = some .int
  | 1 => meth.sig.returnType = some .boolean
  | 2 => meth.sig.returnType = some .long
  | 3 => ∃ n, meth.sig.returnType = some (.object n)
  | _ => meth.sig.returnType = none
def xFix (G : XG) (X : Nat × (Nat → Int32)) (p : Program) (l : Launch) (e : Env) (R : Room) (s : State) (m : MethodId) (args : Array Value) (below : List Frame) (meth : Method) (c : Code) (cc : ByteArray) (own : String) (nL lev κ : Nat) (WL : List Jvm.Cond) (cl : XC) (hd : Nat → Nat → Option (Option (Nat × Nat))) (rt : Nat) : Prop :=
  xCtx G X p s m args meth c cc own nL ∧ (lev ≤ R.frames ∧ 37 * lev ≤ R.locals ∧ κ ≤ R.cells ∧ 6 * κ ≤ R.slots) ∧ (∀ w ∈ WL, w ∈ xW) ∧ xRT rt meth ∧
  (∀ a n κ' f, cl a = some (n, κ', f) → xCS l X own lev a n κ' f) ∧ (∀ pc E, hd pc E = some none → ∀ x ∈ c.exceptionTable.toList, covers x pc = false) ∧
  ∀ pc E t i, hd pc E = some (some (t, i)) → ∀ (H : Heap) (locs : List Loc) (ls : Array Slot) (cells slots : Nat) (lv : XL) (q : Addr) (ce : Cell) (rest : List Value) (Q : State → Prop), lv_has ls nL (xcl G lv) → H[q]? = some ce → ce.vm = .none → s.vm.findClass (xXN E) = some ce.cls →
    (∀ ls', lv_has ls' nL (xcl G (lv.filter (xk1 i))) → W p l e R s m args below meth c H locs cells slots Q (F0 m t ls' [])) → vx_W p l e R s m args below meth c H locs cells slots Q (F0 m pc ls rest) q
theorem xSwL_off {pc : Nat} {d : Int} {x : Int32} : ∀ {ps : List (Int × Int)} {sw : List (Int32 × Nat)} {a : Nat}, (pc : Int) + d = (a : Int) → xSwL pc ps sw = true → ∃ t : Nat, (pc : Int) + Op.lookupswitch.offset ps d x.toInt = (t : Int) ∧ ∀ {α : Type} (j : Nat → α), xSw j a x sw = j t
  | [], [], a, ha, _ => ⟨a, ha, fun _ => rfl⟩
  | [], _ :: _, _, _, h => by cases h
  | _ :: _, [], _, _, h => by cases h
  | (u, o) :: ps, (v, t) :: sw, a, ha, h => by
    simp only [xSwL, Bool.and_eq_true, decide_eq_true_eq] at h
    obtain ⟨h1, h2, h3⟩ := h
    by_cases hx : x = v
    · refine ⟨t, ?_, fun j => by unfold xSw; rw [if_pos hx]⟩
      rw [Op.lookupswitch.offset_cons, if_pos (by rw [hx, h1])]
      exact h2
    · obtain ⟨t', g1, g2⟩ := xSwL_off (x := x) ha h3
      refine ⟨t', ?_, fun j => by unfold xSw; rw [if_neg hx]; exact g2 j⟩
      rw [lv_osw hx h1]
      exact g1
theorem xSwT_in {pc : Nat} {x : Int32} : ∀ {lo : Int} {os : List Int} {sw : List (Int32 × Nat)} {a : Nat}, xSwT pc lo os sw = true →
    ((x.toInt < lo ∨ lo + os.length ≤ x.toInt) ∧ ∀ {α : Type} (j : Nat → α), xSw j a x sw = j a) ∨ ∃ (o : Int) (t : Nat), ¬ x.toInt < lo ∧ os[(x.toInt - lo).toNat]? = some o ∧ (pc : Int) + o = (t : Int) ∧ ∀ {α : Type} (j : Nat → α), xSw j a x sw = j t
  | lo, [], [], a, _ => Or.inl ⟨(Int.lt_or_le x.toInt lo).imp id (fun h => by simpa using h), fun _ => rfl⟩
  | _, [], _ :: _, _, h => by cases h
  | _, _ :: _, [], _, h => by cases h
  | lo, o :: os, (v, t) :: sw, a, h => by
    simp only [xSwT, Bool.and_eq_true, decide_eq_true_eq] at h
    obtain ⟨h1, h2, h3⟩ := h
    by_cases hx : x = v
    · refine Or.inr ⟨o, t, by rw [hx, h1]; omega, ?_, h2, fun j => by unfold xSw; rw [if_pos hx]⟩
      rw [hx, h1, Int.sub_self]
      rfl
    · have hne : x.toInt ≠ lo := fun q => hx (Int32.toInt_inj.mp (by rw [h1]; exact q))
      rcases xSwT_in (x := x) (a := a) h3 with ⟨g1, g2⟩ | ⟨o', t', g0, g1, g2, g3⟩
      · refine Or.inl ⟨?_, fun j => by unfold xSw; rw [if_neg hx]; exact g2 j⟩
        simp only [List.length_cons]
        rcases g1 with g1 | g1
        · exact Or.inl (by omega)
        · exact Or.inr (by omega)
      · refine Or.inr ⟨o', t', by omega, ?_, g2, fun j => by unfold xSw; rw [if_neg hx]; exact g3 j⟩
        have e1 : (x.toInt - lo).toNat = (x.toInt - (lo + 1)).toNat + 1 := by omega
        rw [e1, List.getElem?_cons_succ]
        exact g1
theorem xfk_ty {c f : Nat} (hc : c < 8) (hk : f < xNN c) : xYY c f = (match xfk c f with | 0 => .int | 1 => .boolean | 2 => .long | _ => xYY c f) := by
  match c, hc with
  | 0, _ => match f, hk with
    | 0, _ => rfl
    | 1, _ => rfl
  | 1, _ => match f, hk with
    | 0, _ => rfl
    | 1, _ => rfl
    | 2, _ => rfl
  | 2, _ => match f, hk with
    | 0, _ => rfl
    | 1, _ => rfl
    | 2, _ => rfl
    | 3, _ => rfl
    | 4, _ => rfl
    | 5, _ => rfl
  | 3, _ => match f, hk with
    | 0, _ => rfl
    | 1, _ => rfl
    | 2, _ => rfl
    | 3, _ => rfl
    | 4, _ => rfl
    | 5, _ => rfl
    | 6, _ => rfl
    | 7, _ => rfl
    | 8, _ => rfl
    | 9, _ => rfl
    | 10, _ => rfl
    | 11, _ => rfl
  | 4, _ => match f, hk with
    | 0, _ => rfl
    | 1, _ => rfl
    | 2, _ => rfl
    | 3, _ => rfl
    | 4, _ => rfl
    | 5, _ => rfl
    | 6, _ => rfl
    | 7, _ => rfl
    | 8, _ => rfl
    | 9, _ => rfl
    | 10, _ => rfl
    | 11, _ => rfl
    | 12, _ => rfl
    | 13, _ => rfl
    | 14, _ => rfl
    | 15, _ => rfl
    | f + 16, h => exact absurd (show f + 16 < 16 from h) (by omega)
  | 5, _ => exact absurd hk (Nat.not_lt_zero _)
  | 6, _ => match f, hk with
    | 0, _ => rfl
    | 1, _ => rfl
    | 2, _ => rfl
    | 3, _ => rfl
  | 7, _ => exact absurd hk (Nat.not_lt_zero _)
theorem xRP_int {G : XG} {σ : XH} {H H1 : Heap} (hA : xAP G) (hR : xRP G σ H) {c j f : Nat} {x : Int32} (hc : c < 8) (hj : j < xcnt c) (hf : xfk c f = 0 ∨ xfk c f = 1) (oq : ∀ q : Nat, q ≠ xad G c j → H1[q]? = H[q]?)
    (hB : t_OB (xad G c j) ((xD G).1 c) (xNN c) ((xD G).2 c) H1 (updV (fun i => xcv G (xfg σ c j i)) f (.int x))) : xRP G (xuI σ c j f x) H1 := by
  refine xRP_upd hA hR (c := c) (j := j) (by omega) hj oq (fun c' j' q h => ?_) rfl rfl (fun _ => t_OB.to hB fun i _ => ?_) (fun h => by omega)
  · unfold xuI
    dsimp only
    split
    · split
      · split
        · exact absurd ⟨by assumption, by assumption⟩ h
        · rfl
      · rfl
    · rfl
  · unfold updV
    by_cases hi : i = f
    · subst hi
      rw [if_pos rfl]
      unfold xfg
      rcases hf with hf | hf <;> rw [hf] <;> simp [xuI, xcv]
    · rw [if_neg hi]
      unfold xfg xuI
      simp only [if_neg hi]
theorem xOB_word {G : XG} {σ : XH} {w : Option Nat} {H1 : Heap} (hB : t_OB (xad G 2 0) ((xD G).1 2) (xNN 2) ((xD G).2 2) H1 (updV (fun i => xcv G (xfg σ 2 0 i)) 5 (xcv G (.inr (.inr (w.map fun i => (12, i))))))) :
    t_OB (xad G 2 0) ((xD G).1 2) (xNN 2) ((xD G).2 2) H1 (fun k => xcv G (xfg (σ.1, σ.2.1, w) 2 0 k)) := by
  refine t_OB.to hB fun i hi => ?_
  unfold updV
  have hi : i < 6 := hi
  match i, hi with
  | 0, _ => rfl
  | 1, _ => rfl
  | 2, _ => rfl
  | 3, _ => rfl
  | 4, _ => rfl
  | 5, _ => cases w <;> rfl
theorem xj0 {G : XG} {k j0 : Nat} {ty : FieldType} {n : Nat} {fn : Nat → Value} {A : Nat → Prop} {U : State} {H : Heap} (h : j0 < 1) (hT : va_T ty (xad G k 0) n fn A U H) : va_T ty (xad G k j0) n fn A U H := by
  obtain rfl : j0 = 0 := by omega
  exact hT
theorem xj0X {G : XG} {k j0 L : Nat} {xs : Nat → Int32} {U : State} {H : Heap} (h : j0 < 1) (hT : va_X (xad G k 0) L xs U H) : va_X (xad G k j0) L xs U H := by
  obtain rfl : j0 = 0 := by omega
  exact hT
theorem xj0A {G : XG} {k j0 : Nat} (h : j0 < 1) (hT : ¬ xA G (xad G k 0)) : ¬ xA G (xad G k j0) := by
  obtain rfl : j0 = 0 := by omega
  exact hT
theorem xlt_X {b L : Nat} {xs : Nat → Int32} {U : State} {H : Heap} (h : va_X b L xs U H) : b < H.size := by
  obtain ⟨scr, hs, -⟩ := h
  exact (Array.getElem?_eq_some_iff.mp hs).1
theorem xin_vp {i : Int32} {n : Nat} (h0 : 0 ≤ i) (h1 : i.toNatClampNeg < n) : vp_in i n := fun q => by
  rcases q with q | q
  · exact absurd h0 (Int32.not_le.mpr q)
  · omega
section XLEN
variable {p : Program} {l : Launch} {e : Env} {R : Room} {s : State} {m : MethodId} {args : Array Value} {below : List Frame} {meth : Method} {c : Code} {H : Heap} {locs : List Loc} {cells slots : Nat} {Q : State → Prop}
variable {cc : ByteArray} {pc : Nat} {ls : Array Slot} {rest : List Value} {G : XG} {X : Nat × (Nat → Int32)} {own : String} {nL : Nat} {σ : XH}
theorem xr_len (C0 : xCtx G X p s m args meth c cc own nL) (hR : xRP G σ H) {k j : Nat} (hc : k = 8) (hj : j < xcnt k) {v : Int32} (hv : Int32.ofNat (xlen k j) = v) (hdg : decode cc pc = .ok (.arraylength, 1))
    (kk : W p l e R s m args below meth c H locs cells slots Q (F0 m (pc + 1) ls (.int v :: rest))) : W p l e R s m args below meth c H locs cells slots Q (F0 m pc ls (.ref (xad G k j) :: rest)) := by
  obtain ⟨hx, hb, hown, hml, hlocks, ⟨hK, -, -⟩, hts, hST, hA⟩ := C0
  subst hv
  exact W.alen (n := Int32.ofNat (xlen k j)) hx hb (hR.2.1 k j (Or.inl hc) hj (fun h => by omega)) ((hK.2 0 _ rfl).1 (xlen k j) (fun q => .int (σ.1 k j q))) (by rw [vp_cell_i, arrV_size] <;> rfl) rfl rfl hdg kk
end XLEN
section XCS2
variable {p : Program} {l : Launch} {e : Env} {R : Room} {s : State} {m : MethodId} {args : Array Value} {below : List Frame} {meth : Method} {c : Code} {Q : State → Prop}
variable {cc : ByteArray} {G : XG} {X : Nat × (Nat → Int32)} {own : String} {nL lev κ : Nat} {cl : XC} {hd : Nat → Nat → Option (Option (Nat × Nat))}
variable {k : XL → List XV → XH → Nat → Option XO} {j : Nat → XL → List XV → XH → Nat → Option XO} {out : XO}
theorem xCall_sound (C0 : xCtx G X p s m args meth c cc own nL) (hRf : lev ≤ R.frames) (hRl : 37 * lev ≤ R.locals) (hRc : κ ≤ R.cells) (hRs : 6 * κ ≤ R.slots)
    (hcl : ∀ a n κ' f, cl a = some (n, κ', f) → xCS l X own lev a n κ' f) (hno : ∀ pc E, hd pc E = some none → ∀ x ∈ c.exceptionTable.toList, covers x pc = false)
    (hcat : ∀ pc E t i, hd pc E = some (some (t, i)) → ∀ (H : Heap) (locs : List Loc) (ls : Array Slot) (cells slots : Nat) (lv : XL) (q : Addr) (ce : Cell) (rest : List Value) (Q : State → Prop), lv_has ls nL (xcl G lv) → H[q]? = some ce → ce.vm = .none → s.vm.findClass (xXN E) = some ce.cls →
      (∀ ls', lv_has ls' nL (xcl G (lv.filter (xk1 i))) → W p l e R s m args below meth c H locs cells slots Q (F0 m t ls' [])) → vx_W p l e R s m args below meth c H locs cells slots Q (F0 m pc ls rest) q)
    {pc a : Nat} (hdg : decode cc pc = .ok (xCI a, 3))
    (hk : ∀ lv st σ b, k lv st σ b = some out → xGo G p l e R s m args below meth c κ nL Q (pc + 3) lv st σ b)
    (hj : ∀ t lv st σ b, j t lv st σ b = some out → xGo G p l e R s m args below meth c κ nL Q t lv st σ b)
    (hout : ∀ r σ', out = .inl (r, σ') → Q = xFin G below args s κ σ' r)
    {lv : XL} {st : List XV} {σ : XH} {b : Nat} (h : xCall cl hd k j pc a lv st σ b = some out) : xGo G p l e R s m args below meth c κ nL Q pc lv st σ b := by
  obtain ⟨hx, hb, hown, hml, hlocks, hWK, hts, hST, hA⟩ := id C0
  intro hl hs H locs ls cells slots hR hS hls hc1 hc2
  unfold xCall at h
  split at h
  case h_1 => cases h
  case h_2 n κ' f hcla =>
  split at h
  case h_2 => cases h
  case h_1 g1 g2 g3 =>
  have g1 := Nat.le_of_ble_eq_true g1
  have g2 := Nat.le_of_ble_eq_true g2
  have g3 := Nat.le_of_ble_eq_true g3
  have hstk : ((st.take n).reverse).reverse ++ st.drop n = st := by rw [List.reverse_reverse, List.take_append_drop]
  have hsT : xsok (st.take n).reverse := fun v hv => hs v (List.mem_of_mem_take (List.mem_reverse.mp hv))
  have hsD : xsok (st.drop n) := fun v hv => hs v (List.mem_of_mem_drop hv)
  have hlenT : (st.take n).reverse.length = n := by rw [List.length_reverse, List.length_take]; omega
  split at h
  case h_1 => cases h
  case h_2 σ1 hf =>
    have hrun := hcl a n κ' f hcla (below := below) (e := e) (cells := cells) (slots := slots) (rest := st.drop n) C0 hR hS hRf hRl (by omega) (by omega) hls.1 hlenT hsT g2 hf hdg
    rw [hstk] at hrun
    exact xr_call hrun hS (fun _ H1 locs1 hR1 hS1 => hk _ _ _ _ h hl hsD H1 locs1 ls _ _ hR1 hS1 hls (by omega) (by omega)) (fun v hv => by cases hv) (fun E hE => by cases hE)
  case h_3 v σ1 hf =>
    have hrun := hcl a n κ' f hcla (below := below) (e := e) (cells := cells) (slots := slots) (rest := st.drop n) C0 hR hS hRf hRl (by omega) (by omega) hls.1 hlenT hsT g2 hf hdg
    rw [hstk] at hrun
    exact xr_call hrun hS (fun hv => by cases hv) (fun w hw hok H1 locs1 hR1 hS1 => by cases hw; exact hk _ _ _ _ h hl (xsok_c hok hsD) H1 locs1 ls _ _ hR1 hS1 hls (by omega) (by omega)) (fun E hE => by cases hE)
  case h_4 E σ1 hf =>
    have hrun := hcl a n κ' f hcla (below := below) (e := e) (cells := cells) (slots := slots) (rest := st.drop n) C0 hR hS hRf hRl (by omega) (by omega) hls.1 hlenT hsT g2 hf hdg
    rw [hstk] at hrun
    refine xr_call hrun hS (fun hv => by cases hv) (fun v hv => by cases hv) (fun E' hE q ce H1 locs1 hR1 hS1 q1 q2 q3 => ?_)
    cases hE
    split at h
    case h_1 => cases h
    case h_2 hhd =>
      cases h
      rw [hout _ _ rfl]
      exact vx_widen (k := κ) (n := 6 * κ) (by omega) (by omega) (vx_out (hno pc E hhd) hlocks q1 q2 q3 (fun t ht hal => ⟨⟨E, rfl, rfl⟩, by rw [ht]; exact hR1, hS1.F ht⟩) hS1.2.2 (Nat.le_refl _) (Nat.le_refl _))
    case h_3 t i hhd =>
      exact hcat pc E t i hhd H1 locs1 ls _ _ lv q ce _ Q hls q1 q2 q3 (fun ls' hls' => hj _ _ _ _ _ h (xlok_f hl _) (fun v hv => by cases hv) H1 locs1 ls' _ _ hR1 hS1 hls' (by omega) (by omega))
end XCS2
theorem xnn (z : Int32) (hz : 0 ≤ z) : z.toInt = (z.toNatClampNeg : Int) := by
  have h := Int32.le_iff_toInt_le.mp hz
  have h0 : (0 : Int32).toInt = 0 := rfl
  show z.toInt = ((z.toInt.toNat : Nat) : Int)
  omega
section XAC
variable {p : Program} {l : Launch} {e : Env} {R : Room} {s : State} {m : MethodId} {args : Array Value} {below : List Frame} {meth : Method} {c : Code} {H : Heap} {locs : List Loc} {cells slots : Nat} {Q : State → Prop}
variable {cc : ByteArray} {pc : Nat} {ls : Array Slot} {rest : List Value} {G : XG} {X : Nat × (Nat → Int32)} {own : String} {nL : Nat} {σ : XH}
/-- System.arraycopy between books' rows, by the library's arraycopy -/
theorem xr_acopy (C0 : xCtx G X p s m args meth c cc own nL) (hR : xRP G σ H) (hS0 : va_S (xA G) s.heap H locs) {i j0 j1 : Nat} (hj0 : j0 < 6) (hj1 : j1 < 6) {sp dp n : Int32} (h1 : 0 ≤ sp) (h2 : 0 ≤ dp) (h3 : 0 ≤ n) (h4 : sp.toNatClampNeg + n.toNatClampNeg ≤ 60) (h5 : dp.toNatClampNeg + n.toNatClampNeg ≤ 60)
    (hw1 : Jvm.Cond.methodLink own i arraycopyName ∈ xW) (hw2 : Jvm.Cond.native arraycopyName ∈ xW) (hw3 : Jvm.Cond.static arraycopyName ∈ xW) (hw4 : Jvm.Cond.initialized "java/lang/System" ∈ xW) (hls : ls.size = nL) (hf : 1 ≤ R.frames) (hlo : (rest.map fun v => v.category).sum + (nativeFrameWords "java/lang/System" "arraycopy" 5 + 11) ≤ R.locals) (hdg : decode cc pc = .ok (.invokestatic i, 3))
    (kk : ∀ (H1 : Heap) (locs1 : List Loc), xRP G (xCpy σ j0 j1 sp.toNatClampNeg dp.toNatClampNeg n.toNatClampNeg) H1 → va_S (xA G) s.heap H1 locs1 → W p l e R s m args below meth c H1 locs1 cells slots Q (F0 m (pc + 3) ls rest)) : W p l e R s m args below meth c H locs cells slots Q (F0 m pc ls (.int n :: .int dp :: .ref (xad G 8 j1) :: .int sp :: .ref (xad G 8 j0) :: rest)) := by
  obtain ⟨hx, hb, hown, hml, hlocks, ⟨hK, -⟩, hts, hST, hA⟩ := C0
  intro T hT X9
  have hc0 : H[xad G 8 j0]? = some (vp_cell (xcI G) (60, .inl (fun q => σ.1 8 j0 q))) := hR.2.1 8 j0 (Or.inl rfl) hj0 (fun h => by omega)
  have hc1 : H[xad G 8 j1]? = some (vp_cell (xcI G) (60, .inl (fun q => σ.1 8 j1 q))) := hR.2.1 8 j1 (Or.inl rfl) hj1 (fun h => by omega)
  obtain ⟨-, k0, hk0, cm0, hkk0⟩ := (hK.2 0 _ rfl).1 60 (fun q => .int (σ.1 8 j0 q))
  obtain ⟨-, k1, hk1, cm1, hkk1⟩ := (hK.2 0 _ rfl).1 60 (fun q => .int (σ.1 8 j1 q))
  obtain ⟨vm', X', step⟩ := X9.arraycopy hx hown (hts _ hw1) (hts _ hw2) (hts _ hw3) (hts _ hw4) (src := xad G 8 j0) (dst := xad G 8 j1) (cs := vp_cell (xcI G) (60, .inl (fun q => σ.1 8 j0 q))) (cd := vp_cell (xcI G) (60, .inl (fun q => σ.1 8 j1 q))) (srcPos := sp) (destPos := dp) (n := n) (by rw [hT]; exact hc0) (by rw [hT]; exact hc1)
    (fun _ h => by cases h) (fun _ h => by cases h) (fun h => by cases h) (fun h => by cases h) hk0 hk1 hkk0 hkk1 (by simp [refKind]) (Int32.not_lt.mpr h1) (Int32.not_lt.mpr h2) (Int32.not_lt.mpr h3)
    (by rw [xnn sp h1, xnn n h3]; show ¬ _ > ((arrV (xcI G) 60 (fun q => .int (σ.1 8 j0 q))).slots.size : Int); rw [arrV_size]; omega)
    (by rw [xnn dp h2, xnn n h3]; show ¬ _ > ((arrV (xcI G) 60 (fun q => .int (σ.1 8 j1 q))).slots.size : Int); rw [arrV_size]; omega)
    (fun vm₁ _ i hi => by
      have e9 : (vp_cell (xcI G) (60, .inl (fun q => σ.1 8 j0 q))).slots.getD (sp.toNatClampNeg + i) .null = .int (σ.1 8 j0 (sp.toNatClampNeg + i)) := by
        show (arrV (xcI G) 60 (fun q => .int (σ.1 8 j0 q))).slots.getD _ _ = _
        rw [Array.getD_eq_getD_getElem?, arrV_read _ _ (by omega)]
        rfl
      rw [e9]
      exact ⟨rfl, trivial⟩)
    (g := F0 m pc ls (.int n :: .int dp :: .ref (xad G 8 j1) :: .int sp :: .ref (xad G 8 j0) :: rest)) rfl (by show ls.size = _; rw [hls, hml]) (rest := rest) rfl (by rw [hb]; exact hdg) hf (by show 2 * 0 + _ + _ ≤ _; omega)
  rw [show copied (vp_cell (xcI G) (60, .inl (fun q => σ.1 8 j0 q))) (vp_cell (xcI G) (60, .inl (fun q => σ.1 8 j1 q))) sp dp n = vp_cell (xcI G) (60, .inl (va_cpy (fun q => σ.1 8 j0 q) (fun q => σ.1 8 j1 q) sp.toNatClampNeg dp.toNatClampNeg n.toNatClampNeg)) from va_copied (fun z => .int z) (xcI G) (xcI G) _ _ h4] at X' step
  have hl : xad G 8 j1 < H.size := (Array.getElem?_eq_some_iff.mp hc1).1
  have hAd : xlo G ≤ xad G 8 j1 := hA.2 8 j1 (by decide) hj1
  have oq : ∀ q : Nat, q ≠ xad G 8 j1 → (H.setIfInBounds (xad G 8 j1) (vp_cell (xcI G) (60, .inl (va_cpy (fun q => σ.1 8 j0 q) (fun q => σ.1 8 j1 q) sp.toNatClampNeg dp.toNatClampNeg n.toNatClampNeg))))[q]? = H[q]? := fun q hq => by simp [Array.getElem?_setIfInBounds, Ne.symm hq]
  have hR1 : xRP G (xCpy σ j0 j1 sp.toNatClampNeg dp.toNatClampNeg n.toNatClampNeg) (H.setIfInBounds (xad G 8 j1) (vp_cell (xcI G) (60, .inl (va_cpy (fun q => σ.1 8 j0 q) (fun q => σ.1 8 j1 q) sp.toNatClampNeg dp.toNatClampNeg n.toNatClampNeg)))) := by
    refine xRP_upd hA hR (c := 8) (j := j1) (by decide) hj1 oq (fun c' j' q h => ?_) rfl rfl (fun h => by omega) (fun _ => ?_)
    · unfold xCpy
      dsimp only
      split
      · split
        · exact absurd ⟨by assumption, by assumption⟩ h
        · rfl
      · rfl
    · have : (fun q => (xCpy σ j0 j1 sp.toNatClampNeg dp.toNatClampNeg n.toNatClampNeg).1 8 j1 q) = va_cpy (fun q => σ.1 8 j0 q) (fun q => σ.1 8 j1 q) sp.toNatClampNeg dp.toNatClampNeg n.toNatClampNeg := by
        funext q
        simp [xCpy]
      rw [this]
      simp [Array.getElem?_setIfInBounds, hl]
      rfl
  obtain ⟨t, a1, b1⟩ := kk _ _ hR1 ⟨by simp; exact hS0.1, fun q g1 g2 => by
      rw [oq q (fun e => g2 (by rw [e]; exact hAd))]
      exact hS0.2.1 q g1 g2, fun q hq => by
      rcases List.mem_append.mp hq with h | h
      · exact hS0.2.2 q h
      · obtain ⟨z, -, hz⟩ := List.mem_map.mp h
        rw [← hz]
        exact hAd⟩ _ (by rw [← hT]; rfl) X'
  exact ⟨t, step t a1, b1⟩
end XAC
