section XSTEP
variable {p : Program} {l : Launch} {e : Env} {R : Room} {s : State} {m : MethodId} {args : Array Value} {below : List Frame} {meth : Method} {c : Code} {Q : State → Prop}
variable {cc : ByteArray} {G : XG} {X : Nat × (Nat → Int32)} {own : String} {nL lev κ : Nat} {WL : List Jvm.Cond} {cl : XC} {hd : Nat → Nat → Option (Option (Nat × Nat))} {rt : Nat}
variable {k : XL → List XV → XH → Nat → Option XO} {j : Nat → XL → List XV → XH → Nat → Option XO} {out : XO}
set_option maxHeartbeats 4000000 in
set_option maxRecDepth 100000 in
theorem xOp_sound (F : xFix G X p l e R s m args below meth c cc own nL lev κ WL cl hd rt) (hlv : 1 ≤ lev) (en : XE) (hrow : xRowOK own cc WL en = true)
    (hnew : (∃ i, en.2.1 = .new i) → ∀ (σ : XH) (H : Heap) (locs : List Loc) (ls : Array Slot) (cells slots : Nat), xRP G σ H → va_S (xA G) s.heap H locs → ls.size = nL → cells + 1 ≤ κ → slots + 6 ≤ 6 * κ → W p l e R s m args below meth c H locs cells slots (xFin G below args s κ σ (.inr en.2.2.2.1)) (F0 m en.1 ls []))
    (hst : ∀ i, (en.2.1 = .istore i ∨ en.2.1 = .astore i ∨ (∃ z, en.2.1 = .iinc i z) ∨ ∃ q : Fin 4, (q : Nat) = i ∧ (en.2.1 = .istore_n q ∨ en.2.1 = .astore_n q)) → i < nL) (hst2 : ∀ i, (en.2.1 = .lstore i ∨ ∃ q : Fin 4, (q : Nat) = i ∧ en.2.1 = .lstore_n q) → i + 1 < nL)
    (hk : ∀ lv st σ b, k lv st σ b = some out → xGo G p l e R s m args below meth c κ nL Q (en.1 + en.2.2.1) lv st σ b)
    (hj : ∀ t lv st σ b, j t lv st σ b = some out → xGo G p l e R s m args below meth c κ nL Q t lv st σ b)
    (hout : ∀ r σ', out = .inl (r, σ') → Q = xFin G below args s κ σ' r)
    {lv : XL} {st : List XV} {σ : XH} {b : Nat} (h : xOp X cl hd rt k j en lv st σ b = some out) : xGo G p l e R s m args below meth c κ nL Q en.1 lv st σ b := by
  obtain ⟨C0, ⟨hRf, hRl, hRc, hRs⟩, hWL, hrt, hcl, hno, hcat⟩ := F
  obtain ⟨hx, hb, hown, hml, hlocks, hWK, hts, hST, hA⟩ := id C0
  obtain ⟨pc, i, len, a, f, sw⟩ := en
  simp only [xRowOK, Bool.and_eq_true, decide_eq_true_eq] at hrow
  obtain ⟨hdg, hlen, hrest⟩ := hrow
  dsimp only at hnew hst hst2 hk hj
  intro hl hs H locs ls cells slots hR hS hls hc1 hc2
  cases i <;> (first | (cases (show (none : Option XO) = some out from h); done) | skip)
  case iload_n q =>
    obtain rfl : len = 1 := hlen.resolve_left (fun q => by cases q)
    replace h : xkI k lv st σ b q.val = some out := h
    unfold xkI at h
    split at h
    case h_1 x hg => exact lv_iload_n hx hb hdg rfl (xlg_at hls hg) (hk _ _ _ _ h hl (xsok_c trivial hs) H locs ls cells slots hR hS hls hc1 hc2)
    case h_2 => cases h
  case iload q =>
    obtain rfl : len = 2 := hlen.resolve_left (fun q => by cases q)
    replace h : xkI k lv st σ b q = some out := h
    unfold xkI at h
    split at h
    case h_1 x hg => exact lv_iload hx hb hdg (xlg_at hls hg) (hk _ _ _ _ h hl (xsok_c trivial hs) H locs ls cells slots hR hS hls hc1 hc2)
    case h_2 => cases h
  case lload_n q =>
    obtain rfl : len = 1 := hlen.resolve_left (fun q => by cases q)
    replace h : xkL k lv st σ b q.val = some out := h
    unfold xkL at h
    split at h
    case h_1 x hg => exact lv_lload_n hx hb hdg rfl (xlg_at hls hg) (hk _ _ _ _ h hl (xsok_c trivial hs) H locs ls cells slots hR hS hls hc1 hc2)
    case h_2 => cases h
  case lload q =>
    obtain rfl : len = 2 := hlen.resolve_left (fun q => by cases q)
    replace h : xkL k lv st σ b q = some out := h
    unfold xkL at h
    split at h
    case h_1 x hg => exact lv_lload hx hb hdg (xlg_at hls hg) (hk _ _ _ _ h hl (xsok_c trivial hs) H locs ls cells slots hR hS hls hc1 hc2)
    case h_2 => cases h
  case aload_n q =>
    obtain rfl : len = 1 := hlen.resolve_left (fun q => by cases q)
    replace h : xkA k lv st σ b q.val = some out := h
    unfold xkA at h
    split at h
    case h_1 x hg =>
      have hok := xlok_g hl hg
      rcases x with _ | x
      · exact lv_aload_nN hx hb hdg rfl (xlg_at hls hg) (hk _ _ _ _ h hl (xsok_c hok hs) H locs ls cells slots hR hS hls hc1 hc2)
      · exact lv_aload_n hx hb hdg rfl (xlg_at hls hg) (hk _ _ _ _ h hl (xsok_c hok hs) H locs ls cells slots hR hS hls hc1 hc2)
    case h_2 => cases h
  case aload q =>
    obtain rfl : len = 2 := hlen.resolve_left (fun q => by cases q)
    replace h : xkA k lv st σ b q = some out := h
    unfold xkA at h
    split at h
    case h_1 x hg =>
      have hok := xlok_g hl hg
      rcases x with _ | x
      · exact lv_aloadN hx hb hdg (xlg_at hls hg) (hk _ _ _ _ h hl (xsok_c hok hs) H locs ls cells slots hR hS hls hc1 hc2)
      · exact lv_aload hx hb hdg (xlg_at hls hg) (hk _ _ _ _ h hl (xsok_c hok hs) H locs ls cells slots hR hS hls hc1 hc2)
    case h_2 => cases h
  case istore_n q =>
    obtain rfl : len = 1 := hlen.resolve_left (fun q => by cases q)
    replace h : xsI k lv st σ b q.val = some out := h
    unfold xsI at h
    split at h
    case h_1 x r =>
      refine lv_istore_n (lv' := xcl G ((q.val, .inl x) :: lv.filter (xk1 q.val))) hx hb hdg rfl hls (hst q.val (Or.inr (Or.inr (Or.inr ⟨q, rfl, Or.inl rfl⟩)))) (by rw [xcl_f1]; rfl) (fun ls' hls' => ?_)
      exact hk _ _ _ _ h (xlok_c (xlok_f hl _) trivial) (xsok_t hs) H locs ls' cells slots hR hS hls' hc1 hc2
    case h_2 => cases h
  case istore q =>
    obtain rfl : len = 2 := hlen.resolve_left (fun q => by cases q)
    replace h : xsI k lv st σ b q = some out := h
    unfold xsI at h
    split at h
    case h_1 x r =>
      refine lv_istore (lv' := xcl G ((q, .inl x) :: lv.filter (xk1 q))) hx hb hdg hls (hst q (Or.inl rfl)) (by rw [xcl_f1]; rfl) (fun ls' hls' => ?_)
      exact hk _ _ _ _ h (xlok_c (xlok_f hl _) trivial) (xsok_t hs) H locs ls' cells slots hR hS hls' hc1 hc2
    case h_2 => cases h
  case lstore_n q =>
    obtain rfl : len = 1 := hlen.resolve_left (fun q => by cases q)
    replace h : xsL k lv st σ b q.val = some out := h
    unfold xsL at h
    split at h
    case h_1 x r =>
      refine lv_lstore_n (lv' := xcl G ((q.val, .inr (.inl x)) :: lv.filter (xk2 q.val))) hx hb hdg rfl hls (hst2 q.val (Or.inr ⟨q, rfl, rfl⟩)) (by rw [xcl_f2]; rfl) (fun ls' hls' => ?_)
      exact hk _ _ _ _ h (xlok_c (xlok_f hl _) trivial) (xsok_t hs) H locs ls' cells slots hR hS hls' hc1 hc2
    case h_2 => cases h
  case lstore q =>
    obtain rfl : len = 2 := hlen.resolve_left (fun q => by cases q)
    replace h : xsL k lv st σ b q = some out := h
    unfold xsL at h
    split at h
    case h_1 x r =>
      refine lv_lstore (lv' := xcl G ((q, .inr (.inl x)) :: lv.filter (xk2 q))) hx hb hdg hls (hst2 q (Or.inl rfl)) (by rw [xcl_f2]; rfl) (fun ls' hls' => ?_)
      exact hk _ _ _ _ h (xlok_c (xlok_f hl _) trivial) (xsok_t hs) H locs ls' cells slots hR hS hls' hc1 hc2
    case h_2 => cases h
  case astore_n q =>
    obtain rfl : len = 1 := hlen.resolve_left (fun q => by cases q)
    replace h : xsA k lv st σ b q.val = some out := h
    unfold xsA at h
    split at h
    case h_1 x r =>
      have hok := xsok_h hs
      rcases x with _ | x
      · refine lv_astore_nN (lv' := xcl G ((q.val, .inr (.inr none)) :: lv.filter (xk1 q.val))) hx hb hdg rfl hls (hst q.val (Or.inr (Or.inr (Or.inr ⟨q, rfl, Or.inr rfl⟩)))) (by rw [xcl_f1]; rfl) (fun ls' hls' => ?_)
        exact hk _ _ _ _ h (xlok_c (xlok_f hl _) hok) (xsok_t hs) H locs ls' cells slots hR hS hls' hc1 hc2
      · refine lv_astore_n (lv' := xcl G ((q.val, .inr (.inr (some x))) :: lv.filter (xk1 q.val))) hx hb hdg rfl hls (hst q.val (Or.inr (Or.inr (Or.inr ⟨q, rfl, Or.inr rfl⟩)))) (by rw [xcl_f1]; rfl) (fun ls' hls' => ?_)
        exact hk _ _ _ _ h (xlok_c (xlok_f hl _) hok) (xsok_t hs) H locs ls' cells slots hR hS hls' hc1 hc2
    case h_2 => cases h
  case astore q =>
    obtain rfl : len = 2 := hlen.resolve_left (fun q => by cases q)
    replace h : xsA k lv st σ b q = some out := h
    unfold xsA at h
    split at h
    case h_1 x r =>
      have hok := xsok_h hs
      rcases x with _ | x
      · refine lv_astoreN (lv' := xcl G ((q, .inr (.inr none)) :: lv.filter (xk1 q))) hx hb hdg hls (hst q (Or.inr (Or.inl rfl))) (by rw [xcl_f1]; rfl) (fun ls' hls' => ?_)
        exact hk _ _ _ _ h (xlok_c (xlok_f hl _) hok) (xsok_t hs) H locs ls' cells slots hR hS hls' hc1 hc2
      · refine lv_astore (lv' := xcl G ((q, .inr (.inr (some x))) :: lv.filter (xk1 q))) hx hb hdg hls (hst q (Or.inr (Or.inl rfl))) (by rw [xcl_f1]; rfl) (fun ls' hls' => ?_)
        exact hk _ _ _ _ h (xlok_c (xlok_f hl _) hok) (xsok_t hs) H locs ls' cells slots hR hS hls' hc1 hc2
    case h_2 => cases h
  case iinc q z =>
    obtain rfl : len = 3 := hlen.resolve_left (fun q => by cases q)
    replace h : (match xlg lv q with | some (.inl x) => k (xl1 q (.inl (x + Int32.ofInt z)) lv) st σ b | _ => none) = some out := h
    split at h
    case h_1 x hg =>
      obtain ⟨n, hn⟩ := List.getElem?_of_mem (List.mem_map.mpr ⟨(q, .inl x), xlg_mem hg, rfl⟩ : (q, xcv G (.inl x)) ∈ xcl G lv)
      refine lv_iinc (v := x + Int32.ofInt z) (lv' := xcl G ((q, .inl (x + Int32.ofInt z)) :: lv.filter (xk1 q))) hx hb hdg hls (k := n) hn rfl (hst q (Or.inr (Or.inr (Or.inl ⟨z, rfl⟩)))) (by rw [xcl_f1]; rfl) (fun ls' hls' => ?_)
      exact hk _ _ _ _ h (xlok_c (xlok_f hl _) trivial) hs H locs ls' cells slots hR hS hls' hc1 hc2
    case h_2 => cases h
  case iconst n =>
    obtain rfl : len = 1 := hlen.resolve_left (fun q => by cases q)
    exact lv_iconst hx hb hdg rfl (hk _ _ _ _ h hl (xsok_c trivial hs) H locs ls cells slots hR hS hls hc1 hc2)
  case bipush n =>
    obtain rfl : len = 2 := hlen.resolve_left (fun q => by cases q)
    exact lv_bipush hx hb hdg (of_decide_eq_true hrest) (hk _ _ _ _ h hl (xsok_c trivial hs) H locs ls cells slots hR hS hls hc1 hc2)
  case sipush n =>
    obtain rfl : len = 3 := hlen.resolve_left (fun q => by cases q)
    exact lv_sipush hx hb hdg (of_decide_eq_true hrest) (hk _ _ _ _ h hl (xsok_c trivial hs) H locs ls cells slots hR hS hls hc1 hc2)
  case lconst n =>
    obtain rfl : len = 1 := hlen.resolve_left (fun q => by cases q)
    exact lv_lconst hx hb hdg rfl (hk _ _ _ _ h hl (xsok_c trivial hs) H locs ls cells slots hR hS hls hc1 hc2)
  case ldc n =>
    obtain rfl : len = 2 := hlen.resolve_left (fun q => by cases q)
    rcases sw with _ | ⟨⟨v, w⟩, r⟩
    · cases h
    · exact lv_ldc hx hb hown (hts _ (hWL _ (of_decide_eq_true hrest))) hdg (hk _ _ _ _ h hl (xsok_c trivial hs) H locs ls cells slots hR hS hls hc1 hc2)
  case ldc2_w n =>
    obtain rfl : len = 3 := hlen.resolve_left (fun q => by cases q)
    exact lv_ldc2 hx hb hown (hts _ (hWL _ (of_decide_eq_true hrest))) hdg (hk _ _ _ _ h hl (xsok_c trivial hs) H locs ls cells slots hR hS hls hc1 hc2)
  case aconst_null =>
    obtain rfl : len = 1 := hlen.resolve_left (fun q => by cases q)
    exact lv_null hx hb hdg (hk _ _ _ _ h hl (xsok_c trivial hs) H locs ls cells slots hR hS hls hc1 hc2)
  case dup =>
    obtain rfl : len = 1 := hlen.resolve_left (fun q => by cases q)
    rcases st with _ | ⟨x | x | x, r⟩
    · cases h
    · exact lv_dup hx hb hdg rfl (hk _ _ _ _ h hl (xsok_c trivial hs) H locs ls cells slots hR hS hls hc1 hc2)
    · cases h
    · exact lv_dup hx hb hdg (xcv_cat G (.inr (.inr x))) (hk _ _ _ _ h hl (xsok_c (xsok_h hs) hs) H locs ls cells slots hR hS hls hc1 hc2)
  case dup2 =>
    obtain rfl : len = 1 := hlen.resolve_left (fun q => by cases q)
    rcases st with _ | ⟨x | x | x, _ | ⟨y | y | y, r⟩⟩ <;> (try (cases h; done))
    exact lv_dup2_11 hx hb hdg rfl (xcv_cat G (.inr (.inr y))) (hk _ _ _ _ h hl (xsok_c trivial (xsok_c (xsok_h (xsok_t hs)) hs)) H locs ls cells slots hR hS hls hc1 hc2)
  case pop =>
    obtain rfl : len = 1 := hlen.resolve_left (fun q => by cases q)
    rcases st with _ | ⟨x | x | x, r⟩
    · cases h
    · exact lv_pop hx hb hdg rfl (hk _ _ _ _ h hl (xsok_t hs) H locs ls cells slots hR hS hls hc1 hc2)
    · cases h
    · exact lv_pop hx hb hdg (xcv_cat G (.inr (.inr x))) (hk _ _ _ _ h hl (xsok_t hs) H locs ls cells slots hR hS hls hc1 hc2)
  case iadd =>
    obtain rfl : len = 1 := hlen.resolve_left (fun q => by cases q)
    rcases st with _ | ⟨x | x | x, _ | ⟨y | y | y, r⟩⟩ <;> (try (cases h; done))
    exact lv_iadd hx hb hdg (hk _ _ _ _ h hl (xsok_c trivial (xsok_t (xsok_t hs))) H locs ls cells slots hR hS hls hc1 hc2)
  case isub =>
    obtain rfl : len = 1 := hlen.resolve_left (fun q => by cases q)
    rcases st with _ | ⟨x | x | x, _ | ⟨y | y | y, r⟩⟩ <;> (try (cases h; done))
    exact lv_isub hx hb hdg (hk _ _ _ _ h hl (xsok_c trivial (xsok_t (xsok_t hs))) H locs ls cells slots hR hS hls hc1 hc2)
  case imul =>
    obtain rfl : len = 1 := hlen.resolve_left (fun q => by cases q)
    rcases st with _ | ⟨x | x | x, _ | ⟨y | y | y, r⟩⟩ <;> (try (cases h; done))
    exact lv_imul hx hb hdg (hk _ _ _ _ h hl (xsok_c trivial (xsok_t (xsok_t hs))) H locs ls cells slots hR hS hls hc1 hc2)
  case iand =>
    obtain rfl : len = 1 := hlen.resolve_left (fun q => by cases q)
    rcases st with _ | ⟨x | x | x, _ | ⟨y | y | y, r⟩⟩ <;> (try (cases h; done))
    exact lv_iand hx hb hdg (hk _ _ _ _ h hl (xsok_c trivial (xsok_t (xsok_t hs))) H locs ls cells slots hR hS hls hc1 hc2)
  case ixor =>
    obtain rfl : len = 1 := hlen.resolve_left (fun q => by cases q)
    rcases st with _ | ⟨x | x | x, _ | ⟨y | y | y, r⟩⟩ <;> (try (cases h; done))
    exact lv_ixor hx hb hdg (hk _ _ _ _ h hl (xsok_c trivial (xsok_t (xsok_t hs))) H locs ls cells slots hR hS hls hc1 hc2)
  case ishr =>
    obtain rfl : len = 1 := hlen.resolve_left (fun q => by cases q)
    rcases st with _ | ⟨x | x | x, _ | ⟨y | y | y, r⟩⟩ <;> (try (cases h; done))
    exact lv_ishr hx hb hdg (hk _ _ _ _ h hl (xsok_c trivial (xsok_t (xsok_t hs))) H locs ls cells slots hR hS hls hc1 hc2)
  case idiv =>
    obtain rfl : len = 1 := hlen.resolve_left (fun q => by cases q)
    rcases st with _ | ⟨x | x | x, _ | ⟨y | y | y, r⟩⟩ <;> (try (cases h; done))
    by_cases h0 : x = 0
    · exact absurd (show (if x = 0 then none else _) = some out from h) (by rw [if_pos h0]; exact fun q => by cases q)
    · have h9 := (show (if x = 0 then none else _) = some out from h)
      rw [if_neg h0] at h9
      exact lv_idiv hx hb hdg h0 (hk _ _ _ _ h9 hl (xsok_c trivial (xsok_t (xsok_t hs))) H locs ls cells slots hR hS hls hc1 hc2)
  case irem =>
    obtain rfl : len = 1 := hlen.resolve_left (fun q => by cases q)
    rcases st with _ | ⟨x | x | x, _ | ⟨y | y | y, r⟩⟩ <;> (try (cases h; done))
    by_cases h0 : x = 0
    · exact absurd (show (if x = 0 then none else _) = some out from h) (by rw [if_pos h0]; exact fun q => by cases q)
    · have h9 := (show (if x = 0 then none else _) = some out from h)
      rw [if_neg h0] at h9
      exact lv_irem hx hb hdg h0 (hk _ _ _ _ h9 hl (xsok_c trivial (xsok_t (xsok_t hs))) H locs ls cells slots hR hS hls hc1 hc2)
  case ineg =>
    obtain rfl : len = 1 := hlen.resolve_left (fun q => by cases q)
    rcases st with _ | ⟨x | x | x, r⟩ <;> (try (cases h; done))
    exact lv_ineg hx hb hdg (hk _ _ _ _ h hl (xsok_c trivial (xsok_t hs)) H locs ls cells slots hR hS hls hc1 hc2)
  case ladd =>
    obtain rfl : len = 1 := hlen.resolve_left (fun q => by cases q)
    rcases st with _ | ⟨x | x | x, _ | ⟨y | y | y, r⟩⟩ <;> (try (cases h; done))
    exact lv_ladd hx hb hdg (hk _ _ _ _ h hl (xsok_c trivial (xsok_t (xsok_t hs))) H locs ls cells slots hR hS hls hc1 hc2)
  case lmul =>
    obtain rfl : len = 1 := hlen.resolve_left (fun q => by cases q)
    rcases st with _ | ⟨x | x | x, _ | ⟨y | y | y, r⟩⟩ <;> (try (cases h; done))
    exact lv_lmul hx hb hdg (hk _ _ _ _ h hl (xsok_c trivial (xsok_t (xsok_t hs))) H locs ls cells slots hR hS hls hc1 hc2)
  case lor =>
    obtain rfl : len = 1 := hlen.resolve_left (fun q => by cases q)
    rcases st with _ | ⟨x | x | x, _ | ⟨y | y | y, r⟩⟩ <;> (try (cases h; done))
    exact lv_lor hx hb hdg (hk _ _ _ _ h hl (xsok_c trivial (xsok_t (xsok_t hs))) H locs ls cells slots hR hS hls hc1 hc2)
  case lshl =>
    obtain rfl : len = 1 := hlen.resolve_left (fun q => by cases q)
    rcases st with _ | ⟨x | x | x, _ | ⟨y | y | y, r⟩⟩ <;> (try (cases h; done))
    exact lv_lshl hx hb hdg rfl (hk _ _ _ _ h hl (xsok_c trivial (xsok_t (xsok_t hs))) H locs ls cells slots hR hS hls hc1 hc2)
  case i2l =>
    obtain rfl : len = 1 := hlen.resolve_left (fun q => by cases q)
    rcases st with _ | ⟨x | x | x, r⟩ <;> (try (cases h; done))
    exact lv_i2l hx hb hdg rfl (hk _ _ _ _ h hl (xsok_c trivial (xsok_t hs)) H locs ls cells slots hR hS hls hc1 hc2)
  case lcmp =>
    obtain rfl : len = 1 := hlen.resolve_left (fun q => by cases q)
    rcases st with _ | ⟨x | x | x, _ | ⟨y | y | y, r⟩⟩ <;> (try (cases h; done))
    exact W.lcmp hx hb hdg (hk _ _ _ _ h hl (xsok_c trivial (xsok_t (xsok_t hs))) H locs ls cells slots hR hS hls hc1 hc2)
  case if_icmp cn off =>
    obtain rfl : len = 3 := hlen.resolve_left (fun q => by cases q)
    have ht := of_decide_eq_true hrest
    rcases st with _ | ⟨x | x | x, _ | ⟨y | y | y, r⟩⟩ <;> (try (cases h; done))
    cases cn
    case eq =>
      have h8 : (if y = x then j a lv r σ b else k lv r σ b) = some out := h
      by_cases hc : y = x
      · rw [if_pos hc] at h8
        have h9 := h8
        exact lv_icmp_eq hx hb hdg ht (fun q => hj _ _ _ _ _ h9 hl (xsok_t (xsok_t hs)) H locs ls cells slots hR hS hls hc1 hc2) (fun q => absurd hc q)
      · rw [if_neg hc] at h8
        have h9 := h8
        exact lv_icmp_eq hx hb hdg ht (fun q => absurd q hc) (fun q => hk _ _ _ _ h9 hl (xsok_t (xsok_t hs)) H locs ls cells slots hR hS hls hc1 hc2)
    case ne =>
      have h8 : (if y = x then k lv r σ b else j a lv r σ b) = some out := h
      by_cases hc : y = x
      · rw [if_pos hc] at h8
        have h9 := h8
        exact lv_icmp_ne hx hb hdg ht (fun q => absurd hc q) (fun q => hk _ _ _ _ h9 hl (xsok_t (xsok_t hs)) H locs ls cells slots hR hS hls hc1 hc2)
      · rw [if_neg hc] at h8
        have h9 := h8
        exact lv_icmp_ne hx hb hdg ht (fun q => hj _ _ _ _ _ h9 hl (xsok_t (xsok_t hs)) H locs ls cells slots hR hS hls hc1 hc2) (fun q => absurd q hc)
    case lt =>
      have h8 : (if y < x then j a lv r σ b else k lv r σ b) = some out := h
      by_cases hc : y < x
      · rw [if_pos hc] at h8
        have h9 := h8
        exact lv_icmp_lt hx hb hdg ht (fun q => hj _ _ _ _ _ h9 hl (xsok_t (xsok_t hs)) H locs ls cells slots hR hS hls hc1 hc2) (fun q => absurd hc q)
      · rw [if_neg hc] at h8
        have h9 := h8
        exact lv_icmp_lt hx hb hdg ht (fun q => absurd q hc) (fun q => hk _ _ _ _ h9 hl (xsok_t (xsok_t hs)) H locs ls cells slots hR hS hls hc1 hc2)
    case ge =>
      have h8 : (if x ≤ y then j a lv r σ b else k lv r σ b) = some out := h
      by_cases hc : x ≤ y
      · rw [if_pos hc] at h8
        have h9 := h8
        exact lv_icmp_ge hx hb hdg ht (fun q => hj _ _ _ _ _ h9 hl (xsok_t (xsok_t hs)) H locs ls cells slots hR hS hls hc1 hc2) (fun q => absurd hc q)
      · rw [if_neg hc] at h8
        have h9 := h8
        exact lv_icmp_ge hx hb hdg ht (fun q => absurd q hc) (fun q => hk _ _ _ _ h9 hl (xsok_t (xsok_t hs)) H locs ls cells slots hR hS hls hc1 hc2)
    case gt =>
      have h8 : (if x < y then j a lv r σ b else k lv r σ b) = some out := h
      by_cases hc : x < y
      · rw [if_pos hc] at h8
        have h9 := h8
        exact lv_icmp_gt hx hb hdg ht (fun q => hj _ _ _ _ _ h9 hl (xsok_t (xsok_t hs)) H locs ls cells slots hR hS hls hc1 hc2) (fun q => absurd hc q)
      · rw [if_neg hc] at h8
        have h9 := h8
        exact lv_icmp_gt hx hb hdg ht (fun q => absurd q hc) (fun q => hk _ _ _ _ h9 hl (xsok_t (xsok_t hs)) H locs ls cells slots hR hS hls hc1 hc2)
    case le =>
      have h8 : (if y ≤ x then j a lv r σ b else k lv r σ b) = some out := h
      by_cases hc : y ≤ x
      · rw [if_pos hc] at h8
        have h9 := h8
        exact lv_icmp_le hx hb hdg ht (fun q => hj _ _ _ _ _ h9 hl (xsok_t (xsok_t hs)) H locs ls cells slots hR hS hls hc1 hc2) (fun q => absurd hc q)
      · rw [if_neg hc] at h8
        have h9 := h8
        exact lv_icmp_le hx hb hdg ht (fun q => absurd q hc) (fun q => hk _ _ _ _ h9 hl (xsok_t (xsok_t hs)) H locs ls cells slots hR hS hls hc1 hc2)
  case ifCond cn off =>
    obtain rfl : len = 3 := hlen.resolve_left (fun q => by cases q)
    have ht := of_decide_eq_true hrest
    rcases st with _ | ⟨x | x | x, r⟩ <;> (try (cases h; done))
    cases cn
    case eq =>
      have h8 : (if x = 0 then j a lv r σ b else k lv r σ b) = some out := h
      by_cases hc : x = 0
      · rw [if_pos hc] at h8
        have h9 := h8
        exact lv_if_eq hx hb hdg ht (fun q => hj _ _ _ _ _ h9 hl (xsok_t hs) H locs ls cells slots hR hS hls hc1 hc2) (fun q => absurd hc q)
      · rw [if_neg hc] at h8
        have h9 := h8
        exact lv_if_eq hx hb hdg ht (fun q => absurd q hc) (fun q => hk _ _ _ _ h9 hl (xsok_t hs) H locs ls cells slots hR hS hls hc1 hc2)
    case ne =>
      have h8 : (if x = 0 then k lv r σ b else j a lv r σ b) = some out := h
      by_cases hc : x = 0
      · rw [if_pos hc] at h8
        have h9 := h8
        exact lv_if_ne hx hb hdg ht (fun q => absurd hc q) (fun q => hk _ _ _ _ h9 hl (xsok_t hs) H locs ls cells slots hR hS hls hc1 hc2)
      · rw [if_neg hc] at h8
        have h9 := h8
        exact lv_if_ne hx hb hdg ht (fun q => hj _ _ _ _ _ h9 hl (xsok_t hs) H locs ls cells slots hR hS hls hc1 hc2) (fun q => absurd q hc)
    case lt =>
      have h8 : (if x < 0 then j a lv r σ b else k lv r σ b) = some out := h
      by_cases hc : x < 0
      · rw [if_pos hc] at h8
        have h9 := h8
        exact lv_if_lt hx hb hdg ht (fun q => hj _ _ _ _ _ h9 hl (xsok_t hs) H locs ls cells slots hR hS hls hc1 hc2) (fun q => absurd hc q)
      · rw [if_neg hc] at h8
        have h9 := h8
        exact lv_if_lt hx hb hdg ht (fun q => absurd q hc) (fun q => hk _ _ _ _ h9 hl (xsok_t hs) H locs ls cells slots hR hS hls hc1 hc2)
    case ge =>
      have h8 : (if 0 ≤ x then j a lv r σ b else k lv r σ b) = some out := h
      by_cases hc : 0 ≤ x
      · rw [if_pos hc] at h8
        have h9 := h8
        exact lv_if_ge hx hb hdg ht (fun q => hj _ _ _ _ _ h9 hl (xsok_t hs) H locs ls cells slots hR hS hls hc1 hc2) (fun q => absurd hc q)
      · rw [if_neg hc] at h8
        have h9 := h8
        exact lv_if_ge hx hb hdg ht (fun q => absurd q hc) (fun q => hk _ _ _ _ h9 hl (xsok_t hs) H locs ls cells slots hR hS hls hc1 hc2)
    case gt =>
      have h8 : (if 0 < x then j a lv r σ b else k lv r σ b) = some out := h
      by_cases hc : 0 < x
      · rw [if_pos hc] at h8
        have h9 := h8
        exact lv_if_gt hx hb hdg ht (fun q => hj _ _ _ _ _ h9 hl (xsok_t hs) H locs ls cells slots hR hS hls hc1 hc2) (fun q => absurd hc q)
      · rw [if_neg hc] at h8
        have h9 := h8
        exact lv_if_gt hx hb hdg ht (fun q => absurd q hc) (fun q => hk _ _ _ _ h9 hl (xsok_t hs) H locs ls cells slots hR hS hls hc1 hc2)
    case le =>
      have h8 : (if x ≤ 0 then j a lv r σ b else k lv r σ b) = some out := h
      by_cases hc : x ≤ 0
      · rw [if_pos hc] at h8
        have h9 := h8
        exact lv_if_le hx hb hdg ht (fun q => hj _ _ _ _ _ h9 hl (xsok_t hs) H locs ls cells slots hR hS hls hc1 hc2) (fun q => absurd hc q)
      · rw [if_neg hc] at h8
        have h9 := h8
        exact lv_if_le hx hb hdg ht (fun q => absurd q hc) (fun q => hk _ _ _ _ h9 hl (xsok_t hs) H locs ls cells slots hR hS hls hc1 hc2)
  case goto off =>
    obtain rfl : len = 3 := hlen.resolve_left (fun q => by cases q)
    exact lv_goto hx hb hdg (of_decide_eq_true hrest) (hj _ _ _ _ _ h hl hs H locs ls cells slots hR hS hls hc1 hc2)
  case ifnull off =>
    obtain rfl : len = 3 := hlen.resolve_left (fun q => by cases q)
    rcases st with _ | ⟨x | x | _ | x, r⟩ <;> (try (cases h; done))
    · exact lv_ifnullN hx hb hdg (of_decide_eq_true hrest) (hj _ _ _ _ _ h hl (xsok_t hs) H locs ls cells slots hR hS hls hc1 hc2)
    · exact lv_ifnull hx hb hdg (hk _ _ _ _ h hl (xsok_t hs) H locs ls cells slots hR hS hls hc1 hc2)
  case ifnonnull off =>
    obtain rfl : len = 3 := hlen.resolve_left (fun q => by cases q)
    rcases st with _ | ⟨x | x | _ | x, r⟩ <;> (try (cases h; done))
    · exact lv_ifnonnullN hx hb hdg (hk _ _ _ _ h hl (xsok_t hs) H locs ls cells slots hR hS hls hc1 hc2)
    · exact lv_ifnonnull hx hb hdg (of_decide_eq_true hrest) (hj _ _ _ _ _ h hl (xsok_t hs) H locs ls cells slots hR hS hls hc1 hc2)
  case tableswitch d lo hi os =>
    rcases st with _ | ⟨x | x | x, r⟩ <;> (try (cases h; done))
    simp only [Bool.and_eq_true, decide_eq_true_eq] at hrest
    obtain ⟨t1, t2, t3⟩ := hrest
    have h9 : xSw (fun t => j t lv r σ b) a x sw = some out := h
    rcases xSwT_in (x := x) (a := a) t3 with ⟨g1, g2⟩ | ⟨o', t', g0, g1, g2, g3⟩
    · rw [g2] at h9
      exact lv_tableOut hx hb hdg (g1.imp id (fun q => by omega)) t1 (hj _ _ _ _ _ h9 hl (xsok_t hs) H locs ls cells slots hR hS hls hc1 hc2)
    · rw [g3] at h9
      have hlt : (x.toInt - lo).toNat < os.toList.length := (List.getElem?_eq_some_iff.mp g1).1
      exact lv_tableIn hx hb hdg g0 (by omega) (by rw [← Array.getElem?_toList]; exact g1) g2 (hj _ _ _ _ _ h9 hl (xsok_t hs) H locs ls cells slots hR hS hls hc1 hc2)
  case lookupswitch d ps =>
    rcases st with _ | ⟨x | x | x, r⟩ <;> (try (cases h; done))
    simp only [Bool.and_eq_true, decide_eq_true_eq] at hrest
    obtain ⟨t1, t2, t3⟩ := hrest
    have h9 : xSw (fun t => j t lv r σ b) a x sw = some out := h
    obtain ⟨t', g1, g2⟩ := xSwL_off (x := x) t1 t3
    rw [g2] at h9
    exact lv_lookup hx hb hdg t2 rfl g1 (hj _ _ _ _ _ h9 hl (xsok_t hs) H locs ls cells slots hR hS hls hc1 hc2)
  case ireturn =>
    obtain rfl : len = 1 := hlen.resolve_left (fun q => by cases q)
    replace h : xRet rt lv st σ = some out := h
    unfold xRet at h
    split at h
    case h_1 x =>
      cases h
      rw [hout _ _ rfl]
      exact W.widen (k := κ) (n := 6 * κ) (by omega) (by omega) (vx_ret (W.iret hx hb hrt (fun t ht hW => ⟨⟨some (.inl x), rfl, rfl, fun w hw => by cases hw; trivial⟩, by rw [ht]; exact hR, hS.F ht⟩) hS.2.2 hdg))
    case h_2 x =>
      split at h
      case isTrue h01 =>
        cases h
        rw [hout _ _ rfl]
        exact W.widen (k := κ) (n := 6 * κ) (by omega) (by omega) (vx_ret (W.zret hx hb hrt (by rcases h01 with h01 | h01 <;> subst h01 <;> rfl) (fun t ht hW => ⟨⟨some (.inl x), rfl, rfl, fun w hw => by cases hw; trivial⟩, by rw [ht]; exact hR, hS.F ht⟩) hS.2.2 hdg))
      case isFalse => cases h
    case h_3 => cases h
  case lreturn =>
    obtain rfl : len = 1 := hlen.resolve_left (fun q => by cases q)
    have h9 : xRetL rt st σ = some out := h
    unfold xRetL at h9
    split at h9
    case h_1 x =>
      cases h9
      rw [hout _ _ rfl]
      exact W.widen (k := κ) (n := 6 * κ) (by omega) (by omega) (vx_ret (W.lret hx hb hrt (fun t ht hW => ⟨⟨some (.inr (.inl x)), rfl, rfl, fun w hw => by cases hw; trivial⟩, by rw [ht]; exact hR, hS.F ht⟩) hS.2.2 hdg))
    case h_2 => cases h9
  case areturn =>
    obtain rfl : len = 1 := hlen.resolve_left (fun q => by cases q)
    have h9 : xRetA rt st σ = some out := h
    unfold xRetA at h9
    split at h9
    case h_1 x =>
      cases h9
      rw [hout _ _ rfl]
      obtain ⟨n9, hrt⟩ := hrt
      exact W.widen (k := κ) (n := 6 * κ) (by omega) (by omega) (vx_ret (W.aret (v := xcv G (.inr (.inr x))) hx hb hrt (Or.inl ⟨_, rfl⟩) (by rcases x with _ | x <;> first | exact Or.inl rfl | exact Or.inr ⟨_, rfl⟩) (fun t ht hW => ⟨⟨some (.inr (.inr x)), rfl, rfl, fun w hw => by cases hw; exact xsok_h hs⟩, by rw [ht]; exact hR, hS.F ht⟩) hS.2.2 hdg))
    case h_2 => cases h9
  case return_ =>
    obtain rfl : len = 1 := hlen.resolve_left (fun q => by cases q)
    have h9 : xRetV rt st σ = some out := h
    unfold xRetV at h9
    split at h9
    case h_1 =>
      cases h9
      rw [hout _ _ rfl]
      exact W.widen (k := κ) (n := 6 * κ) (by omega) (by omega) (vx_ret (W.vret hx hb hrt (fun t ht hW => ⟨⟨none, rfl, rfl, fun w hw => by cases hw⟩, by rw [ht]; exact hR, hS.F ht⟩) hS.2.2 hdg))
    case h_2 => cases h9
  case new n =>
    replace h : xNew a st σ b = some out := h
    unfold xNew at h
    split at h
    case h_1 b =>
      cases h
      rw [hout _ _ rfl]
      exact hnew ⟨n, rfl⟩ σ H locs ls cells slots hR hS hls.1 (by omega) (by omega)
    case h_2 => cases h
  case getfield n =>
    obtain rfl : len = 3 := hlen.resolve_left (fun q => by cases q)
    have hrest := of_decide_eq_true hrest
    rcases st with _ | ⟨x | x | _ | ⟨k0, j0⟩, r⟩ <;> (try (cases h; done))
    replace h : xgF k a f lv (.inr (.inr (some (k0, j0))) :: r) σ b = some out := h
    unfold xgF at h
    dsimp only at h
    split at h
    case h_2 => cases h
    case h_1 hkc =>
      have hkc := Nat.eq_of_beq_eq_true hkc
      subst hkc
      have hj0 : j0 < xcnt k0 := xsok_h hs
      obtain ⟨r1, r2, r3⟩ := hrest
      split at h
      case h_1 h12 => exact absurd (Nat.eq_of_beq_eq_true h12) (by omega)
      case h_2 => exact xr_get C0 hR r1 hj0 r2 (hWL _ r3) hdg (hk _ _ _ _ h hl (xsok_c (xfg_ok hR.2.2.2.2 r1 hj0) (xsok_t hs)) H locs ls cells slots hR hS hls hc1 hc2)
  case putfield n =>
    obtain rfl : len = 3 := hlen.resolve_left (fun q => by cases q)
    have hrest := of_decide_eq_true hrest
    obtain ⟨r1, r2, r4, r3⟩ := hrest
    rcases st with _ | ⟨v, _ | ⟨x | x | _ | ⟨k0, j0⟩, r⟩⟩ <;> (try (cases h; done))
    replace h : xpF k a f lv (v :: .inr (.inr (some (k0, j0))) :: r) σ b = some out := h
    unfold xpF at h
    dsimp only at h
    split at h
    case h_2 => cases h
    case h_1 hkc =>
      have hkc := Nat.eq_of_beq_eq_true hkc
      subst hkc
      have hj0 : j0 < xcnt k0 := xsok_h (xsok_t hs)
      have hty := xfk_ty r1 r2
      split at h
      case h_1 x hfk =>
        rw [hfk] at hty
        refine xr_putRaw C0 hR hS r1 hj0 r2 (hWL _ r3) r4 (v := .int x) (by rw [hty]; rfl) (by rw [hty]; rfl) hdg fun H1 locs1 hB oq hS1 => ?_
        exact hk _ _ _ _ h hl (xsok_t (xsok_t hs)) H1 locs1 ls cells slots (xRP_int hA hR r1 hj0 (Or.inl hfk) oq hB) hS1 hls hc1 hc2
      case h_2 x hfk =>
        rw [hfk] at hty
        split at h
        case isFalse => cases h
        case isTrue h01 =>
          refine xr_putRaw C0 hR hS r1 hj0 r2 (hWL _ r3) r4 (v := .int x) (by rw [hty]; rcases h01 with h01 | h01 <;> subst h01 <;> rfl) (by rw [hty]; rcases h01 with h01 | h01 <;> subst h01 <;> rfl) hdg fun H1 locs1 hB oq hS1 => ?_
          exact hk _ _ _ _ h hl (xsok_t (xsok_t hs)) H1 locs1 ls cells slots (xRP_int hA hR r1 hj0 (Or.inr hfk) oq hB) hS1 hls hc1 hc2
      case h_3 hfk =>
        split at h
        case h_2 => cases h
        case h_1 h2 h5 =>
          have h2 := Nat.eq_of_beq_eq_true h2
          have h5 := Nat.eq_of_beq_eq_true h5
          subst h2
          subst h5
          have hj1 : j0 < 1 := hj0
          obtain rfl : j0 = 0 := by omega
          refine xr_putRaw C0 hR hS r1 hj0 r2 (hWL _ r3) r4 (v := .null) rfl rfl hdg fun H1 locs1 hB oq hS1 => ?_
          exact hk _ _ _ _ h hl (xsok_t (xsok_t hs)) H1 locs1 ls cells slots (xRP_word hA hR (fun i hi => by cases hi) oq (xOB_word hB)) hS1 hls hc1 hc2
      case h_4 w hfk =>
        split at h
        case h_2 => cases h
        case h_1 h2 h5 h12 =>
          have h2 := Nat.eq_of_beq_eq_true h2
          have h5 := Nat.eq_of_beq_eq_true h5
          have h12 := Nat.eq_of_beq_eq_true h12
          obtain ⟨w0, w1⟩ := w
          subst h2
          subst h5
          subst h12
          have hj1 : j0 < 1 := hj0
          obtain rfl : j0 = 0 := by omega
          refine xr_putRaw C0 hR hS r1 hj0 r2 (hWL _ r3) r4 (v := .ref (xad G 12 w1)) rfl rfl hdg fun H1 locs1 hB oq hS1 => ?_
          exact hk _ _ _ _ h hl (xsok_t (xsok_t hs)) H1 locs1 ls cells slots (xRP_word hA hR (fun i hi => by cases hi; exact xsok_h hs) oq (xOB_word (w := some w1) hB)) hS1 hls hc1 hc2
      case h_5 => cases h
  case iaload =>
    obtain rfl : len = 1 := hlen.resolve_left (fun q => by cases q)
    rcases st with _ | ⟨x | x | x, _ | ⟨y | y | _ | ⟨k0, j0⟩, r⟩⟩ <;> (try (cases h; done))
    replace h : xgA X k lv (.inl x :: .inr (.inr (some (k0, j0))) :: r) σ b = some out := h
    unfold xgA at h
    dsimp only at h
    have hj0 : j0 < xcnt k0 := xsok_h (xsok_t hs)
    obtain ⟨-, ⟨hscr, hscrA⟩, -, -⟩ := hST
    split at h
    case h_1 =>
      split at h
      case isFalse => cases h
      case isTrue hb0 => exact xr_iald C0 hR (Or.inl rfl) hj0 (fun q => by cases q) hb0.1 hb0.2 hdg (hk _ _ _ _ h hl (xsok_c trivial (xsok_t (xsok_t hs))) H locs ls cells slots hR hS hls hc1 hc2)
    case h_2 =>
      split at h
      case isFalse => cases h
      case isTrue hb0 => exact xr_iald C0 hR (Or.inr rfl) hj0 (fun _ => (xbd_ok hb0.2).1) hb0.1 (xbd_ok hb0.2).2 hdg (hk _ _ _ _ h hl (xsok_c trivial (xsok_t (xsok_t hs))) H locs ls cells slots hR hS hls hc1 hc2)
    case h_3 =>
      split at h
      case isFalse => cases h
      case isTrue hb0 => exact va_sld hx hb (xj0X hj0 hscr) (xlt_X (xj0X hj0 hscr)) (xj0A hj0 hscrA) hS (xin_vp hb0.1 hb0.2) hdg (hk _ _ _ _ h hl (xsok_c trivial (xsok_t (xsok_t hs))) H locs ls cells slots hR hS hls hc1 hc2)
    case h_4 => cases h
  case iastore =>
    obtain rfl : len = 1 := hlen.resolve_left (fun q => by cases q)
    rcases st with _ | ⟨z | z | z, _ | ⟨x | x | x, _ | ⟨y | y | _ | ⟨k0, j0⟩, r⟩⟩⟩ <;> (try (cases h; done))
    replace h : xpA k lv (.inl z :: .inl x :: .inr (.inr (some (k0, j0))) :: r) σ b = some out := h
    unfold xpA at h
    dsimp only at h
    have hj0 : j0 < xcnt k0 := xsok_h (xsok_t (xsok_t hs))
    split at h
    case h_1 =>
      split at h
      case isFalse => cases h
      case isTrue hb0 => exact xr_iast C0 hR hS (Or.inl rfl) hj0 (fun q => by cases q) hb0.1 hb0.2 hdg fun H1 locs1 hR1 hS1 => hk _ _ _ _ h hl (xsok_t (xsok_t (xsok_t hs))) H1 locs1 ls cells slots hR1 hS1 hls hc1 hc2
    case h_2 =>
      split at h
      case isFalse => cases h
      case isTrue hb0 => exact xr_iast C0 hR hS (Or.inr rfl) hj0 (fun _ => (xbd_ok hb0.2).1) hb0.1 (xbd_ok hb0.2).2 hdg fun H1 locs1 hR1 hS1 => hk _ _ _ _ h hl (xsok_t (xsok_t (xsok_t hs))) H1 locs1 ls cells slots hR1 hS1 hls hc1 hc2
    case h_3 => cases h
  case aaload =>
    obtain rfl : len = 1 := hlen.resolve_left (fun q => by cases q)
    rcases st with _ | ⟨x | x | x, _ | ⟨y | y | _ | ⟨k0, j0⟩, r⟩⟩ <;> (try (cases h; done))
    replace h : xgRA k lv (.inl x :: .inr (.inr (some (k0, j0))) :: r) σ b = some out := h
    unfold xgRA at h
    dsimp only at h
    have hj0 : j0 < xcnt k0 := xsok_h (xsok_t hs)
    split at h
    case h_2 => cases h
    case h_1 =>
      split at h
      case isFalse => cases h
      case isTrue hb0 =>
        have hj1 : j0 < 1 := hj0
        obtain rfl : j0 = 0 := by omega
        exact xr_states C0 hR hb0.1 hb0.2 hdg (hk _ _ _ _ h hl (xsok_c (show 2 + x.toNatClampNeg < 6 by omega) (xsok_t (xsok_t hs))) H locs ls cells slots hR hS hls hc1 hc2)
  case arraylength =>
    obtain rfl : len = 1 := hlen.resolve_left (fun q => by cases q)
    rcases st with _ | ⟨x | x | _ | ⟨k0, j0⟩, r⟩ <;> (try (cases h; done))
    replace h : xgLen X k lv (.inr (.inr (some (k0, j0))) :: r) σ b = some out := h
    unfold xgLen at h
    dsimp only at h
    have hj0 : j0 < xcnt k0 := xsok_h hs
    obtain ⟨-, ⟨hscr, hscrA⟩, -, -⟩ := hST
    split at h
    case h_1 => exact xr_len C0 hR rfl hj0 rfl hdg (hk _ _ _ _ h hl (xsok_c trivial (xsok_t hs)) H locs ls cells slots hR hS hls hc1 hc2)
    case h_2 =>
      have hj1 : j0 < 1 := hj0
      obtain rfl : j0 = 0 := by omega
      exact va_slen hx hb hscr (xlt_X hscr) hscrA hS hdg (hk _ _ _ _ h hl (xsok_c trivial (xsok_t hs)) H locs ls cells slots hR hS hls hc1 hc2)
    case h_3 => cases h
  case invokevirtual n =>
    obtain rfl : len = 3 := hlen.resolve_left (fun q => by cases q)
    have hrest := of_decide_eq_true hrest
    replace h : xCall cl hd k j pc a lv st σ b = some out := h
    exact xCall_sound C0 hRf hRl hRc hRs hcl hno hcat (by rw [hrest, xCI_V]; exact hdg) hk hj hout h hl hs H locs ls cells slots hR hS hls hc1 hc2
  case invokestatic n =>
    obtain rfl : len = 3 := hlen.resolve_left (fun q => by cases q)
    simp only [Bool.and_eq_true, decide_eq_true_eq] at hrest
    obtain ⟨hra, hrb⟩ := hrest
    rcases f with _ | f
    · replace h : xCall cl hd k j pc a lv st σ b = some out := h
      exact xCall_sound C0 hRf hRl hRc hRs hcl hno hcat (by rw [hra, xCI_S]; exact hdg) hk hj hout h hl hs H locs ls cells slots hR hS hls hc1 hc2
    · obtain ⟨w1, w2, w3, w4⟩ := hrb.resolve_left (by omega)
      replace h : xAC k lv st σ b = some out := h
      unfold xAC at h
      split at h
      case h_2 => cases h
      case h_1 n9 dp q1 sp q0 r =>
        obtain ⟨c0, j0⟩ := q0
        obtain ⟨c1, j1⟩ := q1
        dsimp only at h
        split at h
        case h_2 => cases h
        case h_1 =>
          split at h
          case isFalse => cases h
          case isTrue hb0 =>
            obtain ⟨⟨b1, b2, b3⟩, b4, b5, b6⟩ := hb0
            have hj1 : j1 < 6 := xsok_h (xsok_t (xsok_t hs))
            have hj0 : j0 < 6 := xsok_h (xsok_t (xsok_t (xsok_t (xsok_t hs))))
            exact xr_acopy C0 hR hS hj0 hj1 b1 b2 b3 b4 b5 (hWL _ w1) (hWL _ w2) (hWL _ w3) (hWL _ w4) hls.1 (by omega) (by rw [xws_cat]; exact Nat.le_trans (Nat.add_le_add_right b6 _) (Nat.le_trans (show 8 + (nativeFrameWords "java/lang/System" "arraycopy" 5 + 11) ≤ 37 by decide +kernel) (by omega))) hdg fun H1 locs1 hR1 hS1 => hk _ _ _ _ h hl (xsok_t (xsok_t (xsok_t (xsok_t (xsok_t hs))))) H1 locs1 ls cells slots hR1 hS1 hls hc1 hc2
end XSTEP
