/-! ===== 'throw new E("text")' in the class ===== -/
abbrev xNms : List String := ["java/lang/RuntimeException", "java/lang/Exception"]
theorem xThr_S {l : Launch} (hl : l.stackTraces = false) {G : XG} {X : Nat × (Nat → Int32)} {p : Program} {e : Env} {R : Room} {s : State} {m : MethodId} {args : Array Value} {below : List Frame} {meth : Method} {c : Code} {cc : ByteArray} {nL κ lev : Nat}
    (C0 : xCtx G X p s m args meth c cc RX7 nL) (hlev : 6 ≤ lev) (hRf : lev ≤ R.frames) (hRl : 37 * lev ≤ R.locals) (hRc : κ ≤ R.cells) (hRs : 6 * κ ≤ R.slots) (ht : ∀ x ∈ c.exceptionTable.toList, False) {pc ik is ic E : Nat} {text : String}
    (hcls : Bundle.fit (xXN E) = true) (hk : Jvm.Cond.classLink RX7 ik (xXN E) ∈ xW) (hini : Jvm.Cond.initialized (xXN E) ∈ xW) (hstr : (is, text) ∈ xTx) (hat1 : ∀ w ∈ (vx_atS RX7 ic (xXN E) xNms).filter goodWord, w ∈ lw_tbl) (hat2 : ∀ w ∈ (vx_atS RX7 ic (xXN E) xNms).filter (fun w => !goodWord w), w ∈ xTW)
    (hgood : ∀ w ∈ Jvm.Cond.classLink RX7 ik (xXN E) :: Jvm.Cond.initialized (xXN E) :: vx_atS RX7 ic (xXN E) xNms, vx_ot w = true)
    (d0 : decode cc pc = .ok (.new ik, 3)) (d3 : decode cc (pc + 3) = .ok (.dup, 1)) (d4 : decode cc (pc + 4) = .ok (.ldc is, 2)) (d6 : decode cc (pc + 6) = .ok (.invokespecial ic, 3)) (d9 : decode cc (pc + 9) = .ok (.athrow, 1)) :
    ∀ (σ : XH) (H : Heap) (locs : List Loc) (ls : Array Slot) (cells slots : Nat), xRP G σ H → va_S (xA G) s.heap H locs → ls.size = nL → cells + 1 ≤ κ → slots + 6 ≤ 6 * κ → W p l e R s m args below meth c H locs cells slots (xFin G below args s κ σ (.inr E)) (F0 m pc ls []) := by
  intro σ H locs ls cells slots hR hS hls hc1 hc2
  obtain ⟨hx, hb, hown, hml, hlocks, hWK, hts, hST, hA⟩ := C0
  obtain ⟨sa, hsa⟩ := hWK.2.2.2.2.1 _ hstr
  have hat : ∀ w ∈ vx_atS RX7 ic (xXN E) xNms, w.before args s = true :=
    vx_hat (fun w hw => hts w (List.mem_filter.mpr ⟨hat1 w hw, (List.mem_filter.mp hw).2⟩)) hat2 (fun w hw => va_tabs (List.all_eq_true.mp (show xTW.all Cond.onTables = true by decide +kernel) w hw) rfl (hWK.2.2.2.1 w hw))
  obtain ⟨-, -, hU, hN⟩ := hST
  refine vx_throwS hx hb hl (A := xA G) (names := xNms) hown hcls (fun n hn => ?_) (hts _ hk) (hts _ hini) hsa hat hgood hU hN hS (by rw [hls, hml]) d0 d3 d4 d6 d9 (fun x hx => absurd hx (fun q => ht x q)) (by show 2 + 3 < R.frames; omega) (by show 0 + (13 * (2 + 1) + 43) ≤ R.locals; omega) (by omega) (by omega) hlocks (fun t hal hz hq => ⟨⟨E, rfl, rfl⟩, xRP_kept hR hq, ⟨Nat.le_trans hS.1 hz, fun q h1 h2 => ?_⟩⟩) hS.2.2 hc1 hc2
  · rcases List.mem_cons.mp hn with rfl | hn
    · decide +kernel
    · rw [List.mem_singleton.mp hn]
      decide +kernel
  · rw [hq q (Nat.lt_of_lt_of_le h1 hS.1)]
    exact hS.2.1 q h1 h2
