/-! ===== one row of the machine for each step of the engine ===== -/
/-- what lies below the run's own cells -/
def xST (G : XG) (X : Nat × (Nat → Int32)) (U : State) (H : Heap) : Prop :=
  xlo G ≤ H.size ∧
  (va_X (xad G 15 0) X.1 X.2 U H ∧ ¬ xA G (xad G 15 0)) ∧
  vx_Zq Bundle.tN "UNASSIGNED_STACK" Bundle.steD (xA G) U H ∧ vx_Zq Bundle.tN "SUPPRESSED_SENTINEL" Bundle.listD (xA G) U H ∧
  va_Z RX6 "ALL" "[LValveTwins$Word;" (.ref (xad G 13 0)) (xA G) U H ∧ va_T (.object RX6) (xad G 13 0) 8 (fun i => .ref (xad G 12 i)) (xA G) U H ∧
  va_Z RX0 "$SwitchMap$ValveTwins$Word" "[I" (.ref (xad G 14 0)) (xA G) U H ∧ va_T .int (xad G 14 0) 8 (fun i => .int (Int32.ofNat (i + 1))) (xA G) U H ∧
  va_Ef 8 RX6 "numbers" "I" (fun i => .int (xwn i)) (fun i => xad G 12 i) (xA G) U H ∧ va_Ef 8 RX6 "letters" "Ljava/lang/String;" (fun i => .ref (xad G 16 i)) (fun i => xad G 12 i) (xA G) U H ∧
  va_Ef 8 "java/lang/Enum" "ordinal" "I" (fun i => .int (Int32.ofNat i)) (fun i => xad G 12 i) (xA G) U H ∧ (∀ i, i < 8 → va_O RX6 (xad G 12 i) (xA G) U H) ∧
  (∀ i, i < 8 → va_O "java/lang/String" (xad G 16 i) (xA G) U H) ∧
  (∀ i, i < 8 → va_OF "java/lang/String" "coder" "B" (.int 0) (xad G 16 i) (xA G) U H ∧ ∃ v, va_OF "java/lang/String" "value" "[B" (.ref v) (xad G 16 i) (xA G) U H ∧ va_T .byte v ((xWt.getD i "").length) (fun j => .int (Int32.ofNat (((xWt.getD i "").toList.getD j ' ').toNat))) (xA G) U H) ∧
  va_Z "java/lang/String" "COMPACT_STRINGS" "Z" (.int 1) (xA G) U H ∧ va_Zq "jdk/internal/util/Preconditions" "SIOOBE_FORMATTER" "Ljava/util/function/BiFunction;" (xA G) U H
theorem xST.moved {G : XG} {X : Nat × (Nat → Int32)} {u U : State} {H : Heap} (hvm : u.vm.Alike U.vm) (h : xST G X u H) : xST G X U H := by
  obtain ⟨h1, ⟨h2, h3⟩, h4, h5, h6, h7, h8, h9, h10, h11, h12, h13, h14, h15, h16, h17⟩ := h
  refine ⟨h1, ⟨va_X.moved hvm h2, h3⟩, vx_Zq.moved hvm h4, vx_Zq.moved hvm h5, va_Z.moved hvm h6, va_T.moved hvm h7, va_Z.moved hvm h8, va_T.moved hvm h9, fun i hi => va_OF.moved hvm (h10 i hi), fun i hi => va_OF.moved hvm (h11 i hi), fun i hi => va_OF.moved hvm (h12 i hi), fun i hi => va_O.moved hvm (h13 i hi), fun i hi => va_O.moved hvm (h14 i hi), fun i hi => ?_, va_Z.moved hvm h16, va_Zq.moved hvm h17⟩
  obtain ⟨g1, v, g2, g3⟩ := h15 i hi
  exact ⟨va_OF.moved hvm g1, v, va_OF.moved hvm g2, va_T.moved hvm g3⟩
theorem xST.kept {G : XG} {X : Nat × (Nat → Int32)} {U : State} {H H1 : Heap} (h : xST G X U H) (hz : H.size ≤ H1.size) (hq : ∀ a : Nat, a < H.size → ¬ xA G a → H1[a]? = H[a]?) : xST G X U H1 := by
  obtain ⟨h1, ⟨h2, h3⟩, h4, h5, h6, h7, h8, h9, h10, h11, h12, h13, h14, h15, h16, h17⟩ := h
  have hb : xad G 15 0 < H.size := by
    obtain ⟨scr, hs, -⟩ := h2
    exact (Array.getElem?_eq_some_iff.mp hs).1
  refine ⟨Nat.le_trans h1 hz, ⟨h2.kept (hq _ hb h3), h3⟩, vx_Zq.kept h4 hq, vx_Zq.kept h5 hq, va_Z.kept h6 hq, va_T.kept h7 hq, va_Z.kept h8 hq, va_T.kept h9 hq, fun i hi => va_OF.kept (h10 i hi) hq, fun i hi => va_OF.kept (h11 i hi) hq, fun i hi => va_OF.kept (h12 i hi) hq, fun i hi => va_O.kept (h13 i hi) hq, fun i hi => va_O.kept (h14 i hi) hq, fun i hi => ?_, h16.kept hq, h17.kept hq⟩
  obtain ⟨g1, v, g2, g3⟩ := h15 i hi
  exact ⟨va_OF.kept g1 hq, v, va_OF.kept g2 hq, va_T.kept g3 hq⟩
/-- what stands fast while a method's body is walked -/
def xCtx (G : XG) (X : Nat × (Nat → Int32)) (p : Program) (s : State) (m : MethodId) (args : Array Value) (meth : Method) (c : Code) (cc : ByteArray) (own : String) (nL : Nat) : Prop :=
  p.tables.exec = Jvm.exec ∧ c.code = cc ∧ s.vm.findClass own = some m.cls ∧ c.maxLocals = nL ∧ meth.locks = false ∧ xWK G s ∧ (∀ w ∈ xW, w.before args s = true) ∧ xST G X s s.heap ∧ xAP G
section XROWS
variable {p : Program} {l : Launch} {e : Env} {R : Room} {s : State} {m : MethodId} {args : Array Value} {below : List Frame} {meth : Method} {c : Code} {H : Heap} {locs : List Loc} {cells slots : Nat} {Q : State → Prop}
variable {cc : ByteArray} {pc : Nat} {ls : Array Slot} {rest : List Value} {G : XG} {X : Nat × (Nat → Int32)} {own : String} {nL : Nat} {σ : XH}
theorem xr_get (C0 : xCtx G X p s m args meth c cc own nL) (hR : xRP G σ H) {k j f index : Nat} (hc : k < 8) (hj : j < xcnt k) (hk : f < xNN k) (hlink : (Cond.fieldLink own index (xTT k f).1 (xTT k f).2.1 (xTT k f).2.2.1) ∈ xW) (hdg : decode cc pc = .ok (.getfield index, 3))
    (kk : W p l e R s m args below meth c H locs cells slots Q (F0 m (pc + 3) ls (xcv G (xfg σ k j f) :: rest))) : W p l e R s m args below meth c H locs cells slots Q (F0 m pc ls (.ref (xad G k j) :: rest)) := by
  obtain ⟨hx, hb, hown, hml, hlocks, ⟨hK, -, -⟩, hts, hST, hA⟩ := C0
  obtain ⟨cell, q1, q2, q3, q4⟩ := hR.1 k j hc hj
  obtain ⟨hS, hfc, kC, hkC, hkind⟩ := hK.1 k _ (x_cl k hc)
  obtain ⟨cf, kf, fi, fd, hi, hsl⟩ := hS f hk
  refine W.getf hx hb hown (hts _ hlink) hi (u_facts hfc hkC (u_lays hts (x_in k hc) hk) hi).1 q1 (by rw [q3]; exact fun h => by cases h) (v := xcv G (xfg σ k j f)) ?_ rfl rfl hdg kk
  rw [hsl, q4 f hk]
theorem xr_putRaw (C0 : xCtx G X p s m args meth c cc own nL) (hR : xRP G σ H) (hS0 : va_S (xA G) s.heap H locs) {k j f index : Nat} (hc : k < 8) (hj : j < xcnt k) (hk : f < xNN k) (hlink : (Cond.fieldLink own index (xTT k f).1 (xTT k f).2.1 (xTT k f).2.2.1) ∈ xW) (hfin : (xTT k f).2.2.2 = false)
    {v : Value} (hn : narrow (xYY k f) v = v) (hfit : fits (xYY k f) v = true) (hdg : decode cc pc = .ok (.putfield index, 3))
    (kk : ∀ (H1 : Heap) (locs1 : List Loc), t_OB (xad G k j) ((xD G).1 k) (xNN k) ((xD G).2 k) H1 (updV (fun i => xcv G (xfg σ k j i)) f v) → (∀ q : Nat, q ≠ xad G k j → H1[q]? = H[q]?) → va_S (xA G) s.heap H1 locs1 → W p l e R s m args below meth c H1 locs1 cells slots Q (F0 m (pc + 3) ls rest)) : W p l e R s m args below meth c H locs cells slots Q (F0 m pc ls (v :: .ref (xad G k j) :: rest)) := by
  obtain ⟨hx, hb, hown, hml, hlocks, ⟨hK, -, -⟩, hts, hST, hA⟩ := C0
  have hap := va_apart (own := own) hts (x_in k hc) (xYY k) (x_ty k hc) (x_nm k hc) hK (x_cl k hc)
  obtain ⟨cell, q1, q2, q3, q4⟩ := hR.1 k j hc hj
  obtain ⟨hS, hfc, kC, hkC, hkind⟩ := hK.1 k _ (x_cl k hc)
  obtain ⟨cf, kf, fi, fd, hi, hsl⟩ := hS f hk
  have hlay := hts _ (x_in k hc _ (u_in_lay hk))
  unfold u_lay at hlay
  rw [if_neg (by rw [hfin]; decide)] at hlay
  have hst := (u_facts hfc hkC (u_lays hts (x_in k hc) hk) hi).1
  have h6 := u_store hfc hkC hkind hlay hi (x_ty k hc f hk) hn hfit
  refine W.putK hx hb (f := fd) ⟨hown, hts _ hlink, ⟨_, _, _, hi⟩, hst⟩ (by rw [q2]; exact h6) q1 q3 (by rw [hsl]; exact k2_hasslot (q4 f hk)) rfl rfl hdg fun H' e1 e2 e3 => ?_
  rw [hsl] at e1 ⊢
  exact kk H' _ ⟨_, e1, q2, q3, t_set q4 hap hk v⟩ e3 (hS0.put e2 e3 (hA.2 k j (by omega) hj))
theorem xr_iald (C0 : xCtx G X p s m args meth c cc own nL) (hR : xRP G σ H) {k j : Nat} (hc : k = 8 ∨ k = 9) (hj : j < xcnt k) {i : Int32} (h0 : 0 ≤ i) (h1 : i.toNatClampNeg < xlen k j) (hdg : decode cc pc = .ok (.iaload, 1))
    (kk : W p l e R s m args below meth c H locs cells slots Q (F0 m (pc + 1) ls (.int (σ.1 k j i.toNatClampNeg) :: rest))) : W p l e R s m args below meth c H locs cells slots Q (F0 m pc ls (.int i :: .ref (xad G k j) :: rest)) := by
  obtain ⟨hx, hb, hown, hml, hlocks, ⟨hK, -, -⟩, hts, hST, hA⟩ := C0
  have hin : ¬ (i < 0 ∨ xlen k j ≤ i.toNatClampNeg) := fun q => by
    rcases q with q | q
    · exact absurd h0 (Int32.not_le.mpr q)
    · omega
  exact W.iald (v := .int (σ.1 k j i.toNatClampNeg)) hx hb (hR.2.1 k j hc hj) ((hK.2 0 _ rfl).1 (xlen k j) (fun q => .int (σ.1 k j q))) (fun q => by cases q) (by show ¬ (i < 0 ∨ (arrV _ _ _).slots.size ≤ _); rw [arrV_size]; exact hin) (by show (arrV _ _ _).slots[_]? = _; rw [arrV_read _ _ h1]) rfl rfl hdg kk
theorem xr_iast (C0 : xCtx G X p s m args meth c cc own nL) (hR : xRP G σ H) (hS0 : va_S (xA G) s.heap H locs) {k j : Nat} (hc : k = 8 ∨ k = 9) (hj : j < xcnt k) {i x : Int32} (h0 : 0 ≤ i) (h1 : i.toNatClampNeg < xlen k j) (hdg : decode cc pc = .ok (.iastore, 1))
    (kk : ∀ (H1 : Heap) (locs1 : List Loc), xRP G (xuI σ k j i.toNatClampNeg x) H1 → va_S (xA G) s.heap H1 locs1 → W p l e R s m args below meth c H1 locs1 cells slots Q (F0 m (pc + 1) ls rest)) : W p l e R s m args below meth c H locs cells slots Q (F0 m pc ls (.int x :: .int i :: .ref (xad G k j) :: rest)) := by
  obtain ⟨hx, hb, hown, hml, hlocks, ⟨hK, -, -⟩, hts, hST, hA⟩ := C0
  have hin : ¬ (i < 0 ∨ xlen k j ≤ i.toNatClampNeg) := fun q => by
    rcases q with q | q
    · exact absurd h0 (Int32.not_le.mpr q)
    · omega
  refine W.iast hx hb (hR.2.1 k j hc hj) ((hK.2 0 _ rfl).1 (xlen k j) (fun q => .int (σ.1 k j q))) (fun q => by cases q) (by show ¬ (i < 0 ∨ (arrV _ _ _).slots.size ≤ _); rw [arrV_size]; exact hin) rfl rfl hdg fun H1 e z oq => ?_
  refine kk H1 _ (xRP_upd hA hR (c := k) (j := j) (by omega) hj oq (fun c' j' q h => ?_) (fun _ _ _ _ => rfl) rfl (fun h => by omega) (fun _ => ?_) (fun h => by omega)) (hS0.put z oq (hA.2 k j (by omega) hj))
  · unfold xuI
    dsimp only
    split
    · split
      · split
        · exact absurd ⟨by assumption, by assumption⟩ h
        · rfl
      · rfl
    · rfl
  · rw [e, vp_cell_i, vp_cell_i, arrV_store]
    congr 2
    funext q
    by_cases hq : q = i.toNatClampNeg
    · subst hq
      simp [updV, xuI]
    · simp [updV, xuI, hq]
theorem xr_lald (C0 : xCtx G X p s m args meth c cc own nL) (hR : xRP G σ H) {i : Int32} (h0 : 0 ≤ i) (h1 : i.toNatClampNeg < 1) (hdg : decode cc pc = .ok (.laload, 1))
    (kk : W p l e R s m args below meth c H locs cells slots Q (F0 m (pc + 1) ls (.long (σ.2.1 10 0 i.toNatClampNeg) :: rest))) : W p l e R s m args below meth c H locs cells slots Q (F0 m pc ls (.int i :: .ref (xad G 10 0) :: rest)) := by
  obtain ⟨hx, hb, hown, hml, hlocks, ⟨hK, -, -⟩, hts, hST, hA⟩ := C0
  have hin : ¬ (i < 0 ∨ 1 ≤ i.toNatClampNeg) := fun q => by
    rcases q with q | q
    · exact absurd h0 (Int32.not_le.mpr q)
    · omega
  exact W.lald (v := .long (σ.2.1 10 0 i.toNatClampNeg)) hx hb hR.2.2.1 ((hK.2 1 _ rfl).1 1 (fun q => .long (σ.2.1 10 0 q))) (fun q => by cases q) (by show ¬ (i < 0 ∨ (arrV _ _ _).slots.size ≤ _); rw [arrV_size]; exact hin) (by show (arrV _ _ _).slots[_]? = _; rw [arrV_read _ _ h1]) rfl rfl hdg kk
theorem xr_last (C0 : xCtx G X p s m args meth c cc own nL) (hR : xRP G σ H) (hS0 : va_S (xA G) s.heap H locs) {i : Int32} {x : Int64} (h0 : 0 ≤ i) (h1 : i.toNatClampNeg < 1) (hdg : decode cc pc = .ok (.lastore, 1))
    (kk : ∀ (H1 : Heap) (locs1 : List Loc), xRP G (xuL σ 10 0 i.toNatClampNeg x) H1 → va_S (xA G) s.heap H1 locs1 → W p l e R s m args below meth c H1 locs1 cells slots Q (F0 m (pc + 1) ls rest)) : W p l e R s m args below meth c H locs cells slots Q (F0 m pc ls (.long x :: .int i :: .ref (xad G 10 0) :: rest)) := by
  obtain ⟨hx, hb, hown, hml, hlocks, ⟨hK, -, -⟩, hts, hST, hA⟩ := C0
  have hin : ¬ (i < 0 ∨ 1 ≤ i.toNatClampNeg) := fun q => by
    rcases q with q | q
    · exact absurd h0 (Int32.not_le.mpr q)
    · omega
  refine W.last hx hb hR.2.2.1 ((hK.2 1 _ rfl).1 1 (fun q => .long (σ.2.1 10 0 q))) (fun q => by cases q) (by show ¬ (i < 0 ∨ (arrV _ _ _).slots.size ≤ _); rw [arrV_size]; exact hin) rfl rfl hdg fun H1 e z oq => ?_
  refine kk H1 _ (xRP_upd hA hR (c := 10) (j := 0) (by decide) (by decide) oq (fun _ _ _ _ => rfl) (fun c' j' q h => ?_) rfl (fun h => by omega) (fun h => by omega) (fun _ => ?_)) (hS0.put z oq (hA.2 10 0 (by decide) (by decide)))
  · unfold xuL
    dsimp only
    split
    · split
      · split
        · exact absurd ⟨by assumption, by assumption⟩ h
        · rfl
      · rfl
    · rfl
  · rw [e, vp_cell_l, vp_cell_l, arrV_store]
    congr 2
    funext q
    by_cases hq : q = i.toNatClampNeg
    · subst hq
      simp [updV, xuL]
    · simp [updV, xuL, hq]
theorem xr_states (C0 : xCtx G X p s m args meth c cc own nL) (hR : xRP G σ H) {i : Int32} (h0 : 0 ≤ i) (h1 : i.toNatClampNeg < 4) (hdg : decode cc pc = .ok (.aaload, 1))
    (kk : W p l e R s m args below meth c H locs cells slots Q (F0 m (pc + 1) ls (.ref (xad G 3 (2 + i.toNatClampNeg)) :: rest))) : W p l e R s m args below meth c H locs cells slots Q (F0 m pc ls (.int i :: .ref (xad G 11 0) :: rest)) := by
  obtain ⟨hx, hb, hown, hml, hlocks, ⟨hK, -, -⟩, hts, hST, hA⟩ := C0
  have hin : ¬ (i < 0 ∨ 4 ≤ i.toNatClampNeg) := fun q => by
    rcases q with q | q
    · exact absurd h0 (Int32.not_le.mpr q)
    · omega
  exact W.aald (v := va_rf (some (xad G 3 (2 + i.toNatClampNeg)))) (ty := .object RX4) hx hb hR.2.2.2.1 ((hK.2 2 _ rfl).1 4 (fun q => va_rf (some (xad G 3 (2 + q))))) rfl (fun q => by cases q) (by show ¬ (i < 0 ∨ (arrV _ _ _).slots.size ≤ _); rw [arrV_size]; exact hin) (by show (arrV _ _ _).slots[_]? = _; rw [arrV_read _ _ h1]) rfl rfl hdg kk
end XROWS
