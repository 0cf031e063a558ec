/-! ===== one row of the machine for each step of the engine ===== -/
/-- what lies below the run's own cells -/
def xST (G : XG) (X : Nat × (Nat → Int32)) (U : State) (H : Heap) : Prop :=
  xlo G ≤ H.size ∧
  (va_X (xad G 15 0) X.1 X.2 U H ∧ ¬ xA G (xad G 15 0)) ∧
  vx_Zq Bundle.tN "UNASSIGNED_STACK" Bundle.steD (xA G) U H ∧ vx_Zq Bundle.tN "SUPPRESSED_SENTINEL" Bundle.listD (xA G) U H
theorem xST.moved {G : XG} {X : Nat × (Nat → Int32)} {u U : State} {H : Heap} (hvm : u.vm.Alike U.vm) (h : xST G X u H) : xST G X U H := by
  obtain ⟨h1, ⟨h2, h3⟩, h4, h5⟩ := h
  exact ⟨h1, ⟨va_X.moved hvm h2, h3⟩, vx_Zq.moved hvm h4, vx_Zq.moved hvm h5⟩
theorem xST.kept {G : XG} {X : Nat × (Nat → Int32)} {U : State} {H H1 : Heap} (h : xST G X U H) (hz : H.size ≤ H1.size) (hq : ∀ a : Nat, a < H.size → ¬ xA G a → H1[a]? = H[a]?) : xST G X U H1 := by
  obtain ⟨h1, ⟨h2, h3⟩, h4, h5⟩ := h
  have hb : xad G 15 0 < H.size := by
    obtain ⟨scr, hs, -⟩ := h2
    exact (Array.getElem?_eq_some_iff.mp hs).1
  exact ⟨Nat.le_trans h1 hz, ⟨h2.kept (hq _ hb h3), h3⟩, vx_Zq.kept h4 hq, vx_Zq.kept h5 hq⟩
/-- what stands fast while a method's body is walked -/
def xCtx (G : XG) (X : Nat × (Nat → Int32)) (p : Program) (s : State) (m : MethodId) (args : Array Value) (meth : Method) (c : Code) (cc : ByteArray) (own : String) (nL : Nat) : Prop :=
  p.tables.exec = Jvm.exec ∧ c.code = cc ∧ s.vm.findClass own = some m.cls ∧ c.maxLocals = nL ∧ meth.locks = false ∧ xWK G s ∧ (∀ w ∈ xW, w.before args s = true) ∧ xST G X s s.heap ∧ xAP G
section XROWS
variable {p : Program} {l : Launch} {e : Env} {R : Room} {s : State} {m : MethodId} {args : Array Value} {below : List Frame} {meth : Method} {c : Code} {H : Heap} {locs : List Loc} {cells slots : Nat} {Q : State → Prop}
variable {cc : ByteArray} {pc : Nat} {ls : Array Slot} {rest : List Value} {G : XG} {X : Nat × (Nat → Int32)} {own : String} {nL : Nat} {σ : XH}
theorem xr_get (C0 : xCtx G X p s m args meth c cc own nL) (hR : xRP G σ H) {k j f index : Nat} (hc : k < 8) (hj : j < xcnt k) (hk : f < xNN k) (hlink : (Cond.fieldLink own index (xTT k f).1 (xTT k f).2.1 (xTT k f).2.2.1) ∈ xW) (hdg : decode cc pc = .ok (.getfield index, 3))
    (kk : W p l e R s m args below meth c H locs cells slots Q (F0 m (pc + 3) ls (xcv G (xfg σ k j f) :: rest))) : W p l e R s m args below meth c H locs cells slots Q (F0 m pc ls (.ref (xad G k j) :: rest)) := by
  obtain ⟨hx, hb, hown, hml, hlocks, ⟨hK, -, -⟩, hts, hST, hA⟩ := C0
  obtain ⟨cell, q1, q2, q3, q4⟩ := hR.1 k j hc hj
  obtain ⟨hS, hfc, kC, hkC, hkind⟩ := hK.1 k _ (x_cl k hc)
  obtain ⟨cf, kf, fi, fd, hi, hsl⟩ := hS f hk
  refine W.getf hx hb hown (hts _ hlink) hi (u_facts hfc hkC (u_lays hts (x_in k hc) hk) hi).1 q1 (by rw [q3]; exact fun h => by cases h) (v := xcv G (xfg σ k j f)) ?_ rfl rfl hdg kk
  rw [hsl, q4 f hk]
theorem xr_putRaw (C0 : xCtx G X p s m args meth c cc own nL) (hR : xRP G σ H) (hS0 : va_S (xA G) s.heap H locs) {k j f index : Nat} (hc : k < 8) (hj : j < xcnt k) (hk : f < xNN k) (hlink : (Cond.fieldLink own index (xTT k f).1 (xTT k f).2.1 (xTT k f).2.2.1) ∈ xW) (hfin : (xTT k f).2.2.2 = false)
    {v : Value} (hn : narrow (xYY k f) v = v) (hfit : fits (xYY k f) v = true) (hdg : decode cc pc = .ok (.putfield index, 3))
    (kk : ∀ (H1 : Heap) (locs1 : List Loc), t_OB (xad G k j) ((xD G).1 k) (xNN k) ((xD G).2 k) H1 (updV (fun i => xcv G (xfg σ k j i)) f v) → (∀ q : Nat, q ≠ xad G k j → H1[q]? = H[q]?) → va_S (xA G) s.heap H1 locs1 → W p l e R s m args below meth c H1 locs1 cells slots Q (F0 m (pc + 3) ls rest)) : W p l e R s m args below meth c H locs cells slots Q (F0 m pc ls (v :: .ref (xad G k j) :: rest)) := by
  obtain ⟨hx, hb, hown, hml, hlocks, ⟨hK, -, -⟩, hts, hST, hA⟩ := C0
  have hap := va_apart (own := own) hts (x_in k hc) (xYY k) (x_ty k hc) (x_nm k hc) hK (x_cl k hc)
  obtain ⟨cell, q1, q2, q3, q4⟩ := hR.1 k j hc hj
  obtain ⟨hS, hfc, kC, hkC, hkind⟩ := hK.1 k _ (x_cl k hc)
  obtain ⟨cf, kf, fi, fd, hi, hsl⟩ := hS f hk
  have hlay := hts _ (x_in k hc _ (u_in_lay hk))
  unfold u_lay at hlay
  rw [if_neg (by rw [hfin]; decide)] at hlay
  have hst := (u_facts hfc hkC (u_lays hts (x_in k hc) hk) hi).1
  have h6 := u_store hfc hkC hkind hlay hi (x_ty k hc f hk) hn hfit
  refine W.putK hx hb (f := fd) ⟨hown, hts _ hlink, ⟨_, _, _, hi⟩, hst⟩ (by rw [q2]; exact h6) q1 q3 (by rw [hsl]; exact k2_hasslot (q4 f hk)) rfl rfl hdg fun H' e1 e2 e3 => ?_
  rw [hsl] at e1 ⊢
  exact kk H' _ ⟨_, e1, q2, q3, t_set q4 hap hk v⟩ e3 (hS0.put e2 e3 (hA.2 k j (by omega) hj))
theorem xr_iald (C0 : xCtx G X p s m args meth c cc own nL) (hR : xRP G σ H) {k j : Nat} (hc : k = 8 ∨ k = 9) (hj : j < xcnt k) (hfl : k = 9 → j = 5 → xfl σ = 1) {i : Int32} (h0 : 0 ≤ i) (h1 : i.toNatClampNeg < xlen k j) (hdg : decode cc pc = .ok (.iaload, 1))
    (kk : W p l e R s m args below meth c H locs cells slots Q (F0 m (pc + 1) ls (.int (σ.1 k j i.toNatClampNeg) :: rest))) : W p l e R s m args below meth c H locs cells slots Q (F0 m pc ls (.int i :: .ref (xad G k j) :: rest)) := by
  obtain ⟨hx, hb, hown, hml, hlocks, ⟨hK, -, -⟩, hts, hST, hA⟩ := C0
  have hin : ¬ (i < 0 ∨ xlen k j ≤ i.toNatClampNeg) := fun q => by
    rcases q with q | q
    · exact absurd h0 (Int32.not_le.mpr q)
    · omega
  exact W.iald (v := .int (σ.1 k j i.toNatClampNeg)) hx hb (hR.2.1 k j hc hj hfl) ((hK.2 0 _ rfl).1 (xlen k j) (fun q => .int (σ.1 k j q))) (fun q => by cases q) (by show ¬ (i < 0 ∨ (arrV _ _ _).slots.size ≤ _); rw [arrV_size]; exact hin) (by show (arrV _ _ _).slots[_]? = _; rw [arrV_read _ _ h1]) rfl rfl hdg kk
theorem xr_iast (C0 : xCtx G X p s m args meth c cc own nL) (hR : xRP G σ H) (hS0 : va_S (xA G) s.heap H locs) {k j : Nat} (hc : k = 8 ∨ k = 9) (hj : j < xcnt k) (hfl : k = 9 → j = 5 → xfl σ = 1) {i x : Int32} (h0 : 0 ≤ i) (h1 : i.toNatClampNeg < xlen k j) (hdg : decode cc pc = .ok (.iastore, 1))
    (kk : ∀ (H1 : Heap) (locs1 : List Loc), xRP G (xuI σ k j i.toNatClampNeg x) H1 → va_S (xA G) s.heap H1 locs1 → W p l e R s m args below meth c H1 locs1 cells slots Q (F0 m (pc + 1) ls rest)) : W p l e R s m args below meth c H locs cells slots Q (F0 m pc ls (.int x :: .int i :: .ref (xad G k j) :: rest)) := by
  obtain ⟨hx, hb, hown, hml, hlocks, ⟨hK, -, -⟩, hts, hST, hA⟩ := C0
  have hin : ¬ (i < 0 ∨ xlen k j ≤ i.toNatClampNeg) := fun q => by
    rcases q with q | q
    · exact absurd h0 (Int32.not_le.mpr q)
    · omega
  refine W.iast hx hb (hR.2.1 k j hc hj hfl) ((hK.2 0 _ rfl).1 (xlen k j) (fun q => .int (σ.1 k j q))) (fun q => by cases q) (by show ¬ (i < 0 ∨ (arrV _ _ _).slots.size ≤ _); rw [arrV_size]; exact hin) rfl rfl hdg fun H1 e z oq => ?_
  refine kk H1 _ (xRP_upd hA hR (c := k) (j := j) (by omega) hj oq (fun c' j' q h => ?_) rfl rfl (fun h => by omega) (fun _ => ?_)) (hS0.put z oq (hA.2 k j (by omega) hj))
  · unfold xuI
    dsimp only
    split
    · split
      · split
        · exact absurd ⟨by assumption, by assumption⟩ h
        · rfl
      · rfl
    · rfl
  · rw [e, vp_cell_i, vp_cell_i, arrV_store]
    congr 2
    funext q
    by_cases hq : q = i.toNatClampNeg
    · subst hq
      simp [updV, xuI]
    · simp [updV, xuI, hq]
theorem xr_states (C0 : xCtx G X p s m args meth c cc own nL) (hR : xRP G σ H) {i : Int32} (h0 : 0 ≤ i) (h1 : i.toNatClampNeg < 4) (hdg : decode cc pc = .ok (.aaload, 1))
    (kk : W p l e R s m args below meth c H locs cells slots Q (F0 m (pc + 1) ls (.ref (xad G 3 (2 + i.toNatClampNeg)) :: rest))) : W p l e R s m args below meth c H locs cells slots Q (F0 m pc ls (.int i :: .ref (xad G 11 0) :: rest)) := by
  obtain ⟨hx, hb, hown, hml, hlocks, ⟨hK, -, -⟩, hts, hST, hA⟩ := C0
  have hin : ¬ (i < 0 ∨ 4 ≤ i.toNatClampNeg) := fun q => by
    rcases q with q | q
    · exact absurd h0 (Int32.not_le.mpr q)
    · omega
  exact W.aald (v := va_rf (some (xad G 3 (2 + i.toNatClampNeg)))) (ty := .object RX4) hx hb hR.2.2.2.1 ((hK.2 1 _ rfl).1 4 (fun q => va_rf (some (xad G 3 (2 + q))))) rfl (fun q => by cases q) (by show ¬ (i < 0 ∨ (arrV _ _ _).slots.size ≤ _); rw [arrV_size]; exact hin) (by show (arrV _ _ _).slots[_]? = _; rw [arrV_read _ _ h1]) rfl rfl hdg kk
end XROWS
