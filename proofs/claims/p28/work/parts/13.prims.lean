/-! ===== calls into the JDK's constants; tables of environments ===== -/
def xEnv : List (Nat × Nat × Nat × XS) → XC
  | [], _ => none
  | q :: r, a => match Nat.beq q.1 a with
    | true => some q.2
    | false => xEnv r a
theorem xEnv_ok {l : Launch} {X : Nat × (Nat → Int32)} {own : String} {lev : Nat} : ∀ {L : List (Nat × Nat × Nat × XS)}, (∀ q ∈ L, xCS l X own lev q.1 q.2.1 q.2.2.1 q.2.2.2) → ∀ a n κ f, xEnv L a = some (n, κ, f) → xCS l X own lev a n κ f
  | [], _, a, n, κ, f, h => by cases h
  | (a0, n0, κ0, f0) :: r, hL, a, n, κ, f, h => by
    unfold xEnv at h
    cases hb : Nat.beq a0 a with
    | true =>
      have h1 : some (n0, κ0, f0) = some (n, κ, f) := by
        simpa [hb] using h
      cases h1
      rw [← Nat.eq_of_beq_eq_true hb]
      exact hL _ List.mem_cons_self
    | false =>
      have h1 : xEnv r a = some (n, κ, f) := by
        simpa [hb] using h
      exact xEnv_ok (fun q hq => hL q (List.mem_cons_of_mem _ hq)) a n κ f h1
def xIsNew (e : XE) : Bool := match e.2.1 with
  | .new _ => true
  | _ => false
theorem xNoNew {tbl : List XE} {P : XE → Prop} (h : tbl.all (fun e => !xIsNew e) = true) : ∀ en ∈ tbl, (∃ i, en.2.1 = .new i) → P en := by
  intro en hen ⟨i, hi⟩
  have h1 := List.all_eq_true.mp h en hen
  unfold xIsNew at h1
  rw [hi] at h1
  cases h1
theorem xOneNew {tbl : List XE} {q : XE} (h : tbl.filter xIsNew = [q]) : ∀ {en : XE}, en ∈ tbl → (∃ i, en.2.1 = .new i) → en = q := by
  intro en hen ⟨i, hi⟩
  have h1 : en ∈ tbl.filter xIsNew := List.mem_filter.mpr ⟨hen, by unfold xIsNew; rw [hi]⟩
  rw [h] at h1
  exact List.mem_singleton.mp h1
