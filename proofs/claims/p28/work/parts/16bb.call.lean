/-! ===== calls, with what goes on behind them kept as data ===== -/
section XBND
variable (X : Nat × (Nat → Int32)) (cl : XC) (hd : Nat → Nat → Option (Option (Nat × Nat))) (rt : Nat) (stops : List (Nat × List Nat)) (tbl : List XE) (n : Nat)
def xGoTo (nx : Nat × Option (List Nat)) (lv : XL) (st : List XV) (σ : XH) (b : Nat) : Option XO := match nx.2 with
  | none => xExec X cl hd rt stops tbl n (xPc tbl nx.1) lv st σ b
  | some live => xStopOut (nx.1, live) lv st σ b
end XBND
def xBnd (r : Option (XR × XH)) (X : Nat × (Nat → Int32)) (cl : XC) (hd : Nat → Nat → Option (Option (Nat × Nat))) (rt : Nat) (stops : List (Nat × List Nat)) (tbl : List XE) (n pc : Nat) (nx : Nat × Option (List Nat)) (lv : XL) (st : List XV) (b : Nat) : Option XO := match r with
  | none => none
  | some (.inl none, σ') => xGoTo X cl hd rt stops tbl n nx lv st σ' b
  | some (.inl (some v), σ') => xGoTo X cl hd rt stops tbl n nx lv (v :: st) σ' b
  | some (.inr E, σ') => (match hd pc E with
    | none => none
    | some none => some (.inl (.inr E, σ'))
    | some (some (t, i)) => (match xStopAt stops (xPc tbl t) with
      | none => xExec X cl hd rt stops tbl n (xPc tbl t) (lv.filter (xk1 i)) [] σ' b
      | some q => xStopOut q (lv.filter (xk1 i)) [] σ' b))
theorem xCallR {X : Nat × (Nat → Int32)} {cl : XC} {hd : Nat → Nat → Option (Option (Nat × Nat))} {rt : Nat} {stops : List (Nat × List Nat)} {tbl : List XE} {n pc a κ b : Nat} {nx : Nat × Option (List Nat)} {f : XS} {as : List XV} {lv : XL} {st st0 : List XV} {σ : XH} (hcl : cl a = some (as.length, κ, f)) (hst : st0 = as.reverse ++ st) :
    xCall cl hd (fun lv st σ b => xGoTo X cl hd rt stops tbl n nx lv st σ b) (fun t lv st σ b => match xStopAt stops (xPc tbl t) with | none => xExec X cl hd rt stops tbl n (xPc tbl t) lv st σ b | some q => xStopOut q lv st σ b) pc a lv st0 σ b =
      (match Nat.ble (xws st) 8, Nat.ble κ b with | true, true => xBnd (f as σ) X cl hd rt stops tbl n pc nx lv st (b - κ) | _, _ => none) := by
  subst hst
  have h1 : Nat.ble as.length (as.reverse ++ st).length = true := Nat.ble_eq_true_of_le (by simp)
  have h2 : (as.reverse ++ st).drop as.length = st := by
    have := List.drop_left (l₁ := as.reverse) (l₂ := st)
    rwa [List.length_reverse] at this
  have h3 : ((as.reverse ++ st).take as.length).reverse = as := by
    have := List.take_left (l₁ := as.reverse) (l₂ := st)
    rw [List.length_reverse] at this
    rw [this, List.reverse_reverse]
  unfold xCall
  rw [hcl]
  dsimp only
  rw [h1, h2, h3]
  cases Nat.ble (xws st) 8 with
  | false => rfl
  | true =>
    cases Nat.ble κ b with
    | false => rfl
    | true => rfl
