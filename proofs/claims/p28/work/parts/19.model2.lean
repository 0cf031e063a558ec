/-! ===== pure words of the class (out of the proof of whole, by wip/p28/gen/prune.py) ===== -/
/-- what isn't in P stays -/
def xFr (P : Nat → Nat → Prop) (σ σ' : XH) : Prop := (∀ c j i, ¬ P c j → σ'.1 c j i = σ.1 c j i) ∧ σ'.2 = σ.2
theorem xFr.rf {P : Nat → Nat → Prop} {σ : XH} : xFr P σ σ := ⟨fun _ _ _ _ => rfl, rfl⟩
theorem xFr.tr {P : Nat → Nat → Prop} {a b c : XH} (h1 : xFr P a b) (h2 : xFr P b c) : xFr P a c := ⟨fun x y z h => (h2.1 x y z h).trans (h1.1 x y z h), h2.2.trans h1.2⟩
theorem xFr.mono {P Q : Nat → Nat → Prop} {a b : XH} (h : xFr P a b) (hPQ : ∀ c j, P c j → Q c j) : xFr Q a b := ⟨fun x y z hq => h.1 x y z (fun p => hq (hPQ _ _ p)), h.2⟩
theorem xFr.u {P : Nat → Nat → Prop} {σ : XH} {c j k : Nat} {x : Int32} (h : P c j) : xFr P σ (xuI σ c j k x) := by
  refine ⟨fun c' j' i hn => ?_, rfl⟩
  unfold xuI
  dsimp only
  split
  · split
    · split
      · rename_i h1 h2 h3
        rw [h2, h3] at hn
        exact absurd h hn
      · rfl
    · rfl
  · rfl
theorem xu_eq {σ : XH} {c j k i : Nat} {x : Int32} : (xuI σ c j k x).1 c j i = if i = k then x else σ.1 c j i := by
  unfold xuI
  simp
theorem xu_ne {σ : XH} {c j k c' j' i : Nat} {x : Int32} (h : ¬ (c' = c ∧ j' = j)) : (xuI σ c j k x).1 c' j' i = σ.1 c' j' i := by
  unfold xuI
  grind
def ctlI (t : TS) : Int32 := inI (t.1 0 + inI (flI (t.1 2 * (t.1 3 - bothT t)) 1000) (-(t.1 4)) (t.1 4)) 0 1000
/-- the valve's new numbers when its stem moves by b -/
def shiftV (V : Nat → Int32) (b : Int32) : Nat → Int32 := if b = 0 then updF V 10 0 else
  updF (updF (updF (updF (updF (updF (updF V 10 1) 8 (V 8 + b)) 9 (wayI b)) 11 (V 11 + abI b)) 13 (V 13 + abI b)) 12 (V 12 + (if V 9 = -(wayI b) then 1 else 0))) 14 (V 14 + (if V 9 = -(wayI b) then 1 else 0))
def turnV (V : Nat → Int32) (b : Int32) : Int32 := if b = 0 then 0 else if V 9 = -(wayI b) then 1 else 0
def setV (t : TS) (v : Nat) (V : Nat → Int32) : TS := match v with
  | 0 => (t.1, V, t.2.2)
  | _ => (t.1, t.2.1, V, t.2.2.2)
