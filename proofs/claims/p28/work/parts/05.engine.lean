/-! ===== THE ENGINE: a pure run of bytecode over one fixed layout of cells ===== -/
/-- values: an int, a long, a reference (null, or the cell j of the kind c) -/
abbrev XV : Type := Int32 ⊕ (Int64 ⊕ Option (Nat × Nat))
abbrev XL : Type := List (Nat × XV)
/-- what can change: ints by kind, cell, place; longs; the word of the reader of texts -/
abbrev XH : Type := (Nat → Nat → Nat → Int32) × (Nat → Nat → Nat → Int64) × Option Nat
abbrev XR : Type := Option XV ⊕ Nat
/-- pc, instruction, length, two numbers and the cases of a switch -/
abbrev XE : Type := Nat × Instr × Nat × Nat × Nat × List (Int32 × Nat)
abbrev XO : Type := (XR × XH) ⊕ (Nat × XL × XH × Nat)
abbrev XS : Type := List XV → XH → Option (XR × XH)
abbrev XC : Type := Nat → Option (Nat × Nat × XS)
abbrev xI (x : Int32) : XV := .inl x
abbrev xL (x : Int64) : XV := .inr (.inl x)
abbrev xR (c j : Nat) : XV := .inr (.inr (some (c, j)))
def xcat : XV → Nat
  | .inl _ => 1
  | .inr (.inl _) => 2
  | .inr (.inr _) => 1
def xws : List XV → Nat
  | [] => 0
  | v :: r => xcat v + xws r
def xlg : XL → Nat → Option XV
  | [], _ => none
  | (i, v) :: l, k => match Nat.beq i k with
    | true => some v
    | false => xlg l k
def xk1 (i : Nat) (q : Nat × XV) : Bool := !(q.1 == i) && !(q.1 + 1 == i && xcat q.2 == 2)
def xk2 (i : Nat) (q : Nat × XV) : Bool := !(q.1 == i) && (!(q.1 == i + 1) && !(q.1 + 1 == i && xcat q.2 == 2))
def xl1 (i : Nat) (v : XV) (l : XL) : XL := (i, v) :: l.filter (xk1 i)
def xl2 (i : Nat) (v : XV) (l : XL) : XL := (i, v) :: l.filter (xk2 i)
def xpick (l : XL) : List Nat → Option XL
  | [] => some []
  | i :: r => match xlg l i with
    | none => none
    | some v => match xpick l r with
      | none => none
      | some l' => some ((i, v) :: l')
def xargs : Nat → List XV → XL
  | _, [] => []
  | i, v :: vs => (i, v) :: xargs (match xcat v with | 2 => i + 2 | _ => i + 1) vs
/-- how many cells of a kind there are -/
def xcnt : Nat → Nat
  | 0 => 6 | 1 => 1 | 2 => 1 | 3 => 6 | 4 => 12 | 5 => 0 | 6 => 1 | 7 => 0 | 8 => 6 | 9 => 6 | 10 => 0 | 11 => 1 | 12 => 8 | 15 => 1
  | _ => 0
/-- the lengths of int arrays -/
def xlen (c j : Nat) : Nat := match c with
  | 8 => 60
  | 9 => match j with
    | 0 => 150 | 1 => 3 | 2 => 10 | 3 => 32 | 4 => 60 | 5 => 4
    | _ => 0
  | _ => 0
/-- a field's kind: 0 int, 1 boolean, 2 long, 3 reference -/
def xfk (c k : Nat) : Nat := match c with
  | 0 => match k with | 0 => 3 | _ => 0
  | 1 => match k with | 0 => 3 | _ => 0
  | 2 => match k with | 0 => 3 | 1 => 3 | 5 => 3 | _ => 0
  | 3 => match k with | 0 => 3 | 1 => 3 | 2 => 3 | _ => 0
  | 4 => match k with | 2 => 1 | 10 => 1 | _ => 0
  | 6 => 3
  | _ => 4
/-- is a tick's own array there -/
abbrev xfl (σ : XH) : Int64 := σ.2.1 10 0 0
/-- how far an int array of kind 9 may be used: the tick's own only while it is there -/
def xbd (σ : XH) (j : Nat) : Nat := match j with
  | 5 => if xfl σ = 1 then 4 else 0
  | _ => xlen 9 j
theorem xbd_ok {σ : XH} {j n : Nat} (h : n < xbd σ j) : (j = 5 → xfl σ = 1) ∧ n < xlen 9 j := by
  unfold xbd at h
  split at h
  · split at h
    · exact ⟨fun _ => by assumption, h⟩
    · exact absurd h (Nat.not_lt_zero _)
  · rename_i hj
    exact ⟨fun e => absurd e hj, h⟩
/-- where references lead -/
def xrho (w : Option Nat) (c j k : Nat) : Option (Nat × Nat) := match c with
  | 0 => match k with | 0 => some (8, j) | _ => none
  | 1 => match k with | 0 => some (11, 0) | _ => none
  | 2 => match k with | 0 => some (9, 0) | 1 => some (9, 1) | 5 => (match w with | none => none | some i => some (12, i)) | _ => none
  | 3 => match k with | 0 => some (4, 2 * j) | 1 => some (4, 2 * j + 1) | 2 => some (0, j) | _ => none
  | 6 => match k with | 0 => some (3, 0) | 1 => some (3, 1) | 2 => some (1, 0) | 3 => some (2, 0) | _ => none
  | _ => none
def xuI (σ : XH) (c j k : Nat) (x : Int32) : XH := (fun c' j' k' => if k' = k then (if c' = c then (if j' = j then x else σ.1 c' j' k') else σ.1 c' j' k') else σ.1 c' j' k', σ.2)
def xuL (σ : XH) (c j k : Nat) (x : Int64) : XH := (σ.1, fun c' j' k' => if k' = k then (if c' = c then (if j' = j then x else σ.2.1 c' j' k') else σ.2.1 c' j' k') else σ.2.1 c' j' k', σ.2.2)
def xfg (σ : XH) (c j k : Nat) : XV := match xfk c k with
  | 0 => .inl (σ.1 c j k)
  | 1 => .inl (σ.1 c j k)
  | 2 => .inr (.inl (σ.2.1 c j k))
  | _ => .inr (.inr (xrho σ.2.2 c j k))
def xSw {α : Type} (j : Nat → α) (d : Nat) (x : Int32) : List (Int32 × Nat) → α
  | [] => j d
  | (v, t) :: r => if x = v then j t else xSw j d x r
section OPK
variable (X : Nat × (Nat → Int32)) (cl : XC) (hd : Nat → Nat → Option (Option (Nat × Nat))) (rt : Nat) (k : XL → List XV → XH → Nat → Option XO) (j : Nat → XL → List XV → XH → Nat → Option XO)
def xkI (lv : XL) (st : List XV) (σ : XH) (b i : Nat) : Option XO := match xlg lv i with
  | some (.inl x) => k lv (.inl x :: st) σ b
  | _ => none
def xkL (lv : XL) (st : List XV) (σ : XH) (b i : Nat) : Option XO := match xlg lv i with
  | some (.inr (.inl x)) => k lv (.inr (.inl x) :: st) σ b
  | _ => none
def xkA (lv : XL) (st : List XV) (σ : XH) (b i : Nat) : Option XO := match xlg lv i with
  | some (.inr (.inr q)) => k lv (.inr (.inr q) :: st) σ b
  | _ => none
def xsI (lv : XL) (st : List XV) (σ : XH) (b i : Nat) : Option XO := match st with
  | .inl x :: r => k (xl1 i (.inl x) lv) r σ b
  | _ => none
def xsL (lv : XL) (st : List XV) (σ : XH) (b i : Nat) : Option XO := match st with
  | .inr (.inl x) :: r => k (xl2 i (.inr (.inl x)) lv) r σ b
  | _ => none
def xsA (lv : XL) (st : List XV) (σ : XH) (b i : Nat) : Option XO := match st with
  | .inr (.inr q) :: r => k (xl1 i (.inr (.inr q)) lv) r σ b
  | _ => none
def xbI (f : Int32 → Int32 → Int32) (lv : XL) (st : List XV) (σ : XH) (b : Nat) : Option XO := match st with
  | .inl y :: .inl x :: r => k lv (.inl (f x y) :: r) σ b
  | _ => none
def xbD (f : Int32 → Int32 → Int32) (lv : XL) (st : List XV) (σ : XH) (b : Nat) : Option XO := match st with
  | .inl y :: .inl x :: r => if y = 0 then none else k lv (.inl (f x y) :: r) σ b
  | _ => none
def xbL (f : Int64 → Int64 → Int64) (lv : XL) (st : List XV) (σ : XH) (b : Nat) : Option XO := match st with
  | .inr (.inl y) :: .inr (.inl x) :: r => k lv (.inr (.inl (f x y)) :: r) σ b
  | _ => none
def xc2 (cnd : ClassFile.Cond) (t : Nat) (lv : XL) (st : List XV) (σ : XH) (b : Nat) : Option XO := match st with
  | .inl y :: .inl x :: r => match cnd with
    | .eq => if x = y then j t lv r σ b else k lv r σ b
    | .ne => if x = y then k lv r σ b else j t lv r σ b
    | .lt => if x < y then j t lv r σ b else k lv r σ b
    | .ge => if y ≤ x then j t lv r σ b else k lv r σ b
    | .gt => if y < x then j t lv r σ b else k lv r σ b
    | .le => if x ≤ y then j t lv r σ b else k lv r σ b
  | _ => none
def xc1 (cnd : ClassFile.Cond) (t : Nat) (lv : XL) (st : List XV) (σ : XH) (b : Nat) : Option XO := match st with
  | .inl x :: r => match cnd with
    | .eq => if x = 0 then j t lv r σ b else k lv r σ b
    | .ne => if x = 0 then k lv r σ b else j t lv r σ b
    | .lt => if x < 0 then j t lv r σ b else k lv r σ b
    | .ge => if 0 ≤ x then j t lv r σ b else k lv r σ b
    | .gt => if 0 < x then j t lv r σ b else k lv r σ b
    | .le => if x ≤ 0 then j t lv r σ b else k lv r σ b
  | _ => none
def xgF (c f : Nat) (lv : XL) (st : List XV) (σ : XH) (b : Nat) : Option XO := match st with
  | .inr (.inr (some q)) :: r => match Nat.beq q.1 c with
    | true => (match Nat.beq c 12 with
      | true => none
      | false => k lv (xfg σ c q.2 f :: r) σ b)
    | false => none
  | _ => none
def xpF (c f : Nat) (lv : XL) (st : List XV) (σ : XH) (b : Nat) : Option XO := match st with
  | v :: .inr (.inr (some q)) :: r => match Nat.beq q.1 c with
    | true => (match xfk c f, v with
      | 0, .inl x => k lv r (xuI σ c q.2 f x) b
      | 1, .inl x => if x = 0 ∨ x = 1 then k lv r (xuI σ c q.2 f x) b else none
      | 3, .inr (.inr none) => (match Nat.beq c 2, Nat.beq f 5 with
        | true, true => k lv r (σ.1, σ.2.1, none) b
        | _, _ => none)
      | 3, .inr (.inr (some w)) => (match Nat.beq c 2, Nat.beq f 5, Nat.beq w.1 12 with
        | true, true, true => k lv r (σ.1, σ.2.1, some w.2) b
        | _, _, _ => none)
      | _, _ => none)
    | false => none
  | _ => none
def xInB (i : Int32) (n : Nat) : Prop := 0 ≤ i ∧ i.toNatClampNeg < n
def xgA (lv : XL) (st : List XV) (σ : XH) (b : Nat) : Option XO := match st with
  | .inl i :: .inr (.inr (some q)) :: r => (match q.1 with
    | 8 => if 0 ≤ i ∧ i.toNatClampNeg < 60 then k lv (.inl (σ.1 8 q.2 i.toNatClampNeg) :: r) σ b else none
    | 9 => if 0 ≤ i ∧ i.toNatClampNeg < xbd σ q.2 then k lv (.inl (σ.1 9 q.2 i.toNatClampNeg) :: r) σ b else none
    | 15 => if 0 ≤ i ∧ i.toNatClampNeg < X.1 then k lv (.inl (X.2 i.toNatClampNeg) :: r) σ b else none
    | _ => none)
  | _ => none
def xpA (lv : XL) (st : List XV) (σ : XH) (b : Nat) : Option XO := match st with
  | .inl x :: .inl i :: .inr (.inr (some q)) :: r => (match q.1 with
    | 8 => if 0 ≤ i ∧ i.toNatClampNeg < 60 then k lv r (xuI σ 8 q.2 i.toNatClampNeg x) b else none
    | 9 => if 0 ≤ i ∧ i.toNatClampNeg < xbd σ q.2 then k lv r (xuI σ 9 q.2 i.toNatClampNeg x) b else none
    | _ => none)
  | _ => none
def xgRA (lv : XL) (st : List XV) (σ : XH) (b : Nat) : Option XO := match st with
  | .inl i :: .inr (.inr (some q)) :: r => (match q.1 with
    | 11 => if 0 ≤ i ∧ i.toNatClampNeg < 4 then k lv (.inr (.inr (some (3, 2 + i.toNatClampNeg))) :: r) σ b else none
    | _ => none)
  | _ => none
def xgLen (lv : XL) (st : List XV) (σ : XH) (b : Nat) : Option XO := match st with
  | .inr (.inr (some q)) :: r => (match q.1 with
    | 8 => k lv (.inl 60 :: r) σ b
    | 15 => k lv (.inl (Int32.ofNat X.1) :: r) σ b
    | _ => none)
  | _ => none
def xCall (pc a : Nat) (lv : XL) (st : List XV) (σ : XH) (b : Nat) : Option XO := match cl a with
  | none => none
  | some (n, κ, f) => match Nat.ble n st.length, Nat.ble (xws (st.drop n)) 8, Nat.ble κ b with
    | true, true, true => (match f (st.take n).reverse σ with
      | none => none
      | some (.inl none, σ') => k lv (st.drop n) σ' (b - κ)
      | some (.inl (some v), σ') => k lv (v :: st.drop n) σ' (b - κ)
      | some (.inr E, σ') => (match hd pc E with
        | none => none
        | some none => some (.inl (.inr E, σ'))
        | some (some (t, i)) => j t (lv.filter (xk1 i)) [] σ' (b - κ)))
    | _, _, _ => none
def xRet (lv : XL) (st : List XV) (σ : XH) : Option XO := match rt, st with
  | 0, [.inl x] => some (.inl (.inl (some (.inl x)), σ))
  | 1, [.inl x] => if x = 0 ∨ x = 1 then some (.inl (.inl (some (.inl x)), σ)) else none
  | _, _ => none
def xRetL (st : List XV) (σ : XH) : Option XO := match rt, st with
  | 2, [.inr (.inl x)] => some (.inl (.inl (some (.inr (.inl x))), σ))
  | _, _ => none
def xRetA (st : List XV) (σ : XH) : Option XO := match rt, st with
  | 3, [.inr (.inr q)] => some (.inl (.inl (some (.inr (.inr q))), σ))
  | _, _ => none
def xRetV (st : List XV) (σ : XH) : Option XO := match rt, st with
  | 4, [] => some (.inl (.inl none, σ))
  | _, _ => none
def xNew (E : Nat) (st : List XV) (σ : XH) (b : Nat) : Option XO := match st, b with
  | [], _ + 1 => some (.inl (.inr E, σ))
  | _, _ => none
/-- int arrays of books, copied by System.arraycopy -/
def xCpy (σ : XH) (j0 j1 sp dp n : Nat) : XH := (fun c j k => if c = 8 then (if j = j1 then va_cpy (σ.1 8 j0) (σ.1 8 j1) sp dp n k else σ.1 c j k) else σ.1 c j k, σ.2)
def xAC (lv : XL) (st : List XV) (σ : XH) (b : Nat) : Option XO := match st with
  | .inl n :: .inl dp :: .inr (.inr (some q1)) :: .inl sp :: .inr (.inr (some q0)) :: r => (match q0.1, q1.1 with
    | 8, 8 => if (0 ≤ sp ∧ 0 ≤ dp ∧ 0 ≤ n) ∧ sp.toNatClampNeg + n.toNatClampNeg ≤ 60 ∧ dp.toNatClampNeg + n.toNatClampNeg ≤ 60 ∧ xws r ≤ 8 then k lv r (xCpy σ q0.2 q1.2 sp.toNatClampNeg dp.toNatClampNeg n.toNatClampNeg) b else none
    | _, _ => none)
  | _ => none
/-- the tick's own array is made, and forgotten -/
def xNewW (σ : XH) : XH := (fun c j k => if c = 9 then (if j = 5 then 0 else σ.1 c j k) else σ.1 c j k, fun c j k => if c = 10 then 1 else σ.2.1 c j k, σ.2.2)
def xDropW (σ : XH) : XH := (σ.1, fun c j k => if c = 10 then 0 else σ.2.1 c j k, σ.2.2)
/-- one instruction: k goes on behind it, j jumps -/
def xOp (e : XE) (lv : XL) (st : List XV) (σ : XH) (b : Nat) : Option XO :=
  match e.2.1 with
  | .iload_n i => xkI k lv st σ b i.val
  | .iload i => xkI k lv st σ b i
  | .lload_n i => xkL k lv st σ b i.val
  | .lload i => xkL k lv st σ b i
  | .aload_n i => xkA k lv st σ b i.val
  | .aload i => xkA k lv st σ b i
  | .istore_n i => xsI k lv st σ b i.val
  | .istore i => xsI k lv st σ b i
  | .lstore_n i => xsL k lv st σ b i.val
  | .lstore i => xsL k lv st σ b i
  | .astore_n i => xsA k lv st σ b i.val
  | .astore i => xsA k lv st σ b i
  | .iinc i n => (match xlg lv i with
    | some (.inl x) => k (xl1 i (.inl (x + Int32.ofInt n)) lv) st σ b
    | _ => none)
  | .iconst n => k lv (.inl (Int32.ofInt n) :: st) σ b
  | .bipush n => k lv (.inl (Int32.ofInt n) :: st) σ b
  | .sipush n => k lv (.inl (Int32.ofInt n) :: st) σ b
  | .lconst n => k lv (.inr (.inl (Int64.ofNat n.val)) :: st) σ b
  | .ldc _ => (match e.2.2.2.2.2 with
    | (v, _) :: _ => k lv (.inl v :: st) σ b
    | _ => none)
  | .ldc2_w _ => k lv (.inr (.inl (Int64.ofNat e.2.2.2.1)) :: st) σ b
  | .aconst_null => k lv (.inr (.inr none) :: st) σ b
  | .dup => (match st with
    | .inl x :: r => k lv (.inl x :: .inl x :: r) σ b
    | .inr (.inr q) :: r => k lv (.inr (.inr q) :: .inr (.inr q) :: r) σ b
    | _ => none)
  | .dup2 => (match st with
    | .inl x :: .inr (.inr q) :: r => k lv (.inl x :: .inr (.inr q) :: .inl x :: .inr (.inr q) :: r) σ b
    | _ => none)
  | .pop => (match st with
    | .inl _ :: r => k lv r σ b
    | .inr (.inr _) :: r => k lv r σ b
    | _ => none)
  | .iadd => xbI k (fun x y => x + y) lv st σ b
  | .isub => xbI k (fun x y => x - y) lv st σ b
  | .imul => xbI k (fun x y => x * y) lv st σ b
  | .iand => xbI k (fun x y => x &&& y) lv st σ b
  | .ixor => xbI k (fun x y => x ^^^ y) lv st σ b
  | .idiv => xbD k (fun x y => x / y) lv st σ b
  | .irem => xbD k (fun x y => x - x / y * y) lv st σ b
  | .ishr => xbI k (fun x y => x >>> (y &&& 31)) lv st σ b
  | .ineg => (match st with
    | .inl x :: r => k lv (.inl (-x) :: r) σ b
    | _ => none)
  | .ladd => xbL k (fun x y => x + y) lv st σ b
  | .lmul => xbL k (fun x y => x * y) lv st σ b
  | .lor => xbL k (fun x y => x ||| y) lv st σ b
  | .lshl => (match st with
    | .inl y :: .inr (.inl x) :: r => k lv (.inr (.inl (x <<< (y.toInt64 &&& 63))) :: r) σ b
    | _ => none)
  | .i2l => (match st with
    | .inl x :: r => k lv (.inr (.inl x.toInt64) :: r) σ b
    | _ => none)
  | .lcmp => (match st with
    | .inr (.inl y) :: .inr (.inl x) :: r => k lv (.inl (lg_cmp x y) :: r) σ b
    | _ => none)
  | .if_icmp cnd _ => xc2 k j cnd e.2.2.2.1 lv st σ b
  | .ifCond cnd _ => xc1 k j cnd e.2.2.2.1 lv st σ b
  | .goto _ => j e.2.2.2.1 lv st σ b
  | .ifnull _ => (match st with
    | .inr (.inr none) :: r => j e.2.2.2.1 lv r σ b
    | .inr (.inr (some _)) :: r => k lv r σ b
    | _ => none)
  | .ifnonnull _ => (match st with
    | .inr (.inr none) :: r => k lv r σ b
    | .inr (.inr (some _)) :: r => j e.2.2.2.1 lv r σ b
    | _ => none)
  | .tableswitch _ _ _ _ => (match st with
    | .inl x :: r => xSw (fun t => j t lv r σ b) e.2.2.2.1 x e.2.2.2.2.2
    | _ => none)
  | .lookupswitch _ _ => (match st with
    | .inl x :: r => xSw (fun t => j t lv r σ b) e.2.2.2.1 x e.2.2.2.2.2
    | _ => none)
  | .getfield _ => xgF k e.2.2.2.1 e.2.2.2.2.1 lv st σ b
  | .putfield _ => xpF k e.2.2.2.1 e.2.2.2.2.1 lv st σ b
  | .iaload => xgA X k lv st σ b
  | .iastore => xpA k lv st σ b
  | .aaload => xgRA k lv st σ b
  | .arraylength => xgLen X k lv st σ b
  | .invokevirtual _ => xCall cl hd k j e.1 e.2.2.2.1 lv st σ b
  | .invokestatic _ => (match e.2.2.2.2.1 with
    | 0 => xCall cl hd k j e.1 e.2.2.2.1 lv st σ b
    | _ => xAC k lv st σ b)
  | .ireturn => xRet rt lv st σ
  | .lreturn => xRetL rt st σ
  | .areturn => xRetA rt st σ
  | .return_ => xRetV rt st σ
  | .new _ => xNew e.2.2.2.1 st σ b
  | _ => none
end OPK
def xPc : List XE → Nat → List XE
  | [], _ => []
  | e :: r, t => match Nat.beq e.1 t with
    | true => e :: r
    | false => xPc r t
def xStopOf : List (Nat × List Nat) → Nat → Option (List Nat)
  | [], _ => none
  | q :: r, t => match Nat.beq q.1 t with
    | true => some q.2
    | false => xStopOf r t
def xStopAt (stops : List (Nat × List Nat)) (cur : List XE) : Option (Nat × List Nat) := match stops with
  | [] => none
  | _ :: _ => match cur with
    | [] => none
    | e :: _ => match xStopOf stops e.1 with
      | none => none
      | some live => some (e.1, live)
def xStopOut (q : Nat × List Nat) (lv : XL) (st : List XV) (σ : XH) (b : Nat) : Option XO := match st with
  | [] => match xpick lv q.2 with
    | none => none
    | some lv' => some (.inr (q.1, lv', σ, b))
  | _ :: _ => none
section EXEC
variable (X : Nat × (Nat → Int32)) (cl : XC) (hd : Nat → Nat → Option (Option (Nat × Nat))) (rt : Nat) (stops : List (Nat × List Nat)) (tbl : List XE)
def xExec : Nat → List XE → XL → List XV → XH → Nat → Option XO
  | 0, _, _, _, _, _ => none
  | _ + 1, [], _, _, _, _ => none
  | n + 1, e :: r, lv, st, σ, b => xOp X cl hd rt
      (fun lv st σ b => match xStopAt stops r with
        | none => xExec n r lv st σ b
        | some q => xStopOut q lv st σ b)
      (fun t lv st σ b => match xStopAt stops (xPc tbl t) with
        | none => xExec n (xPc tbl t) lv st σ b
        | some q => xStopOut q lv st σ b) e lv st σ b
/-- from stop to stop, to the end -/
def xIter : Nat → (Nat × XL × XH × Nat) → Option (XR × XH)
  | 0, _ => none
  | n + 1, s => match xExec X cl hd rt stops tbl 1000 (xPc tbl s.1) s.2.1 [] s.2.2.1 s.2.2.2 with
    | none => none
    | some (.inl r) => some r
    | some (.inr s') => xIter n s'
end EXEC
