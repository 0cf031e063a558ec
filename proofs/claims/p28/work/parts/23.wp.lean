/-! ===== what a run comes to, as a proposition: conditions to be shown, calls by what is known of them ===== -/
def xo (o : Option XO) (Q : XO → Prop) : Prop := ∃ out, o = some out ∧ Q out
theorem xo_i {Q : XO → Prop} {out : XO} (h : Q out) : xo (some out) Q := ⟨out, rfl, h⟩
/-- a call comes to an end, with Q -/
def wF (o : Option (XR × XH)) (Q : XR × XH → Prop) : Prop := ∃ r, o = some r ∧ Q r
section WOP
variable (X : Nat × (Nat → Int32)) (cl : XC) (hd : Nat → Nat → Option (Option (Nat × Nat))) (rt : Nat) (Q : XO → Prop) (k : XL → List XV → XH → Nat → Prop) (j : Nat → XL → List XV → XH → Nat → Prop)
def wkI (lv : XL) (st : List XV) (σ : XH) (b i : Nat) : Prop := match xlg lv i with
  | some (.inl x) => k lv (.inl x :: st) σ b
  | _ => False
def wkL (lv : XL) (st : List XV) (σ : XH) (b i : Nat) : Prop := match xlg lv i with
  | some (.inr (.inl x)) => k lv (.inr (.inl x) :: st) σ b
  | _ => False
def wkA (lv : XL) (st : List XV) (σ : XH) (b i : Nat) : Prop := match xlg lv i with
  | some (.inr (.inr q)) => k lv (.inr (.inr q) :: st) σ b
  | _ => False
def wsI (lv : XL) (st : List XV) (σ : XH) (b i : Nat) : Prop := match st with
  | .inl x :: r => k (xl1 i (.inl x) lv) r σ b
  | _ => False
def wsL (lv : XL) (st : List XV) (σ : XH) (b i : Nat) : Prop := match st with
  | .inr (.inl x) :: r => k (xl2 i (.inr (.inl x)) lv) r σ b
  | _ => False
def wsA (lv : XL) (st : List XV) (σ : XH) (b i : Nat) : Prop := match st with
  | .inr (.inr q) :: r => k (xl1 i (.inr (.inr q)) lv) r σ b
  | _ => False
def wbI (f : Int32 → Int32 → Int32) (lv : XL) (st : List XV) (σ : XH) (b : Nat) : Prop := match st with
  | .inl y :: .inl x :: r => k lv (.inl (f x y) :: r) σ b
  | _ => False
def wbD (f : Int32 → Int32 → Int32) (lv : XL) (st : List XV) (σ : XH) (b : Nat) : Prop := match st with
  | .inl y :: .inl x :: r => ¬ y = 0 ∧ k lv (.inl (f x y) :: r) σ b
  | _ => False
def wbL (f : Int64 → Int64 → Int64) (lv : XL) (st : List XV) (σ : XH) (b : Nat) : Prop := match st with
  | .inr (.inl y) :: .inr (.inl x) :: r => k lv (.inr (.inl (f x y)) :: r) σ b
  | _ => False
def wc2 (cnd : ClassFile.Cond) (t : Nat) (lv : XL) (st : List XV) (σ : XH) (b : Nat) : Prop := match st with
  | .inl y :: .inl x :: r => match cnd with
    | .eq => (x = y → j t lv r σ b) ∧ (¬ x = y → k lv r σ b)
    | .ne => (x = y → k lv r σ b) ∧ (¬ x = y → j t lv r σ b)
    | .lt => (x < y → j t lv r σ b) ∧ (¬ x < y → k lv r σ b)
    | .ge => (y ≤ x → j t lv r σ b) ∧ (¬ y ≤ x → k lv r σ b)
    | .gt => (y < x → j t lv r σ b) ∧ (¬ y < x → k lv r σ b)
    | .le => (x ≤ y → j t lv r σ b) ∧ (¬ x ≤ y → k lv r σ b)
  | _ => False
def wc1 (cnd : ClassFile.Cond) (t : Nat) (lv : XL) (st : List XV) (σ : XH) (b : Nat) : Prop := match st with
  | .inl x :: r => match cnd with
    | .eq => (x = 0 → j t lv r σ b) ∧ (¬ x = 0 → k lv r σ b)
    | .ne => (x = 0 → k lv r σ b) ∧ (¬ x = 0 → j t lv r σ b)
    | .lt => (x < 0 → j t lv r σ b) ∧ (¬ x < 0 → k lv r σ b)
    | .ge => (0 ≤ x → j t lv r σ b) ∧ (¬ 0 ≤ x → k lv r σ b)
    | .gt => (0 < x → j t lv r σ b) ∧ (¬ 0 < x → k lv r σ b)
    | .le => (x ≤ 0 → j t lv r σ b) ∧ (¬ x ≤ 0 → k lv r σ b)
  | _ => False
def wgF (c f : Nat) (lv : XL) (st : List XV) (σ : XH) (b : Nat) : Prop := match st with
  | .inr (.inr (some q)) :: r => match Nat.beq q.1 c with
    | true => (match Nat.beq c 12 with
      | true => False
      | false => k lv (xfg σ c q.2 f :: r) σ b)
    | false => False
  | _ => False
def wpF (c f : Nat) (lv : XL) (st : List XV) (σ : XH) (b : Nat) : Prop := match st with
  | v :: .inr (.inr (some q)) :: r => match Nat.beq q.1 c with
    | true => (match xfk c f, v with
      | 0, .inl x => k lv r (xuI σ c q.2 f x) b
      | 1, .inl x => (x = 0 ∨ x = 1) ∧ k lv r (xuI σ c q.2 f x) b
      | 3, .inr (.inr none) => (match Nat.beq c 2, Nat.beq f 5 with
        | true, true => k lv r (σ.1, σ.2.1, none) b
        | _, _ => False)
      | 3, .inr (.inr (some w)) => (match Nat.beq c 2, Nat.beq f 5, Nat.beq w.1 12 with
        | true, true, true => k lv r (σ.1, σ.2.1, some w.2) b
        | _, _, _ => False)
      | _, _ => False)
    | false => False
  | _ => False
def wgA (lv : XL) (st : List XV) (σ : XH) (b : Nat) : Prop := match st with
  | .inl i :: .inr (.inr (some q)) :: r => (match q.1 with
    | 8 => (0 ≤ i ∧ i.toNatClampNeg < 60) ∧ k lv (.inl (σ.1 8 q.2 i.toNatClampNeg) :: r) σ b
    | 9 => (0 ≤ i ∧ i.toNatClampNeg < xbd σ q.2) ∧ k lv (.inl (σ.1 9 q.2 i.toNatClampNeg) :: r) σ b
    | 15 => (0 ≤ i ∧ i.toNatClampNeg < X.1) ∧ k lv (.inl (X.2 i.toNatClampNeg) :: r) σ b
    | _ => False)
  | _ => False
def wpA (lv : XL) (st : List XV) (σ : XH) (b : Nat) : Prop := match st with
  | .inl x :: .inl i :: .inr (.inr (some q)) :: r => (match q.1 with
    | 8 => (0 ≤ i ∧ i.toNatClampNeg < 60) ∧ k lv r (xuI σ 8 q.2 i.toNatClampNeg x) b
    | 9 => (0 ≤ i ∧ i.toNatClampNeg < xbd σ q.2) ∧ k lv r (xuI σ 9 q.2 i.toNatClampNeg x) b
    | _ => False)
  | _ => False
def wgRA (lv : XL) (st : List XV) (σ : XH) (b : Nat) : Prop := match st with
  | .inl i :: .inr (.inr (some q)) :: r => (match q.1 with
    | 11 => (0 ≤ i ∧ i.toNatClampNeg < 4) ∧ k lv (.inr (.inr (some (3, 2 + i.toNatClampNeg))) :: r) σ b
    | _ => False)
  | _ => False
def wgLen (lv : XL) (st : List XV) (σ : XH) (b : Nat) : Prop := match st with
  | .inr (.inr (some q)) :: r => (match q.1 with
    | 8 => k lv (.inl 60 :: r) σ b
    | 15 => k lv (.inl (Int32.ofNat X.1) :: r) σ b
    | _ => False)
  | _ => False
/-- behind a call -/
def wCk (pc : Nat) (lv : XL) (st : List XV) (b : Nat) (r : XR × XH) : Prop := match r with
  | (.inl none, σ') => k lv st σ' b
  | (.inl (some v), σ') => k lv (v :: st) σ' b
  | (.inr E, σ') => (match hd pc E with
    | none => False
    | some none => Q (.inl (.inr E, σ'))
    | some (some (t, i)) => j t (lv.filter (xk1 i)) [] σ' b)
def wCall (pc a : Nat) (lv : XL) (st : List XV) (σ : XH) (b : Nat) : Prop := match cl a with
  | none => False
  | some (n, κ, f) => match Nat.ble n st.length, Nat.ble (xws (st.drop n)) 8, Nat.ble κ b with
    | true, true, true => wF (f (st.take n).reverse σ) (wCk hd Q k j pc lv (st.drop n) (b - κ))
    | _, _, _ => False
def wRet (lv : XL) (st : List XV) (σ : XH) : Prop := match rt, st with
  | 0, [.inl x] => Q (.inl (.inl (some (.inl x)), σ))
  | 1, [.inl x] => (x = 0 ∨ x = 1) ∧ Q (.inl (.inl (some (.inl x)), σ))
  | _, _ => False
def wRetL (st : List XV) (σ : XH) : Prop := match rt, st with
  | 2, [.inr (.inl x)] => Q (.inl (.inl (some (.inr (.inl x))), σ))
  | _, _ => False
def wRetA (st : List XV) (σ : XH) : Prop := match rt, st with
  | 3, [.inr (.inr q)] => Q (.inl (.inl (some (.inr (.inr q))), σ))
  | _, _ => False
def wRetV (st : List XV) (σ : XH) : Prop := match rt, st with
  | 4, [] => Q (.inl (.inl none, σ))
  | _, _ => False
def wNew (E : Nat) (st : List XV) (σ : XH) (b : Nat) : Prop := match st, b with
  | [], _ + 1 => Q (.inl (.inr E, σ))
  | _, _ => False
def wAC (lv : XL) (st : List XV) (σ : XH) (b : Nat) : Prop := match st with
  | .inl n :: .inl dp :: .inr (.inr (some q1)) :: .inl sp :: .inr (.inr (some q0)) :: r => (match q0.1, q1.1 with
    | 8, 8 => ((0 ≤ sp ∧ 0 ≤ dp ∧ 0 ≤ n) ∧ sp.toNatClampNeg + n.toNatClampNeg ≤ 60 ∧ dp.toNatClampNeg + n.toNatClampNeg ≤ 60 ∧ xws r ≤ 8) ∧ k lv r (xCpy σ q0.2 q1.2 sp.toNatClampNeg dp.toNatClampNeg n.toNatClampNeg) b
    | _, _ => False)
  | _ => False
def wSw (g : Nat → Prop) (d : Nat) (x : Int32) : List (Int32 × Nat) → Prop
  | [] => g d
  | (v, t) :: r => (x = v → g t) ∧ (¬ x = v → wSw g d x r)
def wOp (e : XE) (lv : XL) (st : List XV) (σ : XH) (b : Nat) : Prop :=
  match e.2.1 with
  | .iload_n i => wkI k lv st σ b i.val
  | .iload i => wkI k lv st σ b i
  | .lload_n i => wkL k lv st σ b i.val
  | .lload i => wkL k lv st σ b i
  | .aload_n i => wkA k lv st σ b i.val
  | .aload i => wkA k lv st σ b i
  | .istore_n i => wsI k lv st σ b i.val
  | .istore i => wsI k lv st σ b i
  | .lstore_n i => wsL k lv st σ b i.val
  | .lstore i => wsL k lv st σ b i
  | .astore_n i => wsA k lv st σ b i.val
  | .astore i => wsA k lv st σ b i
  | .iinc i n => (match xlg lv i with
    | some (.inl x) => k (xl1 i (.inl (x + Int32.ofInt n)) lv) st σ b
    | _ => False)
  | .iconst n => k lv (.inl (Int32.ofInt n) :: st) σ b
  | .bipush n => k lv (.inl (Int32.ofInt n) :: st) σ b
  | .sipush n => k lv (.inl (Int32.ofInt n) :: st) σ b
  | .lconst n => k lv (.inr (.inl (Int64.ofNat n.val)) :: st) σ b
  | .ldc _ => (match e.2.2.2.2.2 with
    | (v, _) :: _ => k lv (.inl v :: st) σ b
    | _ => False)
  | .ldc2_w _ => k lv (.inr (.inl (Int64.ofNat e.2.2.2.1)) :: st) σ b
  | .aconst_null => k lv (.inr (.inr none) :: st) σ b
  | .dup => (match st with
    | .inl x :: r => k lv (.inl x :: .inl x :: r) σ b
    | .inr (.inr q) :: r => k lv (.inr (.inr q) :: .inr (.inr q) :: r) σ b
    | _ => False)
  | .dup2 => (match st with
    | .inl x :: .inr (.inr q) :: r => k lv (.inl x :: .inr (.inr q) :: .inl x :: .inr (.inr q) :: r) σ b
    | _ => False)
  | .pop => (match st with
    | .inl _ :: r => k lv r σ b
    | .inr (.inr _) :: r => k lv r σ b
    | _ => False)
  | .iadd => wbI k (fun x y => x + y) lv st σ b
  | .isub => wbI k (fun x y => x - y) lv st σ b
  | .imul => wbI k (fun x y => x * y) lv st σ b
  | .iand => wbI k (fun x y => x &&& y) lv st σ b
  | .ixor => wbI k (fun x y => x ^^^ y) lv st σ b
  | .ishr => wbI k (fun x y => x >>> (y &&& 31)) lv st σ b
  | .idiv => wbD k (fun x y => x / y) lv st σ b
  | .irem => wbD k (fun x y => x - x / y * y) lv st σ b
  | .ineg => (match st with
    | .inl x :: r => k lv (.inl (-x) :: r) σ b
    | _ => False)
  | .ladd => wbL k (fun x y => x + y) lv st σ b
  | .lmul => wbL k (fun x y => x * y) lv st σ b
  | .lor => wbL k (fun x y => x ||| y) lv st σ b
  | .lshl => (match st with
    | .inl y :: .inr (.inl x) :: r => k lv (.inr (.inl (x <<< (y.toInt64 &&& 63))) :: r) σ b
    | _ => False)
  | .i2l => (match st with
    | .inl x :: r => k lv (.inr (.inl x.toInt64) :: r) σ b
    | _ => False)
  | .lcmp => (match st with
    | .inr (.inl y) :: .inr (.inl x) :: r => k lv (.inl (lg_cmp x y) :: r) σ b
    | _ => False)
  | .if_icmp cnd _ => wc2 k j cnd e.2.2.2.1 lv st σ b
  | .ifCond cnd _ => wc1 k j cnd e.2.2.2.1 lv st σ b
  | .goto _ => j e.2.2.2.1 lv st σ b
  | .ifnull _ => (match st with
    | .inr (.inr none) :: r => j e.2.2.2.1 lv r σ b
    | .inr (.inr (some _)) :: r => k lv r σ b
    | _ => False)
  | .ifnonnull _ => (match st with
    | .inr (.inr none) :: r => k lv r σ b
    | .inr (.inr (some _)) :: r => j e.2.2.2.1 lv r σ b
    | _ => False)
  | .tableswitch _ _ _ _ => (match st with
    | .inl x :: r => wSw (fun t => j t lv r σ b) e.2.2.2.1 x e.2.2.2.2.2
    | _ => False)
  | .lookupswitch _ _ => (match st with
    | .inl x :: r => wSw (fun t => j t lv r σ b) e.2.2.2.1 x e.2.2.2.2.2
    | _ => False)
  | .getfield _ => wgF k e.2.2.2.1 e.2.2.2.2.1 lv st σ b
  | .putfield _ => wpF k e.2.2.2.1 e.2.2.2.2.1 lv st σ b
  | .iaload => wgA X k lv st σ b
  | .iastore => wpA k lv st σ b
  | .aaload => wgRA k lv st σ b
  | .arraylength => wgLen X k lv st σ b
  | .invokevirtual _ => wCall cl hd Q k j e.1 e.2.2.2.1 lv st σ b
  | .invokestatic _ => (match e.2.2.2.2.1 with
    | 0 => wCall cl hd Q k j e.1 e.2.2.2.1 lv st σ b
    | _ => wAC k lv st σ b)
  | .ireturn => wRet rt Q lv st σ
  | .lreturn => wRetL rt Q st σ
  | .areturn => wRetA rt Q st σ
  | .return_ => wRetV rt Q st σ
  | .new _ => wNew Q e.2.2.2.1 st σ b
  | _ => False
end WOP
theorem xo_if {Q : XO → Prop} {c : Prop} [Decidable c] {A B : Option XO} (h1 : c → xo A Q) (h2 : ¬ c → xo B Q) : xo (if c then A else B) Q := by
  split
  · exact h1 ‹_›
  · exact h2 ‹_›
theorem xo_and {Q : XO → Prop} {c : Prop} [Decidable c] {A : Option XO} (h1 : c) (h2 : xo A Q) : xo (if c then A else none) Q := by
  rw [if_pos h1]
  exact h2
section WOPS
variable {X : Nat × (Nat → Int32)} {cl : XC} {hd : Nat → Nat → Option (Option (Nat × Nat))} {rt : Nat} {Q : XO → Prop} {k : XL → List XV → XH → Nat → Prop} {j : Nat → XL → List XV → XH → Nat → Prop} {k' : XL → List XV → XH → Nat → Option XO} {j' : Nat → XL → List XV → XH → Nat → Option XO}
theorem wkI_s (hk : ∀ lv st σ b, k lv st σ b → xo (k' lv st σ b) Q) {lv : XL} {st : List XV} {σ : XH} {b i : Nat} : wkI k lv st σ b i → xo (xkI k' lv st σ b i) Q := by
  unfold wkI xkI
  rcases xlg lv i with _ | x | x | x
  all_goals first | exact hk _ _ _ _ | exact False.elim
theorem wkL_s (hk : ∀ lv st σ b, k lv st σ b → xo (k' lv st σ b) Q) {lv : XL} {st : List XV} {σ : XH} {b i : Nat} : wkL k lv st σ b i → xo (xkL k' lv st σ b i) Q := by
  unfold wkL xkL
  rcases xlg lv i with _ | x | x | x
  all_goals first | exact hk _ _ _ _ | exact False.elim
theorem wkA_s (hk : ∀ lv st σ b, k lv st σ b → xo (k' lv st σ b) Q) {lv : XL} {st : List XV} {σ : XH} {b i : Nat} : wkA k lv st σ b i → xo (xkA k' lv st σ b i) Q := by
  unfold wkA xkA
  rcases xlg lv i with _ | x | x | x
  all_goals first | exact hk _ _ _ _ | exact False.elim
theorem wsI_s (hk : ∀ lv st σ b, k lv st σ b → xo (k' lv st σ b) Q) {lv : XL} {st : List XV} {σ : XH} {b i : Nat} : wsI k lv st σ b i → xo (xsI k' lv st σ b i) Q := by
  unfold wsI xsI
  rcases st with _ | ⟨x | x | x, r⟩
  all_goals first | exact hk _ _ _ _ | exact False.elim
theorem wsL_s (hk : ∀ lv st σ b, k lv st σ b → xo (k' lv st σ b) Q) {lv : XL} {st : List XV} {σ : XH} {b i : Nat} : wsL k lv st σ b i → xo (xsL k' lv st σ b i) Q := by
  unfold wsL xsL
  rcases st with _ | ⟨x | x | x, r⟩
  all_goals first | exact hk _ _ _ _ | exact False.elim
theorem wsA_s (hk : ∀ lv st σ b, k lv st σ b → xo (k' lv st σ b) Q) {lv : XL} {st : List XV} {σ : XH} {b i : Nat} : wsA k lv st σ b i → xo (xsA k' lv st σ b i) Q := by
  unfold wsA xsA
  rcases st with _ | ⟨x | x | x, r⟩
  all_goals first | exact hk _ _ _ _ | exact False.elim
theorem wbI_s (hk : ∀ lv st σ b, k lv st σ b → xo (k' lv st σ b) Q) {f : Int32 → Int32 → Int32} {lv : XL} {st : List XV} {σ : XH} {b : Nat} : wbI k f lv st σ b → xo (xbI k' f lv st σ b) Q := by
  unfold wbI xbI
  rcases st with _ | ⟨x | x | x, _ | ⟨y | y | y, r⟩⟩
  all_goals first | exact hk _ _ _ _ | exact False.elim
theorem wbD_s (hk : ∀ lv st σ b, k lv st σ b → xo (k' lv st σ b) Q) {f : Int32 → Int32 → Int32} {lv : XL} {st : List XV} {σ : XH} {b : Nat} : wbD k f lv st σ b → xo (xbD k' f lv st σ b) Q := by
  unfold wbD xbD
  rcases st with _ | ⟨x | x | x, _ | ⟨y | y | y, r⟩⟩
  all_goals first | exact False.elim | exact fun h => xo_if (fun h0 => absurd h0 h.1) (fun _ => hk _ _ _ _ h.2)
theorem wbL_s (hk : ∀ lv st σ b, k lv st σ b → xo (k' lv st σ b) Q) {f : Int64 → Int64 → Int64} {lv : XL} {st : List XV} {σ : XH} {b : Nat} : wbL k f lv st σ b → xo (xbL k' f lv st σ b) Q := by
  unfold wbL xbL
  rcases st with _ | ⟨x | x | x, _ | ⟨y | y | y, r⟩⟩
  all_goals first | exact hk _ _ _ _ | exact False.elim
theorem wc2_s (hk : ∀ lv st σ b, k lv st σ b → xo (k' lv st σ b) Q) (hj : ∀ t lv st σ b, j t lv st σ b → xo (j' t lv st σ b) Q) {cnd : ClassFile.Cond} {t : Nat} {lv : XL} {st : List XV} {σ : XH} {b : Nat} : wc2 k j cnd t lv st σ b → xo (xc2 k' j' cnd t lv st σ b) Q := by
  unfold wc2 xc2
  rcases st with _ | ⟨x | x | x, _ | ⟨y | y | y, r⟩⟩
  all_goals first | exact False.elim | (cases cnd <;> first | exact fun h => xo_if (fun h0 => hj _ _ _ _ _ (h.1 h0)) (fun h0 => hk _ _ _ _ (h.2 h0)) | exact fun h => xo_if (fun h0 => hk _ _ _ _ (h.1 h0)) (fun h0 => hj _ _ _ _ _ (h.2 h0)))
theorem wc1_s (hk : ∀ lv st σ b, k lv st σ b → xo (k' lv st σ b) Q) (hj : ∀ t lv st σ b, j t lv st σ b → xo (j' t lv st σ b) Q) {cnd : ClassFile.Cond} {t : Nat} {lv : XL} {st : List XV} {σ : XH} {b : Nat} : wc1 k j cnd t lv st σ b → xo (xc1 k' j' cnd t lv st σ b) Q := by
  unfold wc1 xc1
  rcases st with _ | ⟨x | x | x, r⟩
  all_goals first | exact False.elim | (cases cnd <;> first | exact fun h => xo_if (fun h0 => hj _ _ _ _ _ (h.1 h0)) (fun h0 => hk _ _ _ _ (h.2 h0)) | exact fun h => xo_if (fun h0 => hk _ _ _ _ (h.1 h0)) (fun h0 => hj _ _ _ _ _ (h.2 h0)))
theorem wgF_s (hk : ∀ lv st σ b, k lv st σ b → xo (k' lv st σ b) Q) {c f : Nat} {lv : XL} {st : List XV} {σ : XH} {b : Nat} : wgF k c f lv st σ b → xo (xgF k' c f lv st σ b) Q := by
  unfold wgF xgF
  rcases st with _ | ⟨x | x | _ | q, r⟩
  all_goals first | exact False.elim | skip
  dsimp only
  cases Nat.beq q.1 c
  · exact False.elim
  · dsimp only
    cases Nat.beq c 12
    · exact hk _ _ _ _
    · exact False.elim
theorem wpF_s (hk : ∀ lv st σ b, k lv st σ b → xo (k' lv st σ b) Q) {c f : Nat} {lv : XL} {st : List XV} {σ : XH} {b : Nat} : wpF k c f lv st σ b → xo (xpF k' c f lv st σ b) Q := by
  unfold wpF xpF
  rcases st with _ | ⟨v, _ | ⟨x | x | _ | q, r⟩⟩
  all_goals first | exact False.elim | skip
  dsimp only
  cases Nat.beq q.1 c
  · exact False.elim
  · dsimp only
    generalize xfk c f = z
    match z with
    | 0 =>
      rcases v with x | x | _ | w
      all_goals first | exact hk _ _ _ _ | exact False.elim
    | 1 =>
      rcases v with x | x | _ | w
      all_goals first | exact False.elim | exact fun h => xo_and h.1 (hk _ _ _ _ h.2)
    | 2 =>
      rcases v with x | x | _ | w
      all_goals exact False.elim
    | 3 =>
      rcases v with x | x | _ | w
      · exact False.elim
      · exact False.elim
      · cases Nat.beq c 2 <;> cases Nat.beq f 5
        all_goals first | exact hk _ _ _ _ | exact False.elim
      · cases Nat.beq c 2 <;> cases Nat.beq f 5 <;> cases hb : Nat.beq w.1 12 <;> simp only [hb]
        all_goals first | exact hk _ _ _ _ | exact False.elim
    | n + 4 =>
      rcases v with x | x | _ | w
      all_goals exact False.elim
theorem wgA_s (hk : ∀ lv st σ b, k lv st σ b → xo (k' lv st σ b) Q) {lv : XL} {st : List XV} {σ : XH} {b : Nat} : wgA X k lv st σ b → xo (xgA X k' lv st σ b) Q := by
  unfold wgA xgA
  rcases st with _ | ⟨x | x | x, _ | ⟨y | y | _ | q, r⟩⟩
  all_goals first | exact False.elim | skip
  obtain ⟨c0, j0⟩ := q
  dsimp only
  split
  all_goals first | exact fun h => xo_and h.1 (hk _ _ _ _ h.2) | exact False.elim
theorem wpA_s (hk : ∀ lv st σ b, k lv st σ b → xo (k' lv st σ b) Q) {lv : XL} {st : List XV} {σ : XH} {b : Nat} : wpA k lv st σ b → xo (xpA k' lv st σ b) Q := by
  unfold wpA xpA
  rcases st with _ | ⟨x | x | x, _ | ⟨y | y | y, _ | ⟨z | z | _ | q, r⟩⟩⟩
  all_goals first | exact False.elim | skip
  obtain ⟨c0, j0⟩ := q
  dsimp only
  split
  all_goals first | exact fun h => xo_and h.1 (hk _ _ _ _ h.2) | exact False.elim
theorem wgRA_s (hk : ∀ lv st σ b, k lv st σ b → xo (k' lv st σ b) Q) {lv : XL} {st : List XV} {σ : XH} {b : Nat} : wgRA k lv st σ b → xo (xgRA k' lv st σ b) Q := by
  unfold wgRA xgRA
  rcases st with _ | ⟨x | x | x, _ | ⟨y | y | _ | q, r⟩⟩
  all_goals first | exact False.elim | skip
  obtain ⟨c0, j0⟩ := q
  dsimp only
  split
  all_goals first | exact fun h => xo_and h.1 (hk _ _ _ _ h.2) | exact False.elim
theorem wgLen_s (hk : ∀ lv st σ b, k lv st σ b → xo (k' lv st σ b) Q) {lv : XL} {st : List XV} {σ : XH} {b : Nat} : wgLen X k lv st σ b → xo (xgLen X k' lv st σ b) Q := by
  unfold wgLen xgLen
  rcases st with _ | ⟨x | x | _ | q, r⟩
  all_goals first | exact False.elim | skip
  obtain ⟨c0, j0⟩ := q
  dsimp only
  split
  all_goals first | exact hk _ _ _ _ | exact False.elim
theorem wCall_s (hk : ∀ lv st σ b, k lv st σ b → xo (k' lv st σ b) Q) (hj : ∀ t lv st σ b, j t lv st σ b → xo (j' t lv st σ b) Q) {pc a : Nat} {lv : XL} {st : List XV} {σ : XH} {b : Nat} : wCall cl hd Q k j pc a lv st σ b → xo (xCall cl hd k' j' pc a lv st σ b) Q := by
  unfold wCall xCall
  rcases cl a with _ | ⟨n, κ, f⟩
  · exact False.elim
  · dsimp only
    cases Nat.ble n st.length <;> cases Nat.ble (xws (st.drop n)) 8 <;> cases Nat.ble κ b
    all_goals first | exact False.elim | skip
    dsimp only
    rintro ⟨⟨r, σ'⟩, h1, h2⟩
    rw [h1]
    rcases r with (_ | v) | E
    · exact hk _ _ _ _ h2
    · exact hk _ _ _ _ h2
    · dsimp only
      unfold wCk at h2
      dsimp only at h2
      revert h2
      rcases hd pc E with _ | _ | ⟨t, i⟩
      · exact False.elim
      · exact fun h3 => ⟨_, rfl, h3⟩
      · exact fun h3 => hj _ _ _ _ _ h3
theorem wSw_s {Q : XO → Prop} {g : Nat → Prop} {g' : Nat → Option XO} (hg : ∀ t, g t → xo (g' t) Q) {d : Nat} {x : Int32} : ∀ {sw : List (Int32 × Nat)}, wSw g d x sw → xo (xSw g' d x sw) Q
  | [], h => hg _ h
  | (v, t) :: r, h => by
    unfold xSw
    exact xo_if (fun h0 => hg _ (h.1 h0)) (fun h0 => wSw_s hg (h.2 h0))
theorem wRet_s {lv : XL} {st : List XV} {σ : XH} : wRet rt Q lv st σ → xo (xRet rt lv st σ) Q := by
  unfold wRet xRet
  rcases rt with _ | _ | n
  all_goals (rcases st with _ | ⟨x | x | x, _ | ⟨y, r⟩⟩)
  all_goals first | exact False.elim | exact fun h => ⟨_, rfl, h⟩ | exact fun h => xo_and h.1 ⟨_, rfl, h.2⟩
theorem wRetL_s {st : List XV} {σ : XH} : wRetL rt Q st σ → xo (xRetL rt st σ) Q := by
  unfold wRetL xRetL
  split
  · exact fun h => ⟨_, rfl, h⟩
  · exact False.elim
theorem wRetA_s {st : List XV} {σ : XH} : wRetA rt Q st σ → xo (xRetA rt st σ) Q := by
  unfold wRetA xRetA
  split
  · exact fun h => ⟨_, rfl, h⟩
  · exact False.elim
theorem wRetV_s {st : List XV} {σ : XH} : wRetV rt Q st σ → xo (xRetV rt st σ) Q := by
  unfold wRetV xRetV
  split
  · exact fun h => ⟨_, rfl, h⟩
  · exact False.elim
theorem wNew_s {E : Nat} {st : List XV} {σ : XH} {b : Nat} : wNew Q E st σ b → xo (xNew E st σ b) Q := by
  unfold wNew xNew
  split
  · exact fun h => ⟨_, rfl, h⟩
  · exact False.elim
theorem wAC_s (hk : ∀ lv st σ b, k lv st σ b → xo (k' lv st σ b) Q) {lv : XL} {st : List XV} {σ : XH} {b : Nat} : wAC k lv st σ b → xo (xAC k' lv st σ b) Q := by
  unfold wAC xAC
  rcases st with _ | ⟨n | n | n, _ | ⟨dp | dp | dp, _ | ⟨x | x | _ | ⟨c1, j1⟩, _ | ⟨sp | sp | sp, _ | ⟨y | y | _ | ⟨c0, j0⟩, r⟩⟩⟩⟩⟩
  all_goals first | exact False.elim | skip
  dsimp only
  split
  · exact fun h => xo_and h.1 (hk _ _ _ _ h.2)
  · exact False.elim
set_option maxHeartbeats 4000000 in
theorem wOp_s (hk : ∀ lv st σ b, k lv st σ b → xo (k' lv st σ b) Q) (hj : ∀ t lv st σ b, j t lv st σ b → xo (j' t lv st σ b) Q) {e : XE} {lv : XL} {st : List XV} {σ : XH} {b : Nat} : wOp X cl hd rt Q k j e lv st σ b → xo (xOp X cl hd rt k' j' e lv st σ b) Q := by
  obtain ⟨pc, ins, ln, a, bb, sw⟩ := e
  cases ins
  all_goals first
    | exact False.elim
    | exact hk _ _ _ _
    | exact hj _ _ _ _ _
    | exact wkI_s hk
    | exact wkL_s hk
    | exact wkA_s hk
    | exact wsI_s hk
    | exact wsL_s hk
    | exact wsA_s hk
    | exact wbI_s hk
    | exact wbD_s hk
    | exact wbL_s hk
    | exact wc2_s hk hj
    | exact wc1_s hk hj
    | exact wgF_s hk
    | exact wpF_s hk
    | exact wgA_s hk
    | exact wpA_s hk
    | exact wgRA_s hk
    | exact wgLen_s hk
    | exact wCall_s hk hj
    | exact wRet_s (rt := rt) (Q := Q) (lv := lv) (st := st) (σ := σ)
    | exact wRetL_s
    | exact wRetA_s
    | exact wRetV_s
    | exact wNew_s
    | (rcases st with _ | ⟨x | x | _ | q, r⟩ <;> first | exact hk _ _ _ _ | exact hj _ _ _ _ _ | exact False.elim | exact wSw_s (fun t => hj t _ _ _ _))
    | (rcases st with _ | ⟨x | x | x, _ | ⟨y | y | y, r⟩⟩ <;> first | exact hk _ _ _ _ | exact False.elim)
    | (rcases sw with _ | ⟨⟨v, t⟩, r⟩ <;> first | exact hk _ _ _ _ | exact False.elim)
    | (rcases bb with _ | n <;> first | exact wCall_s hk hj | exact wAC_s hk)
    | (unfold wOp xOp; dsimp only; rcases xlg lv _ with _ | x | x | x <;> first | exact hk _ _ _ _ | exact False.elim)
def wStopOut (Q : XO → Prop) (q : Nat × List Nat) (lv : XL) (st : List XV) (σ : XH) (b : Nat) : Prop := match st with
  | [] => match xpick lv q.2 with
    | none => False
    | some lv' => Q (.inr (q.1, lv', σ, b))
  | _ :: _ => False
theorem wStopOut_s {q : Nat × List Nat} {lv : XL} {st : List XV} {σ : XH} {b : Nat} : wStopOut Q q lv st σ b → xo (xStopOut q lv st σ b) Q := by
  unfold wStopOut xStopOut
  rcases st with _ | ⟨v, r⟩
  · dsimp only
    rcases xpick lv q.2 with _ | lv'
    · exact False.elim
    · exact fun h => ⟨_, rfl, h⟩
  · exact False.elim
end WOPS
section WEX
variable (X : Nat × (Nat → Int32)) (cl : XC) (hd : Nat → Nat → Option (Option (Nat × Nat))) (rt : Nat) (stops : List (Nat × List Nat)) (tbl : List XE) (Q : XO → Prop)
def wExec : Nat → List XE → XL → List XV → XH → Nat → Prop
  | 0, _, _, _, _, _ => False
  | _ + 1, [], _, _, _, _ => False
  | n + 1, e :: r, lv, st, σ, b => wOp X cl hd rt Q
      (fun lv st σ b => match xStopAt stops r with
        | none => wExec n r lv st σ b
        | some q => wStopOut Q q lv st σ b)
      (fun t lv st σ b => match xStopAt stops (xPc tbl t) with
        | none => wExec n (xPc tbl t) lv st σ b
        | some q => wStopOut Q q lv st σ b) e lv st σ b
end WEX
theorem wExec_s {X : Nat × (Nat → Int32)} {cl : XC} {hd : Nat → Nat → Option (Option (Nat × Nat))} {rt : Nat} {stops : List (Nat × List Nat)} {tbl : List XE} {Q : XO → Prop} : ∀ (n : Nat) {cur : List XE} {lv : XL} {st : List XV} {σ : XH} {b : Nat}, wExec X cl hd rt stops tbl Q n cur lv st σ b → xo (xExec X cl hd rt stops tbl n cur lv st σ b) Q
  | 0, _, _, _, _, _, h => h.elim
  | _ + 1, [], _, _, _, _, h => h.elim
  | n + 1, e :: r, lv, st, σ, b, h => by
    unfold wExec at h
    unfold xExec
    refine wOp_s (fun lv st σ b h => ?_) (fun t lv st σ b h => ?_) h
    · cases hs : xStopAt stops r with
      | none => rw [hs] at h; exact wExec_s n h
      | some q => rw [hs] at h; exact wStopOut_s h
    · cases hs : xStopAt stops (xPc tbl t) with
      | none => rw [hs] at h; exact wExec_s n h
      | some q => rw [hs] at h; exact wStopOut_s h
/-- from a stop: to the next, or to the end -/
def wQ (X : Nat × (Nat → Int32)) (cl : XC) (hd : Nat → Nat → Option (Option (Nat × Nat))) (rt : Nat) (stops : List (Nat × List Nat)) (tbl : List XE) (N : Nat) (R : XR × XH → Prop) (o : XO) : Prop := match o with
  | .inl r => R r
  | .inr s => wF (xIter X cl hd rt stops tbl N s) R
theorem wI_s {X : Nat × (Nat → Int32)} {cl : XC} {hd : Nat → Nat → Option (Option (Nat × Nat))} {rt : Nat} {stops : List (Nat × List Nat)} {tbl : List XE} {N pc : Nat} {lv : XL} {σ : XH} {b : Nat} {R : XR × XH → Prop} (h : wExec X cl hd rt stops tbl (wQ X cl hd rt stops tbl N R) 1000 (xPc tbl pc) lv [] σ b) : wF (xIter X cl hd rt stops tbl (N + 1) (pc, lv, σ, b)) R := by
  obtain ⟨out, h1, h2⟩ := wExec_s 1000 h
  unfold xIter
  dsimp only
  rw [h1]
  rcases out with r | s
  · exact ⟨r, rfl, h2⟩
  · exact h2
theorem wF_eq {o : Option (XR × XH)} {r : XR × XH} (h : wF o (fun q => q = r)) : o = some r := by
  obtain ⟨q, h1, h2⟩ := h
  rw [h1, h2]
theorem wF_of {o : Option (XR × XH)} {r : XR × XH} {R : XR × XH → Prop} (h : o = some r) (hR : R r) : wF o R := ⟨r, h, hR⟩
theorem wF_mono {o : Option (XR × XH)} {R R' : XR × XH → Prop} (h : wF o R) (hR : ∀ r, R r → R' r) : wF o R' := by
  obtain ⟨r, h1, h2⟩ := h
  exact ⟨r, h1, hR r h2⟩
