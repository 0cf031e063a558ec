/-! ===== pure words of the class (out of the proof of whole, by wip/p28/gen/prune.py) ===== -/
theorem aix {p m : Nat} (k : Int32) (c : Nat) (hk : k = oN c) (h : p + c < m) (hm : m ≤ 1000) : 0 ≤ oN p + k ∧ (oN p + k).toNatClampNeg < m := by
  rw [hk, oN_add, oN_nat (by omega)]
  exact ⟨oN_nn (by omega), h⟩
theorem aixn {p : Nat} (k : Int32) (c : Nat) (hk : k = oN c) (h : p + c < 1000) : (oN p + k).toNatClampNeg = p + c := by
  rw [hk, oN_add, oN_nat (by omega)]
/-- what a tick does for one valve behind the moves -/
def bodT (t : TS) (v : Nat) (a c : Int32) : TS :=
  (updF (updF t.1 9 (oN (ledL t.2.2.2 (entN t) (oN v) (t.1 5 / 100) a c (lkV (vT t v))).2)) 8 (t.1 8 + lkV (vT t v)), t.2.1, t.2.2.1, (ledL t.2.2.2 (entN t) (oN v) (t.1 5 / 100) a c (lkV (vT t v))).1)
def volT (t : TS) : TS := (updF (updF t.1 6 (t.1 6 + bothT t)) 7 (t.1 7 + abI (bothT t - idealT t (t.1 0))), t.2)
theorem updF_7 {g : Nat → Int32} {a b c d e f k : Int32} : updF (updF (updF (updF (updF (updF (updF g 6 a) 7 b) 9 c) 8 d) 9 e) 8 f) 5 k = updF (updF (updF (updF (updF g 6 a) 7 b) 8 f) 9 e) 5 k := by
  funext i
  unfold updF
  grind
/-- bodT, with the number of entries aside -/
def bodN (t : TS) (n v : Nat) (a c : Int32) : TS :=
  (updF (updF t.1 9 (oN (ledL t.2.2.2 n (oN v) (t.1 5 / 100) a c (lkV (vT t v))).2)) 8 (t.1 8 + lkV (vT t v)), t.2.1, t.2.2.1, (ledL t.2.2.2 n (oN v) (t.1 5 / 100) a c (lkV (vT t v))).1)
theorem tick_eq {u : TS} (h : okT u) (a b c d : Int32) : (updF (bodT (bodT (volT u) 0 (abI a) c) 1 (abI b) d).1 5 ((bodT (bodT (volT u) 0 (abI a) c) 1 (abI b) d).1 5 + 1), (bodT (bodT (volT u) 0 (abI a) c) 1 (abI b) d).2) = endT u a b c d := by
  have hn := (okT_n h).2
  have g1 := ledL_rng (L := u.2.2.2) (v := 0) (d := u.1 5 / 100) (a := abI a) (b := c) (c := lkV u.2.1) hn
  have e : entN (bodT (volT u) 0 (abI a) c) = (ledL u.2.2.2 (entN u) 0 (u.1 5 / 100) (abI a) c (lkV u.2.1)).2 := oN_nat (Nat.lt_of_le_of_lt g1 (by decide))
  have e2 : bodT (bodT (volT u) 0 (abI a) c) 1 (abI b) d = bodN (bodT (volT u) 0 (abI a) c) (entN (bodT (volT u) 0 (abI a) c)) 1 (abI b) d := rfl
  rw [e] at e2
  rw [e2]
  refine Prod.ext ?_ rfl
  exact updF_7 (g := u.1) (a := u.1 6 + bothT u) (b := u.1 7 + abI (bothT u - idealT u (u.1 0))) (c := oN (ledL u.2.2.2 (entN u) 0 (u.1 5 / 100) (abI a) c (lkV u.2.1)).2) (d := u.1 8 + lkV u.2.1) (e := oN (ledL (ledL u.2.2.2 (entN u) 0 (u.1 5 / 100) (abI a) c (lkV u.2.1)).1 (ledL u.2.2.2 (entN u) 0 (u.1 5 / 100) (abI a) c (lkV u.2.1)).2 1 (u.1 5 / 100) (abI b) d (lkV u.2.2.1)).2) (f := u.1 8 + lkV u.2.1 + lkV u.2.2.1) (k := u.1 5 + 1)
