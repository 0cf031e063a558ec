/-! ===== pure words of the class (out of the proof of whole, by wip/p28/gen/prune.py) ===== -/
def oN (n : Nat) : Int32 := Int32.ofNat n
theorem oN_add (a b : Nat) : oN a + oN b = oN (a + b) := (Int32.ofNat_add a b).symm
theorem oN_mul (a b : Nat) : oN a * oN b = oN (a * b) := (Int32.ofNat_mul a b).symm
theorem oN_toInt {n : Nat} (h : n < 2 ^ 31) : (oN n).toInt = n := Int32.toInt_ofNat_of_lt h
theorem oN_nat {n : Nat} (h : n < 2 ^ 31) : (oN n).toNatClampNeg = n := by
  show (oN n).toInt.toNat = n
  rw [oN_toInt h]
  rfl
theorem oN_le {a b : Nat} (ha : a < 2 ^ 31) (hb : b < 2 ^ 31) : oN a ≤ oN b ↔ a ≤ b := by
  rw [Int32.le_iff_toInt_le, oN_toInt ha, oN_toInt hb]
  omega
theorem oN_lt {a b : Nat} (ha : a < 2 ^ 31) (hb : b < 2 ^ 31) : oN a < oN b ↔ a < b := by
  rw [Int32.lt_iff_toInt_lt, oN_toInt ha, oN_toInt hb]
  omega
theorem oN_nn {n : Nat} (h : n < 2 ^ 31) : (0 : Int32) ≤ oN n := (oN_le (a := 0) (by decide) h).mpr (Nat.zero_le _)
theorem i5k {k : Nat} : (42 : Int32) + 5 * oN k = oN (42 + 5 * k) := by
  show oN 42 + oN 5 * oN k = _
  rw [oN_mul, oN_add]
theorem oN_1 {k : Nat} : oN k + 1 = oN (k + 1) := oN_add k 1
/-- the first row from k on, of m rows, with the valve v and the day d -/
def fndL (L : Nat → Int32) (v d : Int32) : Nat → Nat → Option Nat
  | _, 0 => none
  | k, m + 1 => if L (5 * k) = v ∧ L (5 * k + 1) = d then some k else fndL L v d (k + 1) m
