/-! ===== pure words of the class (out of the proof of whole, by wip/p28/gen/prune.py) ===== -/
theorem oN_of {e : Int32} (h : 0 ≤ e) : e = oN e.toNatClampNeg ∧ e.toNatClampNeg < 2 ^ 31 := by
  have h0 : (0 : Int32).toInt = 0 := rfl
  have h1 := Int32.le_iff_toInt_le.mp h
  have h2 := Int32.toInt_lt e
  rw [h0] at h1
  have h3 : e.toNatClampNeg < 2 ^ 31 := by
    show e.toInt.toNat < 2 ^ 31
    omega
  refine ⟨Int32.toInt_inj.mp ?_, h3⟩
  rw [oN_toInt h3]
  show e.toInt = (e.toInt.toNat : Int)
  omega
