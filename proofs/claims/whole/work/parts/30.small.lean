/-! small numbers -/
theorem i32_pred {s : Int32} (h0 : 0 ≤ s.toInt) (h1 : s.toInt ≤ 100000) : (s - 1).toInt = s.toInt - 1 := by
  rw [Int32.toInt_sub]
  show (s.toInt - 1).bmod (2 ^ 32) = _
  rw [Int.bmod_eq_of_le (by omega) (by omega)]
/-- 'below the size' and 'at most the size less one' are one test -/
theorem i32_below {s : Int32} (h0 : 0 ≤ s.toInt) (h1 : s.toInt ≤ 100000) (x : Int32) : (0 ≤ x ∧ x < s) ↔ (0 ≤ x ∧ x ≤ s - 1) := by
  rw [Int32.lt_iff_toInt_lt, Int32.le_iff_toInt_le (x := x), i32_pred h0 h1]
  constructor
  · rintro ⟨a, b⟩
    exact ⟨a, by omega⟩
  · rintro ⟨a, b⟩
    exact ⟨a, by omega⟩
theorem i32_below16 (x : Int32) : (0 ≤ x ∧ x < 16) ↔ (0 ≤ x ∧ x ≤ 15) := i32_below (s := 16) (by decide) (by decide) x
/-- a number that is not below 0, as an index -/
theorem i32_idx {x : Int32} (h : 0 ≤ x) : (x.toNatClampNeg : Int) = x.toInt ∧ ¬ x < 0 := by
  have h2 := Int32.le_iff_toInt_le.mp h
  have h3 : (0 : Int32).toInt = 0 := rfl
  refine ⟨?_, Int32.not_lt.mpr h⟩
  show ((x.toInt.toNat : Nat) : Int) = x.toInt
  omega
