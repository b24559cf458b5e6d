/-! comparisons decided by what is known -/
theorem n_leT {a b : Nat} (h : a ≤ b) : (a ≤ b) = True := eq_true h
theorem n_leF {a b : Nat} (h : b < a) : (a ≤ b) = False := eq_false (by omega)
theorem n_ltT {a b : Nat} (h : a < b) : (a < b) = True := eq_true h
theorem n_ltF {a b : Nat} (h : b ≤ a) : (a < b) = False := eq_false (by omega)
theorem n_eqT {a b : Nat} (h : a = b) : (a = b) = True := eq_true h
theorem n_eqF {a b : Nat} (h : a ≠ b) : (a = b) = False := eq_false h
/-- an int is a number, or one below 0 -/
theorem i32c (x : Int32) : (∃ n, n < 2 ^ 31 ∧ x = nI n) ∨ (∃ n, 0 < n ∧ n ≤ 2 ^ 31 ∧ x = mI n) := by
  by_cases h : x < 0
  · right
    have h1 : x.toInt < 0 := by
      rw [Int32.lt_iff_toInt_lt] at h
      exact h
    have h2 := Int32.le_toInt x
    refine ⟨(-x.toInt).toNat, by omega, by omega, ?_⟩
    apply Int32.toInt_inj.mp
    rw [mI_toInt (by omega)]
    omega
  · left
    exact nI_of h
