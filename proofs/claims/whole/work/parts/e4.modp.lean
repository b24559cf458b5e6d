/-! the number of PLACES: floorMod in the class, two remainders in the reference -/
theorem xor6 (x : Int32) : (0 ≤ x ^^^ 6) ↔ 0 ≤ x := by
  have h : (x ^^^ 6).toBitVec.msb = x.toBitVec.msb := by
    rw [Int32.toBitVec_xor, BitVec.msb_xor, show (6 : Int32).toBitVec.msb = false by decide, Bool.xor_false]
  rw [BitVec.msb_eq_toInt, BitVec.msb_eq_toInt] at h
  have h9 := decide_eq_decide.mp h
  rw [Int32.le_iff_toInt_le, Int32.le_iff_toInt_le]
  have h0 : (0 : Int32).toInt = 0 := rfl
  rw [h0]
  have e1 : (x ^^^ 6).toBitVec.toInt = (x ^^^ 6).toInt := rfl
  have e2 : x.toBitVec.toInt = x.toInt := rfl
  rw [e1, e2] at h9
  omega
theorem bm32 {z : Int} (h1 : -2147483648 ≤ z) (h2 : z < 2147483648) : z.bmod (2 ^ 32) = z := by
  unfold Int.bmod
  simp only [Int.reduceToNat, Nat.reducePow, Int.cast_ofNat_Int]
  split <;> omega
theorem td6 (X : Int) : ∃ q, X.tdiv 6 = q ∧ (0 ≤ X ∧ q = X / 6 ∨ X < 0 ∧ q = -((-X) / 6)) := by
  by_cases h : 0 ≤ X
  · exact ⟨X / 6, Int.tdiv_eq_ediv_of_nonneg h, Or.inl ⟨h, rfl⟩⟩
  · refine ⟨-((-X) / 6), ?_, Or.inr ⟨by omega, rfl⟩⟩
    have e := Int.neg_tdiv (-X) 6
    rw [Int.neg_neg] at e
    rw [e, Int.tdiv_eq_ediv_of_nonneg (by omega)]
theorem rem6 (x : Int32) : ∃ q : Int, (x - x / 6 * 6).toInt = x.toInt - q * 6 ∧ (0 ≤ x.toInt ∧ q = x.toInt / 6 ∨ x.toInt < 0 ∧ q = -((-x.toInt) / 6)) := by
  have r1 : -2147483648 ≤ x.toInt := Int32.le_toInt x
  have r2 : x.toInt < 2147483648 := Int32.toInt_lt x
  obtain ⟨q, e, hq⟩ := td6 x.toInt
  refine ⟨q, ?_, hq⟩
  have e6 : (6 : Int32).toInt = 6 := rfl
  have d1 : (x / 6).toInt = q := by
    rw [Int32.toInt_div, e6, e]
    exact bm32 (by omega) (by omega)
  have d2 : (x / 6 * 6).toInt = q * 6 := by
    rw [Int32.toInt_mul, d1, e6]
    exact bm32 (by omega) (by omega)
  rw [Int32.toInt_sub, d2]
  exact bm32 (by omega) (by omega)
theorem mod6 (x : Int32) : ∃ p : Nat, 3 ≤ p ∧ p ≤ 8 ∧ (3 : Int32) + fmJ x 6 = nI p ∧ (3 : Int32) + (((x - x / 6 * 6) + 6) - ((x - x / 6 * 6) + 6) / 6 * 6) = nI p := by
  obtain ⟨q, e, hq⟩ := rem6 x
  have hx : (0 ≤ x ^^^ 6) ↔ 0 ≤ x.toInt := by
    rw [xor6, Int32.le_iff_toInt_le]
    exact Iff.rfl
  unfold fmJ
  generalize x - x / 6 * 6 = r at e ⊢
  have er : r = Int32.ofInt r.toInt := (Int32.ofInt_toInt r).symm
  by_cases h : 0 ≤ x ^^^ 6
  · rw [if_pos h]
    have h0 := hx.mp h
    obtain z | z | z | z | z | z : r.toInt = 0 ∨ r.toInt = 1 ∨ r.toInt = 2 ∨ r.toInt = 3 ∨ r.toInt = 4 ∨ r.toInt = 5 := by omega
    · rw [z] at er
      subst er
      exact ⟨3, by decide, by decide, by decide, by decide⟩
    · rw [z] at er
      subst er
      exact ⟨4, by decide, by decide, by decide, by decide⟩
    · rw [z] at er
      subst er
      exact ⟨5, by decide, by decide, by decide, by decide⟩
    · rw [z] at er
      subst er
      exact ⟨6, by decide, by decide, by decide, by decide⟩
    · rw [z] at er
      subst er
      exact ⟨7, by decide, by decide, by decide, by decide⟩
    · rw [z] at er
      subst er
      exact ⟨8, by decide, by decide, by decide, by decide⟩
  · rw [if_neg h]
    have h0 : ¬ 0 ≤ x.toInt := fun z => h (hx.mpr z)
    obtain z | z | z | z | z | z : r.toInt = 0 ∨ r.toInt = -1 ∨ r.toInt = -2 ∨ r.toInt = -3 ∨ r.toInt = -4 ∨ r.toInt = -5 := by omega
    · rw [z] at er
      subst er
      exact ⟨3, by decide, by decide, by decide, by decide⟩
    · rw [z] at er
      subst er
      exact ⟨8, by decide, by decide, by decide, by decide⟩
    · rw [z] at er
      subst er
      exact ⟨7, by decide, by decide, by decide, by decide⟩
    · rw [z] at er
      subst er
      exact ⟨6, by decide, by decide, by decide, by decide⟩
    · rw [z] at er
      subst er
      exact ⟨5, by decide, by decide, by decide, by decide⟩
    · rw [z] at er
      subst er
      exact ⟨4, by decide, by decide, by decide, by decide⟩
