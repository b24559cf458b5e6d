/-! pure rows: reading the decompiled functions -/
theorem rc_lit {ci k : Nat} (h : sh k = some (.inl ci)) : rc ci (some k) = some k := by
  show (if sh k = some (.inl ci) then some k else none) = _
  rw [if_pos h]
theorem fI_lit {ci k i : Nat} {M : Mem} (h : sh k = some (.inl ci)) : fI ci M (some k) i = some (M.1 k i) := by
  unfold fI
  rw [rc_lit h]
  rfl
theorem fR_lit {ci k i : Nat} {M : Mem} (h : sh k = some (.inl ci)) : fR ci M (some k) i = some (M.2 k i) := by
  unfold fR
  rw [rc_lit h]
  rfl
theorem pI_lit {ci k i : Nat} {M : Mem} {x : Int32} (h : sh k = some (.inl ci)) : pI ci M (some k) i x = some (up2 M.1 k i x, M.2) := by
  unfold pI
  rw [rc_lit h]
  rfl
theorem pR_lit {ci k i : Nat} {M : Mem} {x : Option Nat} (h : sh k = some (.inl ci)) : pR ci M (some k) i x = some (M.1, up2 M.2 k i x) := by
  unfold pR
  rw [rc_lit h]
  rfl
theorem ac_lit {t k n : Nat} {i : Int32} (h : sh k = some (.inr (t, n))) (hi : vp_in i n) : ac t (some k) i = some (k, i.toNatClampNeg) := by
  unfold ac
  simp only [h]
  rw [if_pos ⟨trivial, hi⟩]
theorem aI_lit {t k n : Nat} {M : Mem} {i : Int32} (h : sh k = some (.inr (t, n))) (hi : vp_in i n) : aI t M (some k) i = some (M.1 k i.toNatClampNeg) := by
  unfold aI
  rw [ac_lit h hi]
  rfl
theorem aR_lit {t k n : Nat} {M : Mem} {i : Int32} (h : sh k = some (.inr (t, n))) (hi : vp_in i n) : aR t M (some k) i = some (M.2 k i.toNatClampNeg) := by
  unfold aR
  rw [ac_lit h hi]
  rfl
theorem sI_lit {t k n : Nat} {M : Mem} {i x : Int32} (h : sh k = some (.inr (t, n))) (hi : vp_in i n) : sI t M (some k) i x = some (up2 M.1 k i.toNatClampNeg (narA t x), M.2) := by
  unfold sI
  rw [ac_lit h hi]
  rfl
/-- 1 or 0 -/
def b01 (c : Prop) [Decidable c] : Int32 := if c then 1 else 0
/-- Plan.has -/
theorem u_has {FU k : Nat} {x : Int32} {M : Mem} (hk : sh k = some (.inl 3)) : fX3_has FU k x M = some (b01 (0 ≤ x ∧ x < M.1 k 0), M) := by
  unfold fX3_has b01
  by_cases h1 : x < 0
  · rw [if_pos h1, if_neg (fun h => absurd h.1 (Int32.not_le.mpr h1))]
  · rw [if_neg h1, fI_lit hk]
    simp only [Option.bind_some]
    by_cases h2 : M.1 k 0 ≤ x
    · rw [if_pos h2, if_neg (fun h => absurd h.2 (Int32.not_lt.mpr h2))]
    · rw [if_neg h2, if_pos ⟨Int32.not_lt.mp h1, Int32.not_le.mp h2⟩]
/-- the reference's in -/
theorem u_in {FU k : Nat} {v a b : Int32} {M : Mem} : fX9_in FU k v a b M = some (b01 (a ≤ v ∧ v ≤ b), M) := by
  unfold fX9_in b01
  by_cases h1 : v < a
  · rw [if_pos h1, if_neg (fun h => absurd h.1 (Int32.not_le.mpr h1))]
  · rw [if_neg h1]
    by_cases h2 : b < v
    · rw [if_pos h2, if_neg (fun h => absurd h.2 (Int32.not_le.mpr h2))]
    · rw [if_neg h2, if_pos ⟨Int32.not_lt.mp h1, Int32.not_lt.mp h2⟩]

theorem b01_01 {c : Prop} [Decidable c] : b01 c = 0 ∨ b01 c = 1 := by
  unfold b01
  by_cases h : c
  · rw [if_pos h]; exact Or.inr rfl
  · rw [if_neg h]; exact Or.inl rfl
theorem b01_0 {c : Prop} [Decidable c] : b01 c = 0 ↔ ¬ c := by
  unfold b01
  by_cases h : c
  · rw [if_pos h]; exact ⟨fun e => absurd e (by decide), fun e => absurd h e⟩
  · rw [if_neg h]; exact ⟨fun _ => h, fun _ => rfl⟩
/-- the reference's isPlace -/
theorem u_isPlace {FU k : Nat} {x : Int32} {M : Mem} (hk : sh k = some (.inl 9)) : fX9_isPlace FU k x M = some (b01 (0 ≤ x ∧ x ≤ M.1 k 0 - 1), M) := by
  unfold fX9_isPlace
  rw [fI_lit hk, rc_lit hk]
  simp only [Option.bind_some]
  rw [u_in]
  show (if b01 _ = 0 ∨ b01 _ = 1 then some (b01 _, M) else none) = _
  rw [if_pos b01_01]
/-- WolfVillage.isSheet, the reference's isSheet -/
theorem u_isSheet {FU : Nat} {x : Int32} {M : Mem} : fX8_isSheet FU x M = some (b01 (0 ≤ x ∧ x ≤ 3), M) := by
  unfold fX8_isSheet b01
  by_cases h1 : x < 0
  · rw [if_pos h1, if_neg (fun h => absurd h.1 (Int32.not_le.mpr h1))]
  · rw [if_neg h1]
    have e : (4 : Int32) ≤ x ↔ ¬ x ≤ 3 := by
      rw [Int32.le_iff_toInt_le, Int32.le_iff_toInt_le]
      have a1 : (4 : Int32).toInt = 4 := by decide
      have a2 : (3 : Int32).toInt = 3 := by decide
      omega
    by_cases h2 : (4 : Int32) ≤ x
    · rw [if_pos h2, if_neg (fun h => e.mp h2 h.2)]
    · rw [if_neg h2, if_pos ⟨Int32.not_lt.mp h1, Classical.not_not.mp (fun h => h2 (e.mpr h))⟩]
theorem v_isSheet {FU k : Nat} {x : Int32} {M : Mem} (hk : sh k = some (.inl 9)) : fX9_isSheet FU k x M = some (b01 (0 ≤ x ∧ x ≤ 3), M) := by
  unfold fX9_isSheet
  rw [rc_lit hk]
  simp only [Option.bind_some]
  rw [u_in]
  show (if b01 _ = 0 ∨ b01 _ = 1 then some (b01 _, M) else none) = _
  rw [if_pos b01_01]
/-- where the class's parts lie: the references that never change -/
def RefC (M : Mem) : Prop := M.2 0 0 = some 1 ∧ M.2 0 1 = some 9 ∧ M.2 0 2 = some 17 ∧ M.2 0 3 = some 28 ∧ M.2 0 4 = some 31 ∧ M.2 0 5 = some 35 ∧ M.2 0 6 = some 38 ∧ M.2 0 7 = some 51
/-- force: the class's -/
theorem u_force {FU : Nat} {x : Int32} {M : Mem} (h : M.2 0 6 = some 38) : fX8_force FU 0 x M = if 0 ≤ x ∧ x < M.1 38 4 then some (M.1 38 5, (up2 M.1 38 5 x, M.2)) else some (-2, M) := by
  unfold fX8_force
  by_cases h1 : x < 0
  · rw [if_pos h1, if_neg (fun h => absurd h.1 (Int32.not_le.mpr h1))]
  · rw [if_neg h1, fR_lit rfl]
    simp only [Option.bind_some, h]
    rw [fI_lit rfl, fI_lit rfl, pI_lit rfl]
    simp only [Option.bind_some]
    by_cases h2 : x < M.1 38 4
    · rw [if_pos h2, if_pos ⟨Int32.not_lt.mp h1, h2⟩]
    · rw [if_neg h2, if_neg (fun h => h2 h.2)]
/-- force: the reference's -/
theorem v_force {FU : Nat} {x : Int32} {M : Mem} : fX9_force FU 60 x M = if 0 ≤ x ∧ x ≤ M.1 60 28 - 1 then some (M.1 60 29, (up2 M.1 60 29 x, M.2)) else some (-2, M) := by
  unfold fX9_force
  rw [fI_lit rfl, rc_lit rfl]
  simp only [Option.bind_some]
  rw [u_in]
  show (if ¬ b01 _ = 0 then _ else some ((-2 : Int32), M)) = _
  rw [fI_lit rfl, pI_lit rfl]
  simp only [Option.bind_some]
  by_cases h : 0 ≤ x ∧ x ≤ M.1 60 28 - 1
  · rw [if_pos (fun e => b01_0.mp e h), if_pos h]
  · rw [if_neg (fun e => e (b01_0.mpr h)), if_neg h]
