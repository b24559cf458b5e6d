/-! pure rows: the plan's change, tell -/
/-- the class's memory behind planChanged, the reference's behind changed -/
def pcM (M : Mem) : Mem := (up2 (up2 M.1 1 12 (M.1 1 12 + 1)) 35 0 0, M.2)
def chM (M : Mem) : Mem := (up2 (up2 (up2 M.1 60 9 0) 60 19 0) 60 15 0, M.2)
theorem u_planChanged {FU : Nat} {M : Mem} (h1 : M.2 0 0 = some 1) (h2 : M.2 0 5 = some 35) : fX8_planChanged FU 0 M = some (pcM M) := by
  unfold fX8_planChanged
  rw [fR_lit rfl]
  simp only [Option.bind_some, h1]
  rw [fI_lit rfl]
  simp only [Option.bind_some]
  rw [pI_lit rfl]
  simp only [Option.bind_some]
  rw [fR_lit rfl]
  simp only [Option.bind_some, h2]
  rw [pI_lit rfl]
  rfl
theorem v_changed {FU : Nat} {M : Mem} : fX9_changed FU 60 M = some (chM M) := by
  unfold fX9_changed
  rw [pI_lit rfl]
  simp only [Option.bind_some]
  rw [pI_lit rfl]
  simp only [Option.bind_some]
  rw [pI_lit rfl]
  rfl
theorem bd2_some {α β γ : Type} {a : α} {b : β} {f : α → β → Option γ} : bd2 (some (a, b)) f = f a b := rfl
/-- what tell asks for -/
def tellOk (x1 x2 : Int32) : Prop := (x1 = 0 ∧ (x2 = 1 ∨ x2 = 2)) ∨ (x1 = 1 ∧ 0 ≤ x2 ∧ x2 ≤ 3)
theorem v_tell0 {FU : Nat} {x : Int32} {M : Mem} : fX9_tell FU 60 0 x M = if 1 ≤ x ∧ x ≤ 2 then some (M.1 60 2, chM (up2 M.1 60 2 x, M.2)) else some (-2, M) := by
  unfold fX9_tell
  rw [rc_lit rfl]
  simp only [Option.bind_some]
  rw [u_in]
  rw [bd2_some, if_neg (by decide), if_neg (by decide)]
  unfold fX9_tell_b21
  rw [if_neg (by decide)]
  unfold fX9_tell_b30
  rw [rc_lit rfl]
  simp only [Option.bind_some]
  rw [u_in]
  rw [bd2_some]
  by_cases h : 1 ≤ x ∧ x ≤ 2
  · rw [if_pos (fun e => b01_0.mp e h), if_pos h, if_neg (by decide), fI_lit rfl]
    simp only [Option.bind_some]
    unfold fX9_tell_b54
    rw [if_neg (by decide), pI_lit rfl]
    simp only [Option.bind_some]
    unfold fX9_tell_b64
    rw [if_pos (by decide)]
    unfold fX9_tell_b74
    rw [rc_lit rfl]
    simp only [Option.bind_some]
    rw [v_changed]
    rfl
  · rw [if_neg (fun e => e (b01_0.mpr h)), if_neg h]

/-- tell: the class's -/
theorem u_tell69 {FU : Nat} {x : Int32} {M : Mem} (h1 : M.2 0 0 = some 1) (h2 : M.2 0 5 = some 35) : fX8_tell_b69 FU 0 x M = some (x, pcM M) := by
  unfold fX8_tell_b69
  rw [rc_lit rfl]
  simp only [Option.bind_some]
  rw [u_planChanged h1 h2]
  rfl
theorem u_tell14 {FU : Nat} {x : Int32} {M : Mem} (h1 : M.2 0 0 = some 1) (h2 : M.2 0 5 = some 35) : fX8_tell_b14 FU 0 x M = some (M.1 1 10, pcM (up2 M.1 1 10 x, M.2)) := by
  unfold fX8_tell_b14
  rw [fR_lit rfl]
  simp only [Option.bind_some, h1]
  rw [fI_lit rfl, pI_lit rfl]
  simp only [Option.bind_some]
  exact u_tell69 (M := (up2 M.1 1 10 x, M.2)) h1 h2
theorem u_tell33 {FU : Nat} {x y : Int32} {M : Mem} (h1 : M.2 0 0 = some 1) (h2 : M.2 0 5 = some 35) : fX8_tell_b33 FU 0 y x M = if y = 1 ∧ 0 ≤ x ∧ x ≤ 3 then some (M.1 1 11, pcM (up2 M.1 1 11 x, M.2)) else some (-2, M) := by
  unfold fX8_tell_b33
  by_cases a1 : y = 1
  · rw [if_neg (fun h => h a1)]
    by_cases a2 : x < 0
    · rw [if_pos a2, if_neg (fun h => absurd h.2.1 (Int32.not_le.mpr a2))]
    · rw [if_neg a2]
      by_cases a3 : (3 : Int32) < x
      · rw [if_pos a3, if_neg (fun h => absurd h.2.2 (Int32.not_le.mpr a3))]
      · rw [if_neg a3, if_pos ⟨a1, Int32.not_lt.mp a2, Int32.not_lt.mp a3⟩, fR_lit rfl]
        simp only [Option.bind_some, h1]
        rw [fI_lit rfl, pI_lit rfl]
        simp only [Option.bind_some]
        exact u_tell69 (M := (up2 M.1 1 11 x, M.2)) h1 h2
  · rw [if_pos a1, if_neg (fun h => a1 h.1)]
