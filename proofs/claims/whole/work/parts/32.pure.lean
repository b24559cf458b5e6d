/-! pure rows: a sheet becomes new (the first loop) -/
/-- memory M with the places j .. 39 of cell c all 0 -/
def zf (M : Mem) (c j : Nat) : Mem := (va_up M.1 c (fun i => if j ≤ i ∧ i < 40 then 0 else M.1 c i), M.2)
theorem zf_step {M : Mem} {c j : Nat} (hj : j < 40) : zf (up2 M.1 c j 0, M.2) c (j + 1) = zf M c j := by
  unfold zf
  refine Prod.ext ?_ rfl
  funext k i
  show va_up (up2 M.1 c j 0) c (fun i => if j + 1 ≤ i ∧ i < 40 then 0 else up2 M.1 c j 0 c i) k i = va_up M.1 c (fun i => if j ≤ i ∧ i < 40 then 0 else M.1 c i) k i
  by_cases hk : k = c
  · subst hk
    simp only [up2_eq, va_up, if_true]
    by_cases h1 : i = j
    · subst h1
      rw [if_neg (by omega), if_pos rfl, if_pos (by omega)]
    · by_cases h2 : j ≤ i ∧ i < 40
      · rw [if_pos (by omega), if_pos h2]
      · rw [if_neg (by omega), if_neg h1, if_neg h2]
  · simp only [va_up, if_neg hk, up2_ne hk]
theorem zf_end {M : Mem} {c : Nat} : zf M c 40 = M := by
  unfold zf
  refine Prod.ext ?_ rfl
  funext k i
  show va_up M.1 c (fun i => if 40 ≤ i ∧ i < 40 then 0 else M.1 c i) k i = M.1 k i
  by_cases hk : k = c
  · subst hk
    simp only [va_up, if_true]
    rw [if_neg (by omega)]
  · simp only [va_up, if_neg hk]
theorem u_becomeL {FU x0 c : Nat} (hx : sh x0 = some (.inl 5)) (hc : sh c = some (.inr (0, 40))) : ∀ (n j F : Nat) (M : Mem), n + j = 40 → n < F → M.2 x0 2 = some c → fX5_become_L21 FU x0 F (nI j) M = some (zf M c j) := by
  intro n
  induction n with
  | zero =>
    intro j F M hn hF hM
    obtain ⟨F, rfl⟩ : ∃ G, F = G + 1 := ⟨F - 1, by omega⟩
    have hj : j = 40 := by omega
    subst hj
    rw [fX5_become_L21, if_pos (by decide), zf_end]
  | succ n ih =>
    intro j F M hn hF hM
    obtain ⟨F, rfl⟩ : ∃ G, F = G + 1 := ⟨F - 1, by omega⟩
    have hj : j < 40 := by omega
    have h40 : (40 : Int32) = nI 40 := by decide
    rw [fX5_become_L21, if_neg (by rw [h40]; exact nI_ge hj (by decide)), fR_lit hx]
    simp only [Option.bind_some, hM]
    rw [sI_lit hc (vp_in_nI hj (by decide)), nI_clamp (by omega)]
    simp only [Option.bind_some]
    rw [show nI j + (1 : Int32) = nI (j + 1) from nI_1 j]
    rw [ih (j + 1) F (up2 M.1 c j (narA 0 0), M.2) (by omega) (by omega) hM]
    exact congrArg some (zf_step hj)
