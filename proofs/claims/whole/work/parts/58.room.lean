/-! the class's edges have room -/
section Room
variable {FU c : Nat} {P : Pln} {I J I0 : Nat → Nat → Int32} {nm hd rd : Option Nat}
def dgN (P : Pln) (x n : Nat) : Nat := cnt (fun w => Pa P w == x || Pb P w == x) n
def sumDg (P : Pln) (n : Nat) : Nat → Nat
  | 0 => 0
  | k + 1 => sumDg P n k + dgN P k n
theorem sumDg_0 (k : Nat) : sumDg P 0 k = 0 := by
  induction k with
  | zero => rfl
  | succ k ih => unfold sumDg; rw [ih]; rfl
theorem sumDg_s (n k : Nat) : sumDg P (n + 1) k ≤ sumDg P n k + (if Pa P n < k then 1 else 0) + (if Pb P n < k then 1 else 0) := by
  induction k with
  | zero => simp [sumDg]
  | succ k ih =>
    have e : dgN P k (n + 1) = dgN P k n + if (Pa P n == k || Pb P n == k) = true then 1 else 0 := rfl
    show sumDg P (n + 1) k + dgN P k (n + 1) ≤ sumDg P n k + dgN P k n + _ + _
    rw [e]
    by_cases z1 : Pa P n = k
    · by_cases z2 : Pb P n = k
      · simp [z1, z2] at ih ⊢; omega
      · by_cases z3 : Pb P n < k
        · simp [z1, z2, z3, show Pb P n < k + 1 by omega] at ih ⊢; omega
        · simp [z1, z2, z3, show ¬ Pb P n < k + 1 by omega] at ih ⊢; omega
    · by_cases z2 : Pb P n = k
      · by_cases z3 : Pa P n < k
        · simp [z1, z2, z3, show Pa P n < k + 1 by omega] at ih ⊢; omega
        · simp [z1, z2, z3, show ¬ Pa P n < k + 1 by omega] at ih ⊢; omega
      · by_cases z3 : Pa P n < k <;> by_cases z4 : Pb P n < k
        · simp [z1, z2, z3, z4, show Pa P n < k + 1 by omega, show Pb P n < k + 1 by omega] at ih ⊢; omega
        · simp [z1, z2, z3, z4, show Pa P n < k + 1 by omega, show ¬ Pb P n < k + 1 by omega] at ih ⊢; omega
        · simp [z1, z2, z3, z4, show ¬ Pa P n < k + 1 by omega, show Pb P n < k + 1 by omega] at ih ⊢; omega
        · simp [z1, z2, z3, z4, show ¬ Pa P n < k + 1 by omega, show ¬ Pb P n < k + 1 by omega] at ih ⊢; omega
theorem sumDg_le (n k : Nat) : sumDg P n k ≤ 2 * n := by
  induction n with
  | zero => rw [sumDg_0]; omega
  | succ n ih =>
    have := sumDg_s (P := P) n k
    have h1 : (if Pa P n < k then 1 else 0) ≤ 1 := by split <;> omega
    have h2 : (if Pb P n < k then 1 else 0) ≤ 1 := by split <;> omega
    omega
theorem cnt_add (p : Nat → Bool) (a n : Nat) : cnt p (a + n) = cnt p a + cnt (fun k => p (a + k)) n := by
  induction n with
  | zero => rfl
  | succ n ih =>
    show cnt p (a + n) + (if p (a + n) = true then 1 else 0) = cnt p a + (cnt (fun k => p (a + k)) n + (if p (a + n) = true then 1 else 0))
    rw [ih, Nat.add_assoc]
theorem cnt_pt {p q : Nat → Bool} {n : Nat} (h : ∀ k, k < n → p k = true → q k = true) : cnt p n ≤ cnt q n := by
  induction n with
  | zero => exact Nat.le_refl _
  | succ n ih =>
    have a := ih (fun k hk => h k (by omega))
    have b := h n (by omega)
    unfold cnt
    by_cases z : p n = true
    · rw [if_pos z, if_pos (b z)]; omega
    · rw [if_neg z]; split <;> omega
theorem cnt_sub {p q : Nat → Bool} {a n : Nat} (hn : n ≤ a) (h : ∀ k, k < a → p k = true → k < n ∧ q k = true) : cnt p a ≤ cnt q n := by
  obtain ⟨d, rfl⟩ : ∃ d, a = n + d := ⟨a - n, by omega⟩
  rw [cnt_add]
  have z : cnt (fun k => p (n + k)) d = 0 := by
    rw [cnt_0]
    intro i hi
    cases e : p (n + i)
    · rfl
    · have := (h (n + i) (by omega) e).1
      omega
  rw [z]
  exact cnt_pt (fun k hk e => (h k (by omega) e).2)
theorem ld_tch {w x : Nat} (h : (ld P w x).isSome = true) : (Pa P w == x || Pb P w == x) = true := by
  unfold ld at h
  by_cases z1 : Pa P w = x
  · simp [z1]
  · by_cases z2 : Pb P w = x
    · simp [z2]
    · simp [z1, z2] at h
theorem cnt_1 (p : Nat → Bool) : cnt p 1 ≤ 1 := cnt_le p 1
theorem hun_cnt (hW : WfP P) {h i : Nat} : cnt (fun m => (pAft P h i m).isSome) 33 ≤ 1 + dgN P h (Pn P) + (if h = i then 0 else dgN P i (Pn P)) := by
  have hn := wf_n hW
  have e : cnt (fun m => (pAft P h i m).isSome) 33 = _ := cnt_add (fun m => (pAft P h i m).isSome) 17 16
  have e2 : cnt (fun m => (pAft P h i m).isSome) 17 = _ := cnt_add (fun m => (pAft P h i m).isSome) 1 16
  have e3 := cnt_1 (fun m => (pAft P h i m).isSome)
  have k1 : cnt (fun k => (pAft P h i (1 + k)).isSome) 16 ≤ dgN P h (Pn P) := by
    apply cnt_sub hn
    intro k hk y
    unfold pAft at y
    rw [if_neg (by omega), show (1 + k - 1) % 16 = k by omega] at y
    by_cases z : Pn P ≤ k ∨ (16 < 1 + k ∧ h = i)
    · rw [if_pos z] at y; cases y
    · rw [if_neg z, Option.isSome_map] at y
      refine ⟨by omega, ld_tch ?_⟩
      unfold hunE at y
      rw [if_neg (show ¬ 16 < 1 + k by omega)] at y
      split at y
      · cases y
      · exact y
  have k2 : cnt (fun k => (pAft P h i (17 + k)).isSome) 16 ≤ (if h = i then 0 else dgN P i (Pn P)) := by
    by_cases hi : h = i
    · rw [if_pos hi]
      apply Nat.le_of_eq
      rw [cnt_0]
      intro k hk
      unfold pAft
      rw [if_neg (by omega), if_pos (Or.inr ⟨by omega, hi⟩)]
      rfl
    · rw [if_neg hi]
      apply cnt_sub hn
      intro k hk y
      unfold pAft at y
      rw [if_neg (by omega), show (17 + k - 1) % 16 = k by omega] at y
      by_cases z : Pn P ≤ k ∨ (16 < 17 + k ∧ h = i)
      · rw [if_pos z] at y; cases y
      · rw [if_neg z, Option.isSome_map] at y
        refine ⟨by omega, ld_tch ?_⟩
        unfold hunE at y
        rw [if_pos (show 16 < 17 + k by omega)] at y
        split at y
        · cases y
        · exact y
  omega
theorem run_cnt (hW : WfP P) {h i r : Nat} : cnt (fun m => (rAft P h i r m).isSome) 33 ≤ 1 + dgN P r (Pn P) := by
  have hn := wf_n hW
  have e2 : cnt (fun m => (rAft P h i r m).isSome) 33 = _ := cnt_add (fun m => (rAft P h i r m).isSome) 1 32
  have e3 := cnt_1 (fun m => (rAft P h i r m).isSome)
  have k1 : cnt (fun k => (rAft P h i r (1 + k)).isSome) 32 ≤ dgN P r (Pn P) := by
    apply cnt_sub (by omega)
    intro k hk y
    unfold rAft at y
    rw [if_neg (by omega), show 1 + k - 1 = k by omega] at y
    by_cases z : Pn P < 1 + k
    · rw [if_pos z] at y; cases y
    · rw [if_neg z] at y
      refine ⟨by omega, ld_tch ?_⟩
      unfold runE at y
      split at y
      · exact y
      · cases y
  omega
theorem vs_le (hW : WfP P) {h i : Nat} : ∀ k, vs P h i k ≤ k + sumDg P (Pn P) k := by
  intro k
  induction k with
  | zero => exact Nat.zero_le _
  | succ k ih =>
    have := run_cnt hW (h := h) (i := i) (r := k)
    show vs P h i k + _ ≤ k + 1 + (sumDg P (Pn P) k + dgN P k (Pn P))
    omega
/-- room up to a pair -/
def rmB (d : Nat → Nat) : Nat → Nat
  | 0 => 0
  | k + 1 => rmB d k + (if k / 8 ≤ k % 8 then 8 * (1 + d (k / 8) + (if k / 8 = k % 8 then 0 else d (k % 8))) + 40 else 0)
theorem rmB_mono {d : Nat → Nat} {a b : Nat} (h : a ≤ b) : rmB d a ≤ rmB d b := by
  induction b with
  | zero => have : a = 0 := by omega
            subst this; exact Nat.le_refl _
  | succ b ih =>
    by_cases e : a = b + 1
    · subst e; exact Nat.le_refl _
    · have := ih (by omega)
      show _ ≤ rmB d b + _
      omega
theorem rmB_64 {d : Nat → Nat} (h : d 0 + d 1 + d 2 + d 3 + d 4 + d 5 + d 6 + d 7 ≤ 32) : rmB d 64 ≤ 3776 := by
  simp [rmB]
  omega
end Room
