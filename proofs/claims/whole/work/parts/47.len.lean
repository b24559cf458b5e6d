/-! LENGTH: what it is, and that it is one -/
section Len
variable {P : Pln}
/-- caught -/
def Cgt (P : Pln) (s : Sd) : Prop := s.1 = s.2.2.1 ∨ s.2.1 = s.2.2.1 ∨ (s.2.2.2.1 = 1 ∧ ∀ m, m ≤ 32 → bhd P s m = none)
def LenF (P : Pln) (L : Sd → Option Nat) : Prop := ∀ s, Vd P s →
  (Cgt P s → L s = some 0) ∧ (¬ Cgt P s → L s ≠ some 0 ∧
    (s.2.2.2.1 = 0 → ∀ n, L s = some (n + 1) ↔ (∃ m t, m ≤ 32 ∧ bhd P s m = some t ∧ L t = some n) ∧ (∀ m t k, m ≤ 32 → bhd P s m = some t → L t = some k → n ≤ k)) ∧
    (s.2.2.2.1 = 1 → ∀ n, L s = some (n + 1) ↔ (∃ m t, m ≤ 32 ∧ bhd P s m = some t ∧ L t = some n) ∧ (∀ m t, m ≤ 32 → bhd P s m = some t → ∃ k, L t = some k ∧ k ≤ n)))
theorem shM_lt (hW : WfP P) {m sh : Nat} (hs : sh < shS P) (hw : m ≠ 0 → (m - 1) % 16 < Pn P) : shM P m sh < shS P := by
  have h9 := wf_sh hW
  have key : ∀ k f, (∀ z, k = some z → z < shN P (Pn P)) → f ≤ 2 → shB sh k f < shS P := by
    intro k f hk hf
    unfold shS at hs ⊢
    unfold shB
    by_cases z1 : k = some 1
    · have := hk 1 z1
      have z0 : k ≠ some 0 := by rw [z1]; simp
      rw [if_pos z1, if_neg z0]
      rw [if_neg (by omega), if_neg (by omega)] at hs ⊢
      omega
    · by_cases z0 : k = some 0
      · have := hk 0 z0
        rw [if_neg z1, if_pos z0]
        rw [if_neg (by omega)] at hs ⊢
        split at hs <;> rename_i q
        · rw [if_pos q]; omega
        · rw [if_neg q]; omega
      · rw [if_neg z1, if_neg z0]
        split at hs <;> rename_i q
        · simp only [q, if_true]; omega
        · split at hs <;> rename_i q2
          · rw [if_neg q, if_pos q2]; omega
          · rw [if_neg q, if_neg q2]; omega
  unfold shM
  by_cases m0 : m = 0
  · rw [if_pos m0]
    exact key _ _ (fun z e => by cases e) (by omega)
  · rw [if_neg m0]
    exact key _ _ (fun z e => shO_lt (hw m0) e) (shF_le _)
theorem pAft_ok (hW : WfP P) {h i m : Nat} {q : Nat × Nat} (h0 : isPr P h i = true) (e : pAft P h i m = some q) : isPr P q.1 q.2 = true ∧ (m ≠ 0 → (m - 1) % 16 < Pn P) := by
  have h1 := isPr_iff.mp h0
  unfold pAft at e
  by_cases m0 : m = 0
  · rw [if_pos m0] at e
    cases e
    exact ⟨h0, fun z => absurd m0 z⟩
  · rw [if_neg m0] at e
    by_cases g : Pn P ≤ (m - 1) % 16 ∨ (16 < m ∧ h = i)
    · rw [if_pos g] at e; cases e
    · rw [if_neg g] at e
      obtain ⟨to, e1, e2⟩ := Option.map_eq_some_iff.mp e
      have e3 := hunE_lt hW (by omega) e1
      have e4 := srt_lt (x := to) (y := if 16 < m then h else i) (p := Pp P) e3 (by split <;> omega)
      refine ⟨?_, fun _ => by omega⟩
      rw [isPr_iff]
      split at e2
      · rename_i z
        subst e2
        exact ⟨e3, e3, fun _ => rfl, fun y => absurd z y⟩
      · rename_i z
        subst e2
        exact ⟨e4.1, e4.2.1, fun y => absurd y z, fun _ => e4.2.2⟩
theorem rAft_ok (hW : WfP P) {h i r m y : Nat} (hr : r < Pp P) (e : rAft P h i r m = some y) : y < Pp P ∧ (m ≠ 0 → (m - 1) % 16 < Pn P) := by
  have hn := wf_n hW
  unfold rAft at e
  by_cases m0 : m = 0
  · rw [if_pos m0] at e
    split at e
    · cases e; exact ⟨hr, fun z => absurd m0 z⟩
    · cases e
  · rw [if_neg m0] at e
    by_cases g : Pn P < m
    · rw [if_pos g] at e; cases e
    · rw [if_neg g] at e
      exact ⟨runE_lt hW (by omega) e, fun _ => by omega⟩
theorem bhd_Vd (hW : WfP P) {s t : Sd} {m : Nat} (h : Vd P s) (e : bhd P s m = some t) : Vd P t := by
  obtain ⟨h1, h2, h3, h4⟩ := h
  unfold bhd at e
  split at e
  · split at e
    · obtain ⟨y, e1, e2⟩ := Option.map_eq_some_iff.mp e
      subst e2
      have q := rAft_ok hW h2 e1
      exact ⟨h1, q.1, Nat.zero_lt_two, shM_lt hW h4 q.2⟩
    · obtain ⟨y, e1, e2⟩ := Option.map_eq_some_iff.mp e
      subst e2
      have q := pAft_ok hW h1 e1
      exact ⟨q.1, h2, Nat.one_lt_two, shM_lt hW h4 q.2⟩
  · cases e
theorem bhd_turn {s t : Sd} {m : Nat} (ht : s.2.2.2.1 < 2) (e : bhd P s m = some t) : t.2.2.2.1 = 1 - s.2.2.2.1 := by
  unfold bhd at e
  split at e
  · split at e
    · obtain ⟨y, e1, e2⟩ := Option.map_eq_some_iff.mp e
      subst e2
      simp only
      omega
    · obtain ⟨y, e1, e2⟩ := Option.map_eq_some_iff.mp e
      subst e2
      simp only
      omega
  · cases e
theorem len_one (hW : WfP P) {L K : Sd → Option Nat} (hL : LenF P L) (hK : LenF P K) : ∀ n s, Vd P s → (L s = some n ↔ K s = some n) := by
  intro n
  induction n using Nat.strongRecOn with
  | ind n ih =>
    intro s hs
    by_cases hc : Cgt P s
    · rw [(hL s hs).1 hc, (hK s hs).1 hc]
    · have l := (hL s hs).2 hc
      have k := (hK s hs).2 hc
      cases n with
      | zero => exact ⟨fun z => absurd z l.1, fun z => absurd z k.1⟩
      | succ n =>
        obtain e | e : s.2.2.2.1 = 0 ∨ s.2.2.2.1 = 1 := by have := hs.2.2.1; omega
        · rw [l.2.1 e n, k.2.1 e n]
          constructor
          · rintro ⟨⟨m, t, a, b, d⟩, g⟩
            refine ⟨⟨m, t, a, b, (ih n (by omega) t (bhd_Vd hW hs b)).mp d⟩, fun m t j a b d => ?_⟩
            apply Classical.byContradiction
            intro z
            have := g m t j a b ((ih j (by omega) t (bhd_Vd hW hs b)).mpr d)
            omega
          · rintro ⟨⟨m, t, a, b, d⟩, g⟩
            refine ⟨⟨m, t, a, b, (ih n (by omega) t (bhd_Vd hW hs b)).mpr d⟩, fun m t j a b d => ?_⟩
            apply Classical.byContradiction
            intro z
            have := g m t j a b ((ih j (by omega) t (bhd_Vd hW hs b)).mp d)
            omega
        · rw [l.2.2 e n, k.2.2 e n]
          constructor
          · rintro ⟨⟨m, t, a, b, d⟩, g⟩
            refine ⟨⟨m, t, a, b, (ih n (by omega) t (bhd_Vd hW hs b)).mp d⟩, fun m t a b => ?_⟩
            obtain ⟨j, q, r⟩ := g m t a b
            exact ⟨j, (ih j (by omega) t (bhd_Vd hW hs b)).mp q, r⟩
          · rintro ⟨⟨m, t, a, b, d⟩, g⟩
            refine ⟨⟨m, t, a, b, (ih n (by omega) t (bhd_Vd hW hs b)).mpr d⟩, fun m t a b => ?_⟩
            obtain ⟨j, q, r⟩ := g m t a b
            exact ⟨j, (ih j (by omega) t (bhd_Vd hW hs b)).mpr q, r⟩
theorem len_eq (hW : WfP P) {L K : Sd → Option Nat} (hL : LenF P L) (hK : LenF P K) {s : Sd} (hs : Vd P s) : L s = K s := by
  cases e : L s with
  | some n => exact ((len_one hW hL hK n s hs).mp e).symm
  | none =>
    cases e2 : K s with
    | none => rfl
    | some n => rw [(len_one hW hL hK n s hs).mpr e2] at e; cases e
end Len
