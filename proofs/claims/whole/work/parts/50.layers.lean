/-! layers: the reference's way to LENGTH -/
section Layers
variable {P : Pln}
def Lay (P : Pln) (l : Nat) (lf : Sd → Option Nat) : Prop := ∀ s, Vd P s →
  (Cgt P s → lf s = some 0) ∧ (¬ Cgt P s → lf s ≠ some 0) ∧ (∀ n, lf s = some n → n < l) ∧
  (¬ Cgt P s → ∀ n, lf s = some (n + 1) → (∃ m t, m ≤ 32 ∧ bhd P s m = some t ∧ lf t = some n) ∧ (s.2.2.2.1 = 0 → ∀ m t k, m ≤ 32 → bhd P s m = some t → lf t = some k → n ≤ k) ∧ (s.2.2.2.1 = 1 → ∀ m t, m ≤ 32 → bhd P s m = some t → ∃ k, lf t = some k ∧ k ≤ n)) ∧
  (¬ Cgt P s → lf s = none → (s.2.2.2.1 = 0 → ∀ m t k, m ≤ 32 → bhd P s m = some t → lf t = some k → l ≤ k + 1) ∧ (s.2.2.2.1 = 1 → ¬ ∀ m t, m ≤ 32 → bhd P s m = some t → ∃ k, lf t = some k ∧ k + 2 ≤ l))
theorem isOfB_iff {lf : Sd → Option Nat} {n : Nat} {s : Sd} : isOfB P lf n s = true ↔ (s.2.2.2.1 = 0 ∨ ∀ m t, m ≤ 32 → bhd P s m = some t → lf t ≠ none) ∧ ∃ m t, m ≤ 32 ∧ bhd P s m = some t ∧ lf t = some n := by
  unfold isOfB
  rw [Bool.and_eq_true, Bool.or_eq_true, anyB_iff, beq_iff_eq, Bool.not_eq_true', ← Bool.not_eq_true, anyB_iff]
  have e1 : (¬ ∃ i, i < 33 ∧ ldN P lf s i = true) ↔ ∀ m t, m ≤ 32 → bhd P s m = some t → lf t ≠ none := by
    constructor
    · intro h m t hm e z
      exact h ⟨m, by omega, by unfold ldN; rw [e]; simp [z]⟩
    · rintro h ⟨m, hm, e⟩
      unfold ldN at e
      cases e2 : bhd P s m with
      | none => rw [e2] at e; cases e
      | some t =>
        rw [e2] at e
        exact h m t (by omega) e2 (by simpa using e)
  have e2 : (∃ i, i < 33 ∧ ldE P lf n s i = true) ↔ ∃ m t, m ≤ 32 ∧ bhd P s m = some t ∧ lf t = some n := by
    constructor
    · rintro ⟨m, hm, e⟩
      unfold ldE at e
      cases e2 : bhd P s m with
      | none => rw [e2] at e; cases e
      | some t =>
        rw [e2] at e
        exact ⟨m, t, by omega, e2, by simpa using e⟩
    · rintro ⟨m, t, hm, e2, e⟩
      exact ⟨m, by omega, by unfold ldE; rw [e2]; simp [e]⟩
  rw [e1, e2]
theorem lay_0 : Lay P 1 (fun s => if vdB P s = true ∧ cgtB P s = true then some 0 else none) := by
  intro s hs
  have hv := vdB_iff.mpr hs
  refine ⟨fun h => ?_, fun h => ?_, fun n h => ?_, fun hc n h => ?_, fun hc h => ⟨fun _ m t k hm e q => ?_, fun ht z => ?_⟩⟩
  · simp only
    rw [if_pos ⟨hv, cgtB_iff.mpr h⟩]
  · simp only
    rw [if_neg (fun q => h (cgtB_iff.mp q.2))]
    simp
  · simp only at h
    split at h
    · cases h; omega
    · cases h
  · simp only at h
    split at h
    · cases h
    · cases h
  · omega
  · apply hc
    refine Or.inr (Or.inr ⟨ht, fun m hm => ?_⟩)
    cases e : bhd P s m with
    | none => rfl
    | some t =>
      obtain ⟨k, _, q⟩ := z m t hm e
      omega
/-- the next layer -/
def lay1 (P : Pln) (j : Nat) (lf : Sd → Option Nat) (s : Sd) : Option Nat := if (lf s = none ∧ vdB P s = true) ∧ isOfB P lf j s = true then some (j + 1) else lf s
theorem lay1_old {j : Nat} {lf : Sd → Option Nat} {s : Sd} {n : Nat} (h : lf s = some n) : lay1 P j lf s = some n := by
  unfold lay1
  rw [if_neg (by rw [h]; simp), h]
theorem lay1_or {j : Nat} {lf : Sd → Option Nat} {s : Sd} {n : Nat} (h : lay1 P j lf s = some n) : lf s = some n ∨ (lf s = none ∧ n = j + 1 ∧ isOfB P lf j s = true) := by
  unfold lay1 at h
  split at h
  · rename_i q
    cases h
    exact Or.inr ⟨q.1.1, rfl, q.2⟩
  · exact Or.inl h
theorem lay_s (hW : WfP P) {j : Nat} {lf : Sd → Option Nat} (h : Lay P (j + 1) lf) : Lay P (j + 2) (lay1 P j lf) := by
  intro s hs
  obtain ⟨a1, a2, a3, a4, a5⟩ := h s hs
  refine ⟨fun hc => lay1_old (a1 hc), fun hc z => ?_, fun n z => ?_, fun hc n z => ?_, fun hc z => ?_⟩
  · rcases lay1_or z with q | ⟨_, q, _⟩
    · exact a2 hc q
    · omega
  · rcases lay1_or z with q | ⟨_, q, _⟩
    · have := a3 n q; omega
    · omega
  · rcases lay1_or z with q | ⟨q0, q, q1⟩
    · obtain ⟨⟨m, t, b1, b2, b3⟩, b4, b5⟩ := a4 hc n q
      refine ⟨⟨m, t, b1, b2, lay1_old b3⟩, fun ht m t k hm e w => ?_, fun ht m t hm e => ?_⟩
      · rcases lay1_or w with q' | ⟨_, q', _⟩
        · exact b4 ht m t k hm e q'
        · have := a3 _ q; omega
      · obtain ⟨k, c1, c2⟩ := b5 ht m t hm e
        exact ⟨k, lay1_old c1, c2⟩
    · have qn : n = j := by omega
      subst qn
      rw [isOfB_iff] at q1
      obtain ⟨c1, m, t, c2, c3, c4⟩ := q1
      refine ⟨⟨m, t, c2, c3, lay1_old c4⟩, fun ht m t k hm e w => ?_, fun ht m t hm e => ?_⟩
      · rcases lay1_or w with q' | ⟨_, q', _⟩
        · have := (a5 hc q0).1 ht m t k hm e q'; omega
        · omega
      · rcases c1 with c1 | c1
        · omega
        · have c5 := c1 m t hm e
          cases c6 : lf t with
          | none => exact absurd c6 c5
          | some k =>
            have := (h t (bhd_Vd hW hs e)).2.2.1 k c6
            exact ⟨k, lay1_old c6, by omega⟩
  · have z0 : lf s = none ∧ isOfB P lf j s ≠ true := by
      unfold lay1 at z
      split at z
      · cases z
      · rename_i q
        exact ⟨z, fun y => q ⟨⟨z, vdB_iff.mpr hs⟩, y⟩⟩
    obtain ⟨z1, z2⟩ := z0
    obtain ⟨b1, b2⟩ := a5 hc z1
    refine ⟨fun ht m t k hm e w => ?_, fun ht w => ?_⟩
    · rcases lay1_or w with q' | ⟨_, q', _⟩
      · have h1 := b1 ht m t k hm e q'
        have h2 := (h t (bhd_Vd hW hs e)).2.2.1 k q'
        have h3 : k = j := by omega
        subst h3
        exact absurd (isOfB_iff.mpr ⟨Or.inl ht, m, t, hm, e, q'⟩) z2
      · omega
    · apply b2 ht
      intro m t hm e
      obtain ⟨k, c1, c2⟩ := w m t hm e
      rcases lay1_or c1 with q' | ⟨_, q', _⟩
      · refine ⟨k, q', ?_⟩
        apply Classical.byContradiction
        intro c3
        have h3 : k = j := by omega
        subst h3
        apply z2
        rw [isOfB_iff]
        refine ⟨Or.inr (fun m t hm e y => ?_), m, t, hm, e, q'⟩
        obtain ⟨k', d1, d2⟩ := w m t hm e
        rcases lay1_or d1 with q2 | ⟨_, q2, _⟩
        · rw [y] at q2; cases q2
        · omega
      · omega
theorem lay_e (hW : WfP P) {j : Nat} {lf : Sd → Option Nat} (h : Lay P (j + 1) lf) (hn : ∀ s, Vd P s → lf s = none → isOfB P lf j s ≠ true) : LenF P lf := by
  intro s hs
  obtain ⟨a1, a2, a3, a4, a5⟩ := h s hs
  refine ⟨a1, fun hc => ⟨a2 hc, fun ht n => ⟨fun z => ?_, fun z => ?_⟩, fun ht n => ⟨fun z => ?_, fun z => ?_⟩⟩⟩
  · exact ⟨(a4 hc n z).1, (a4 hc n z).2.1 ht⟩
  · obtain ⟨⟨m, t, b1, b2, b3⟩, b4⟩ := z
    cases e : lf s with
    | none =>
      have c1 := (a5 hc e).1 ht m t n b1 b2 b3
      have c2 := (h t (bhd_Vd hW hs b2)).2.2.1 n b3
      have c3 : n = j := by omega
      subst c3
      exact absurd (isOfB_iff.mpr ⟨Or.inl ht, m, t, b1, b2, b3⟩) (hn s hs e)
    | some k =>
      cases k with
      | zero => exact absurd e (a2 hc)
      | succ k =>
        obtain ⟨⟨m', t', d1, d2, d3⟩, d4, _⟩ := a4 hc k e
        have q1 := b4 m' t' k d1 d2 d3
        have q2 := d4 ht m t n b1 b2 b3
        have : k = n := by omega
        rw [this]
  · exact ⟨(a4 hc n z).1, (a4 hc n z).2.2 ht⟩
  · obtain ⟨⟨m, t, b1, b2, b3⟩, b4⟩ := z
    cases e : lf s with
    | none =>
      exfalso
      apply (a5 hc e).2 ht
      intro m' t' h1 h2
      obtain ⟨k, h3, h4⟩ := b4 m' t' h1 h2
      refine ⟨k, h3, ?_⟩
      apply Classical.byContradiction
      intro c
      have c1 := (h t (bhd_Vd hW hs b2)).2.2.1 n b3
      have c3 : k = j := by omega
      subst c3
      apply hn s hs e
      rw [isOfB_iff]
      refine ⟨Or.inr (fun m t hm e y => ?_), m', t', h1, h2, h3⟩
      obtain ⟨k', d1, d2⟩ := b4 m t hm e
      rw [y] at d1; cases d1
    | some k =>
      cases k with
      | zero => exact absurd e (a2 hc)
      | succ k =>
        obtain ⟨⟨m', t', d1, d2, d3⟩, _, d4⟩ := a4 hc k e
        obtain ⟨k1, q1, q1'⟩ := b4 m' t' d1 d2
        obtain ⟨k2, q2, q2'⟩ := d4 ht m t b1 b2
        rw [d3] at q1
        rw [b3] at q2
        cases q1
        cases q2
        have : k = n := by omega
        rw [this]
end Layers
