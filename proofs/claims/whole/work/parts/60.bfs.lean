/-! backward from the caught: what holds all the while -/
section Bfs
variable {P : Pln}
def sC (k : Nat) : Sd := (k / 64 % 8, k / 8 % 8, k % 8, k / 512 % 2, k / 1024)
theorem sC_cC {s : Sd} (h : inS s) : sC (cC s) = s := by
  obtain ⟨h1, h2, h3, h4, h5⟩ := h
  obtain ⟨a, b, r, t, sh⟩ := s
  simp only at h1 h2 h3 h4 h5
  unfold sC cC
  simp only [Prod.mk.injEq]
  omega
theorem cC_inj {s t : Sd} (hs : inS s) (ht : inS t) (h : cC s = cC t) : s = t := by rw [← sC_cC hs, ← sC_cC ht, h]
/-- lf: the lengths so far; qf, qn: the queue; at: where it is read; Dn s m: this move of s is taken account of -/
def BI (P : Pln) (lf : Sd → Option Nat) (qf : Nat → Sd) (qn at_ : Nat) (Dn : Sd → Nat → Bool) : Prop :=
  (∀ j, j < qn → Vd P (qf j) ∧ (lf (qf j)).isSome = true) ∧
  (∀ s, Vd P s → (lf s).isSome = true → ∃ j, j < qn ∧ qf j = s) ∧
  (∀ i j, i ≤ j → j < qn → ∀ a b, lf (qf i) = some a → lf (qf j) = some b → a ≤ b) ∧
  (at_ < qn → ∀ j, j < qn → ∀ a b, lf (qf at_) = some a → lf (qf j) = some b → b ≤ a + 1) ∧
  (∀ s m, Vd P s → nmet s → m ≤ 32 → Dn s m = true → ∃ t j, bhd P s m = some t ∧ j ≤ at_ ∧ j < qn ∧ qf j = t) ∧
  (∀ s m j, Vd P s → nmet s → m ≤ 32 → j < at_ → j < qn → bhd P s m = some (qf j) → Dn s m = true) ∧
  (∀ s, Vd P s → nmet s → s.2.2.2.1 = 0 → lf s = none → ∀ m, m ≤ 32 → Dn s m = false) ∧
  (∀ s, Vd P s → s.2.2.2.1 = 1 → lf s = none → 0 < cnt (fun m => (bhd P s m).isSome && !Dn s m) 33) ∧
  (∀ s, Vd P s → (Cgt P s → lf s = some 0) ∧ (¬ Cgt P s → lf s ≠ some 0)) ∧
  (∀ s n, Vd P s → ¬ Cgt P s → lf s = some (n + 1) → (∃ m t, m ≤ 32 ∧ bhd P s m = some t ∧ lf t = some n) ∧ (s.2.2.2.1 = 0 → ∀ m t k, m ≤ 32 → bhd P s m = some t → lf t = some k → n ≤ k) ∧ (s.2.2.2.1 = 1 → ∀ m t, m ≤ 32 → bhd P s m = some t → ∃ k, lf t = some k ∧ k ≤ n)) ∧
  qn = cnt (fun k => (lf (sC k)).isSome) 9216 ∧ (∀ s, ¬ Vd P s → lf s = none)
/-- a move of s that leads to what is read now is taken account of; s is decided, or not yet -/
theorem bi_skip {lf : Sd → Option Nat} {qf : Nat → Sd} {qn a : Nat} {Dn Dn' : Sd → Nat → Bool} (h : BI P lf qf qn a Dn) (ha : a < qn) {s : Sd} {m : Nat} (hs : Vd P s) (hn : nmet s) (hm : m ≤ 32) (hb : bhd P s m = some (qf a)) (hd : Dn s m = false) (hD : ∀ s' m', Dn' s' m' = (Dn s' m' || decide (s' = s ∧ m' = m))) (hk : lf s ≠ none ∨ (s.2.2.2.1 = 1 ∧ 1 < cnt (fun m => (bhd P s m).isSome && !Dn s m) 33)) : BI P lf qf qn a Dn' := by
  obtain ⟨h1, h2, h3, h4, h5, h6, h7, h8, h9, h10, h11, h12⟩ := h
  refine ⟨h1, h2, h3, h4, fun s' m' hs' hn' hm' e => ?_, fun s' m' j hs' hn' hm' hj hj2 e => ?_, fun s' hs' hn' ht e m' hm' => ?_, fun s' hs' ht e => ?_, h9, h10, h11, h12⟩
  · rw [hD, Bool.or_eq_true, decide_eq_true_iff] at e
    rcases e with e | ⟨e1, e2⟩
    · exact h5 s' m' hs' hn' hm' e
    · subst e1 e2
      exact ⟨qf a, a, hb, Nat.le_refl _, ha, rfl⟩
  · rw [hD, h6 s' m' j hs' hn' hm' hj hj2 e]
    rfl
  · rw [hD, h7 s' hs' hn' ht e m' hm', Bool.false_or, decide_eq_false_iff_not]
    rintro ⟨z1, z2⟩
    subst z1
    rcases hk with k | k
    · exact k e
    · omega
  · by_cases z : s' = s
    · subst z
      rcases hk with k | k
      · exact absurd e k
      · have : cnt (fun m => (bhd P s' m).isSome && !Dn s' m) 33 = cnt (fun m => (bhd P s' m).isSome && !Dn' s' m) 33 + 1 := by
          apply cnt_flip (m := m) (by omega)
          · intro i hi hne
            rw [hD]
            simp [hne]
          · rw [hD]; simp
          · rw [hb, hd]; rfl
        omega
    · have : cnt (fun m => (bhd P s' m).isSome && !Dn' s' m) 33 = cnt (fun m => (bhd P s' m).isSome && !Dn s' m) 33 := by
        apply cnt_congr
        intro i hi
        rw [hD]
        simp [z]
      rw [this]
      exact h8 s' hs' ht e
/-- s is decided now -/
theorem bi_dec (hW : WfP P) {lf : Sd → Option Nat} {qf : Nat → Sd} {qn a v : Nat} {Dn Dn' : Sd → Nat → Bool} (h : BI P lf qf qn a Dn) (ha : a < qn) {s : Sd} {m : Nat} (hs : Vd P s) (hn : nmet s) (hm : m ≤ 32) (hb : bhd P s m = some (qf a)) (hv : lf (qf a) = some v) (hd : Dn s m = false) (hD : ∀ s' m', Dn' s' m' = (Dn s' m' || decide (s' = s ∧ m' = m))) (h0 : lf s = none) (hk : s.2.2.2.1 = 0 ∨ (s.2.2.2.1 = 1 ∧ cnt (fun m => (bhd P s m).isSome && !Dn s m) 33 = 1)) : BI P (fun x => if x = s then some (v + 1) else lf x) (va_up qf qn s) (qn + 1) a Dn' ∧ qn < 9216 := by
  obtain ⟨h1, h2, h3, h4, h5, h6, h7, h8, h9, h10, h11, h12⟩ := h
  have hin := Vd_in hW hs
  have hcs := cC_lt hin
  have hnc : ¬ Cgt P s := by
    intro z
    rw [(h9 s hs).1 z] at h0
    cases h0
  have gn : ∀ j, j < qn → va_up qf qn s j = qf j := fun j hj => va_o (by omega)
  have gs : va_up qf qn s qn = s := va_1
  have ne : ∀ j, j < qn → qf j ≠ s := by
    intro j hj e
    have := (h1 j hj).2
    rw [e, h0] at this
    cases this
  have lo : ∀ x, x ≠ s → (if x = s then some (v + 1) else lf x) = lf x := fun x hx => if_neg hx
  have ls : (if s = s then some (v + 1) else lf s) = some (v + 1) := if_pos rfl
  have lv : ∀ j, j < qn → ∀ b, lf (qf j) = some b → b ≤ v + 1 := fun j hj b hb => h4 ha j hj v b hv hb
  have c1 : cnt (fun k => ((fun x => if x = s then some (v + 1) else lf x) (sC k)).isSome) 9216 = cnt (fun k => (lf (sC k)).isSome) 9216 + 1 := by
    apply cnt_flip (m := cC s) hcs
    · intro i hi hne
      have : sC i ≠ s := by
        intro e
        apply hne
        rw [← e]
        unfold cC sC
        simp only
        omega
      simp only [if_neg this]
    · rw [sC_cC hin, h0]; rfl
    · simp only [sC_cC hin, if_true]; rfl
  refine ⟨⟨?_, ?_, ?_, ?_, ?_, ?_, ?_, ?_, ?_, ?_, ?_, ?_⟩, ?_⟩
  · intro j hj
    by_cases z : j = qn
    · subst z; rw [gs]; simp only [if_true]; exact ⟨hs, rfl⟩
    · rw [gn j (by omega)]; simp only [if_neg (ne j (by omega))]; exact h1 j (by omega)
  · intro x hx e
    by_cases z : x = s
    · subst z; exact ⟨qn, by omega, gs⟩
    · simp only [if_neg z] at e
      obtain ⟨j, j1, j2⟩ := h2 x hx e
      exact ⟨j, by omega, by rw [gn j j1]; exact j2⟩
  · intro i j hij hj x y ex ey
    by_cases z : j = qn
    · subst z
      rw [gs] at ey
      simp only [if_true] at ey
      by_cases z2 : i = j
      · subst z2
        rw [gs] at ex
        simp only [if_true] at ex
        rw [ex] at ey
        cases ey
        exact Nat.le_refl _
      · rw [gn i (by omega)] at ex
        simp only [if_neg (ne i (by omega))] at ex
        have := lv i (by omega) x ex
        have ey := Option.some.inj ey
        omega
    · rw [gn j (by omega)] at ey
      rw [gn i (by omega)] at ex
      simp only [if_neg (ne i (by omega))] at ex
      simp only [if_neg (ne j (by omega))] at ey
      exact h3 i j hij (by omega) x y ex ey
  · intro _ j hj x y ex ey
    rw [gn a ha] at ex
    simp only [if_neg (ne a ha)] at ex
    rw [hv] at ex
    have ex := Option.some.inj ex
    by_cases z : j = qn
    · subst z
      rw [gs] at ey
      simp only [if_true] at ey
      have ey := Option.some.inj ey
      omega
    · rw [gn j (by omega)] at ey
      simp only [if_neg (ne j (by omega))] at ey
      have := lv j (by omega) y ey
      omega
  · intro s' m' hs' hn' hm' e
    rw [hD, Bool.or_eq_true, decide_eq_true_iff] at e
    rcases e with e | ⟨e1, e2⟩
    · obtain ⟨t, j, a1, a2, a3, a4⟩ := h5 s' m' hs' hn' hm' e
      exact ⟨t, j, a1, a2, by omega, by rw [gn j a3]; exact a4⟩
    · subst e1 e2
      exact ⟨qf a, a, hb, Nat.le_refl _, by omega, gn a ha⟩
  · intro s' m' j hs' hn' hm' hj hj2 e
    rw [gn j (by omega)] at e
    rw [hD, h6 s' m' j hs' hn' hm' hj (by omega) e]
    rfl
  · intro s' hs' hn' ht e m' hm'
    have z : s' ≠ s := by
      intro z
      subst z
      simp only [if_true] at e
      cases e
    simp only [if_neg z] at e
    rw [hD, h7 s' hs' hn' ht e m' hm', Bool.false_or, decide_eq_false_iff_not]
    exact fun y => z y.1
  · intro s' hs' ht e
    have z : s' ≠ s := by
      intro z
      subst z
      simp only [if_true] at e
      cases e
    simp only [if_neg z] at e
    have : cnt (fun m => (bhd P s' m).isSome && !Dn' s' m) 33 = cnt (fun m => (bhd P s' m).isSome && !Dn s' m) 33 := by
      apply cnt_congr
      intro i hi
      rw [hD]
      simp [z]
    rw [this]
    exact h8 s' hs' ht e
  · intro s' hs'
    by_cases z : s' = s
    · subst z
      simp only [if_true]
      exact ⟨fun y => absurd y hnc, fun _ y => by cases y⟩
    · simp only [if_neg z]
      exact h9 s' hs'
  · intro s' n hs' hc' e
    by_cases z : s' = s
    · subst z
      simp only [if_true] at e
      have e := Option.some.inj e
      have en : n = v := by omega
      subst en
      have tne : ∀ m t, bhd P s' m = some t → t ≠ s' := by
        intro m t e1 e2
        have := bhd_turn (P := P) hs'.2.2.1 e1
        rw [e2] at this
        omega
      refine ⟨⟨m, qf a, hm, hb, by simp only [if_neg (ne a ha)]; exact hv⟩, fun ht m' t k hm' e1 e2 => ?_, fun ht m' t hm' e1 => ?_⟩
      · simp only [if_neg (tne m' t e1)] at e2
        obtain ⟨j, j1, j2⟩ := h2 t (bhd_Vd hW hs' e1) (by rw [e2]; rfl)
        by_cases y : j < a
        · have y1 := h6 s' m' j hs' hn hm' y j1 (by rw [j2]; exact e1)
          rw [h7 s' hs' hn ht h0 m' hm'] at y1
          cases y1
        · exact h3 a j (by omega) j1 n k hv (by rw [j2]; exact e2)
      · rcases hk with k | ⟨_, k⟩
        · omega
        · -- every other move was taken account of
          have dn : m' = m ∨ Dn s' m' = true := by
            by_cases y : m' = m
            · exact Or.inl y
            · right
              apply Classical.byContradiction
              intro y2
              have y3 : Dn s' m' = false := by simpa using y2
              have c2 : cnt (fun m => (bhd P s' m).isSome && !Dn s' m) 33 = cnt (fun i => if i = m then false else ((bhd P s' i).isSome && !Dn s' i)) 33 + 1 := by
                apply cnt_flip (m := m) (by omega)
                · intro i hi hne
                  simp only [if_neg hne]
                · simp
                · rw [hb, hd]; rfl
              have c3 : cnt (fun i => if i = m then false else ((bhd P s' i).isSome && !Dn s' i)) 33 = 0 := by omega
              have c4 := cnt_0.mp c3 m' (by omega)
              simp only [if_neg y, e1, y3] at c4
              cases c4
          rcases dn with y | y
          · subst y
            rw [hb] at e1
            have e1 := Option.some.inj e1
            exact ⟨n, by rw [← e1]; simp only [if_neg (ne a ha)]; exact hv, Nat.le_refl _⟩
          · obtain ⟨t', j, a1, a2, a3, a4⟩ := h5 s' m' hs' hn hm' y
            rw [e1] at a1
            have a1 := Option.some.inj a1
            have a5 := (h1 j a3).2
            obtain ⟨b, b1⟩ := Option.isSome_iff_exists.mp a5
            refine ⟨b, ?_, h3 j a a2 ha b n b1 hv⟩
            rw [a1, ← a4]
            simp only [if_neg (ne j a3)]
            exact b1
    · simp only [if_neg z] at e
      obtain ⟨⟨m', t, b1, b2, b3⟩, b4, b5⟩ := h10 s' n hs' hc' e
      have ts : t ≠ s := by
        intro y
        rw [y, h0] at b3
        cases b3
      refine ⟨⟨m', t, b1, b2, by simp only [if_neg ts]; exact b3⟩, fun ht m'' t' k hm' e1 e2 => ?_, fun ht m'' t' hm' e1 => ?_⟩
      · by_cases y : t' = s
        · subst y
          simp only [if_true] at e2
          have e2 := Option.some.inj e2
          obtain ⟨j, j1, j2⟩ := h2 s' hs' (by rw [e]; rfl)
          have := lv j j1 (n + 1) (by rw [j2]; exact e)
          omega
        · simp only [if_neg y] at e2
          exact b4 ht m'' t' k hm' e1 e2
      · obtain ⟨k, k1, k2⟩ := b5 ht m'' t' hm' e1
        have y : t' ≠ s := by
          intro y
          rw [y, h0] at k1
          cases k1
        exact ⟨k, by simp only [if_neg y]; exact k1, k2⟩
  · rw [c1, h11]
  · intro s' hs'
    have z : s' ≠ s := fun z => hs' (z ▸ hs)
    simp only [if_neg z]
    exact h12 s' hs'
  · have := cnt_le (fun k => ((fun x => if x = s then some (v + 1) else lf x) (sC k)).isSome) 9216
    omega
/-- what is read now is done with -/
theorem bi_next {lf : Sd → Option Nat} {qf : Nat → Sd} {qn a : Nat} {Dn : Sd → Nat → Bool} (h : BI P lf qf qn a Dn) (ha : a < qn) (hall : ∀ s m, Vd P s → nmet s → m ≤ 32 → bhd P s m = some (qf a) → Dn s m = true) : BI P lf qf qn (a + 1) Dn := by
  obtain ⟨h1, h2, h3, h4, h5, h6, h7, h8, h9, h10, h11, h12⟩ := h
  refine ⟨h1, h2, h3, fun h' j hj x y ex ey => ?_, fun s m hs hn hm e => ?_, fun s m j hs hn hm hj hj2 e => ?_, h7, h8, h9, h10, h11, h12⟩
  · obtain ⟨z, hz⟩ := Option.isSome_iff_exists.mp (h1 a ha).2
    have q1 := h4 ha j hj z y hz ey
    have q2 := h3 a (a + 1) (by omega) h' z x hz ex
    omega
  · obtain ⟨t, j, a1, a2, a3, a4⟩ := h5 s m hs hn hm e
    exact ⟨t, j, a1, by omega, a3, a4⟩
  · by_cases z : j = a
    · subst z; exact hall s m hs hn hm e
    · exact h6 s m j hs hn hm (by omega) hj2 e
theorem nmet_of {s : Sd} (h : ¬ Cgt P s) : nmet s := ⟨fun e => h (Or.inl e), fun e => h (Or.inr (Or.inl e))⟩
/-- at the end -/
theorem bi_end (hW : WfP P) {lf : Sd → Option Nat} {qf : Nat → Sd} {qn a : Nat} {Dn : Sd → Nat → Bool} (h : BI P lf qf qn a Dn) (ha : qn ≤ a) : LenF P lf := by
  obtain ⟨h1, h2, h3, h4, h5, h6, h7, h8, h9, h10, h11, h12⟩ := h
  intro s hs
  refine ⟨(h9 s hs).1, fun hc => ⟨(h9 s hs).2 hc, fun ht n => ⟨fun z => ⟨(h10 s n hs hc z).1, (h10 s n hs hc z).2.1 ht⟩, fun z => ?_⟩, fun ht n => ⟨fun z => ⟨(h10 s n hs hc z).1, (h10 s n hs hc z).2.2 ht⟩, fun z => ?_⟩⟩⟩
  · obtain ⟨⟨m, t, b1, b2, b3⟩, b4⟩ := z
    obtain ⟨j, j1, j2⟩ := h2 t (bhd_Vd hW hs b2) (by rw [b3]; rfl)
    have d := h6 s m j hs (nmet_of hc) b1 (by omega) j1 (by rw [j2]; exact b2)
    cases e : lf s with
    | none =>
      rw [h7 s hs (nmet_of hc) ht e m b1] at d
      cases d
    | some k =>
      cases k with
      | zero => exact absurd e ((h9 s hs).2 hc)
      | succ k =>
        obtain ⟨⟨m', t', d1, d2, d3⟩, d4, _⟩ := h10 s k hs hc e
        have q1 := b4 m' t' k d1 d2 d3
        have q2 := d4 ht m t n b1 b2 b3
        have : k = n := by omega
        rw [this]
  · obtain ⟨⟨m, t, b1, b2, b3⟩, b4⟩ := z
    cases e : lf s with
    | none =>
      exfalso
      have c1 := h8 s hs ht e
      have c2 : cnt (fun m => (bhd P s m).isSome && !Dn s m) 33 = 0 := by
        rw [cnt_0]
        intro i hi
        cases e2 : bhd P s i with
        | none => rfl
        | some t' =>
          obtain ⟨k, k1, k2⟩ := b4 i t' (by omega) e2
          obtain ⟨j, j1, j2⟩ := h2 t' (bhd_Vd hW hs e2) (by rw [k1]; rfl)
          rw [h6 s i j hs (nmet_of hc) (by omega) (by omega) j1 (by rw [j2]; exact e2)]
          rfl
      omega
    | some k =>
      cases k with
      | zero => exact absurd e ((h9 s hs).2 hc)
      | succ k =>
        obtain ⟨⟨m', t', d1, d2, d3⟩, _, d4⟩ := h10 s k hs hc e
        obtain ⟨k1, q1, q1'⟩ := b4 m' t' d1 d2
        obtain ⟨k2, q2, q2'⟩ := d4 ht m t b1 b2
        rw [d3] at q1
        rw [b3] at q2
        have q1 := Option.some.inj q1
        have q2 := Option.some.inj q2
        have : k = n := by omega
        rw [this]
end Bfs
