/-! the class's edges: which move each is of -/
section Edges
variable {FU c : Nat} {P : Pln} {I J : Nat → Nat → Int32} {pl nm hd rd : Option Nat}
def posS (s : Sd) : Sd := (s.1, s.2.1, s.2.2.1, s.2.2.2.1, 0)
def psd (P : Pln) (m : Nat) : Option Nat := if m = 0 then none else shO P ((m - 1) % 16)
/-- where a move leads, whatever is shut -/
def tgO (P : Pln) (q : Sd) (m : Nat) : Option Nat := if q.2.2.2.1 = 1 then (rAft P q.1 q.2.1 q.2.2.1 m).map (fun y => (q.1 * 8 + q.2.1) * 8 + y) else (pAft P q.1 q.2.1 m).map (fun w => 512 + (w.1 * 8 + w.2) * 8 + q.2.2.1)
def tgG (P : Pln) (g : Nat → Sd × Nat) (e : Nat) : Nat := (tgO P (g e).1 (g e).2).getD 0
def lastI (g : Nat → Nat) (p : Nat) : Nat → Option Nat
  | 0 => none
  | n + 1 => if g n = p then some n else lastI g p n
theorem lastI_congr {g g' : Nat → Nat} {p n : Nat} (h : ∀ e, e < n → g e = g' e) : lastI g p n = lastI g' p n := by
  induction n with
  | zero => rfl
  | succ n ih =>
    unfold lastI
    rw [ih (fun e he => h e (by omega)), h n (by omega)]
theorem lastI_lt {g : Nat → Nat} {p n e : Nat} (h : lastI g p n = some e) : e < n ∧ g e = p ∧ ∀ f, e < f → f < n → g f ≠ p := by
  induction n with
  | zero => cases h
  | succ n ih =>
    unfold lastI at h
    by_cases z : g n = p
    · rw [if_pos z] at h
      cases h
      exact ⟨by omega, z, fun f h1 h2 => by omega⟩
    · rw [if_neg z] at h
      obtain ⟨h1, h2, h3⟩ := ih h
      refine ⟨by omega, h2, fun f h4 h5 => ?_⟩
      by_cases y : f = n
      · rw [y]; exact z
      · exact h3 f h4 (by omega)
theorem lastI_no {g : Nat → Nat} {p n : Nat} (h : lastI g p n = none) : ∀ f, f < n → g f ≠ p := by
  induction n with
  | zero => intro f hf; omega
  | succ n ih =>
    unfold lastI at h
    by_cases z : g n = p
    · rw [if_pos z] at h; cases h
    · rw [if_neg z] at h
      intro f hf
      by_cases y : f = n
      · rw [y]; exact z
      · exact ih h f (by omega)
def nmet (q : Sd) : Prop := q.1 ≠ q.2.2.1 ∧ q.2.1 ≠ q.2.2.1
/-- an edge that can be -/
def okE (P : Pln) (q : Sd) (m : Nat) : Prop := Vd P q ∧ q.2.2.2.2 = 0 ∧ nmet q ∧ m ≤ 32 ∧ (tgO P q m).isSome = true
def EI (P : Pln) (D : Sd → Nat → Bool) (g : Nat → Sd × Nat) (ne : Nat) (I : Nat → Nat → Int32) : Prop :=
  I 17 13 = nI ne ∧ ne ≤ 3776 ∧ (∀ e, e < ne → I 23 e = nI (cC (g e).1)) ∧ (∀ e, e < ne → I 24 e = oI (psd P (g e).2)) ∧ (∀ e, e < ne → I 22 e = oI (lastI (tgG P g) (tgG P g e) e)) ∧
  (∀ p, p < 1024 → I 21 p = oI (lastI (tgG P g) p ne)) ∧ (∀ e, e < ne → okE P (g e).1 (g e).2 ∧ D (g e).1 (g e).2 = true) ∧ (∀ e f, e < ne → f < ne → g e = g f → e = f) ∧ (∀ q m, okE P q m → D q m = true → ∃ e, e < ne ∧ g e = (q, m))
theorem EI.mono {D D' : Sd → Nat → Bool} {g : Nat → Sd × Nat} {ne : Nat} (h : EI P D g ne I) (hD : ∀ q m, okE P q m → D q m = D' q m) : EI P D' g ne I := by
  obtain ⟨h1, h2, h3, h4, h5, h6, h7, h8, h9⟩ := h
  refine ⟨h1, h2, h3, h4, h5, h6, fun e he => ⟨(h7 e he).1, ?_⟩, h8, fun q m ho hd => h9 q m ho ?_⟩
  · rw [← hD _ _ (h7 e he).1]; exact (h7 e he).2
  · rw [hD q m ho]; exact hd
theorem EI.congr {D : Sd → Nat → Bool} {g : Nat → Sd × Nat} {ne : Nat} (h : EI P D g ne I) (h0 : J 17 13 = I 17 13) (h1 : J 21 = I 21) (h2 : J 22 = I 22) (h3 : J 23 = I 23) (h4 : J 24 = I 24) : EI P D g ne J := by
  unfold EI at h ⊢
  rw [h0, h1, h2, h3, h4]
  exact h
theorem tgO_lt (hW : WfP P) {q : Sd} {m t : Nat} (hq : Vd P q) (h : tgO P q m = some t) : t < 1024 := by
  have hp := wf_p hW
  have hin := Vd_in hW hq
  obtain ⟨a1, a2, a3, a4, a5⟩ := hin
  unfold tgO at h
  split at h
  · obtain ⟨y, e1, e2⟩ := Option.map_eq_some_iff.mp h
    have := rAft_ok hW hq.2.1 e1
    omega
  · obtain ⟨y, e1, e2⟩ := Option.map_eq_some_iff.mp h
    have := isPr_iff.mp (pAft_ok hW hq.1 e1).1
    omega
theorem c_addEdge (hW : WfP P) {D D' : Sd → Nat → Bool} {g : Nat → Sd × Nat} {ne m t : Nat} {q : Sd} (h : EI P D g ne I) (hne : ne < 3776) (ho : okE P q m) (ht : tgO P q m = some t) (hd0 : D q m = false) (hD : ∀ q' m', okE P q' m' → (D' q' m' = true ↔ D q' m' = true ∨ (q', m') = (q, m))) : ∃ J, fX6_addEdge FU 17 (nI (cC q)) (nI t) (oI (psd P m)) (I, R0 pl nm hd rd) = some (J, R0 pl nm hd rd) ∧ EI P D' (va_up g ne (q, m)) (ne + 1) J ∧ (∀ k, k ≠ 17 → k ≠ 21 → k ≠ 22 → k ≠ 23 → k ≠ 24 → J k = I k) ∧ (∀ i, i ≠ 13 → J 17 i = I 17 i) := by
  have ht2 := tgO_lt hW ho.1 ht
  obtain ⟨h1, h2, h3, h4, h5, h6, h7, h8, h9⟩ := h
  have h6t := h6 t ht2
  have gn : ∀ e, e < ne → va_up g ne (q, m) e = g e := fun e he => va_o (by omega)
  have gs : va_up g ne (q, m) ne = (q, m) := va_1
  have tg : ∀ e, e < ne → tgG P (va_up g ne (q, m)) e = tgG P g e := fun e he => by unfold tgG; rw [gn e he]
  have tgs : tgG P (va_up g ne (q, m)) ne = t := by unfold tgG; rw [gs, ht]; rfl
  have lc : ∀ p n, n ≤ ne → lastI (tgG P (va_up g ne (q, m))) p n = lastI (tgG P g) p n := fun p n hn => lastI_congr (fun e he => tg e (by omega))
  refine ⟨up2 (up2 (up2 (up2 (up2 I 23 ne (nI (cC q))) 24 ne (oI (psd P m))) 22 ne (I 21 t)) 17 13 (nI (ne + 1))) 21 t (nI ne), ?_, ⟨?_, ?_, ?_, ?_, ?_, ?_, ?_, ?_, ?_⟩, ?_, ?_⟩
  · unfold fX6_addEdge
    simp (discharger := omega) only [li_0, li_1, li_2, li_3, li_4, li_5, li_6, li_7, li_8, li_9, li_10, li_11, li_12, li_13, li_14, li_15, li_16, li_17, li_18, li_19, li_20, li_21, li_22, li_23, li_24, li_25, li_26, li_27, li_28, li_29, li_30, li_31, li_32, li_33, li_34, li_35, li_36, li_37, li_38, li_39, li_40, li_41, li_42, li_43, li_44, li_45, li_46, li_47, li_48, li_49, li_50, li_51, li_52, li_53, li_54, li_55, li_56, li_57, li_58, li_59, li_60, li_61, li_62, li_63, li_64, li_65, li_66, li_67, li_68, li_69, li_70, li_71, li_72, li_73, li_74, li_75, li_76, li_77, li_78, li_79, li_80, li_81, li_82, li_83, li_84, li_85, li_86, li_87, li_88, li_89, li_90, li_91, li_92, li_93, li_94, li_95, li_96, li_97, li_98, li_99, li_100, li_101, li_102, li_103, li_104, li_105, li_106, li_107, li_108, li_109, li_110, li_111, li_112, li_113, li_114, li_115, li_116, li_117, li_118, li_119, li_120, li_121, li_122, li_123, li_124, li_125, li_126, li_127, li_128, li_144, li_150, li_200, li_255, li_384, li_512, li_999, li_1000, li_1024, li_1152, li_1920, li_3776, li_4096, li_9216, li_10000, li_100000, li_1073741824, li_m, ↓rcb_17, ↓fIb_17, ↓pIb_17, ↓fRb_17_5, ↓fRb_17_6, ↓fRb_17_7, ↓fRb_17_9, ↓fRb_17_10, ↓fRb_17_11, ↓fRb_17_12, ↓fRb_17_15, ↓fRb_17_16, ↓fRb_17_17, ↓fRb_17_0, ↓aIb_18, ↓sIb_18, ↓aIb_19, ↓sIb_19, ↓aIb_20, ↓sIb_20, ↓aIb_21, ↓sIb_21, ↓aIb_22, ↓sIb_22, ↓aIb_23, ↓sIb_23, ↓aIb_24, ↓sIb_24, ↓aIb_25, ↓sIb_25, ↓aIb_26, ↓sIb_26, ↓aIb_27, ↓sIb_27, r0_17_5, r0_17_6, r0_17_7, r0_17_9, r0_17_10, r0_17_11, r0_17_12, r0_17_15, r0_17_16, r0_17_17, r0_17_0, rc_17, fI_17, fR_17, pI_17, pR_17, aI_18, sI_18, aI_19, sI_19, aI_20, sI_20, aI_21, sI_21, aI_22, sI_22, aI_23, sI_23, aI_24, sI_24, aI_25, sI_25, aI_26, sI_26, aI_27, sI_27, w_bind, w_bd2, b01_eq0, b01_ok, b01_ok2, w_lt, w_le, w_eq, w_mlt, w_mle, w_ltm, w_lem, w_meq, w_eqm, w_mm, w_mmlt, w_mmle, nI_add, w_sub, pk_mul, w_div, w_rem, w_and, w_or, w_shr, w_shl1, w_a31, w_andn, ↓reduceIte, Nat.reduceAdd, Nat.reduceEqDiff, Nat.zero_lt_one, Nat.not_lt_zero, Nat.one_ne_zero, Nat.zero_ne_one, not_true_eq_false, not_false_eq_true, Bool.false_eq_true, Bool.true_eq_false, h1, hne, up2_k (show (17 : Nat) ≠ 23 by decide), up2_k (show (17 : Nat) ≠ 24 by decide), up2_k (show (17 : Nat) ≠ 22 by decide), up2_k (show (21 : Nat) ≠ 23 by decide), up2_k (show (21 : Nat) ≠ 24 by decide), up2_k (show (21 : Nat) ≠ 22 by decide)]
  · rw [up2_k (by decide), up2_s]
  · omega
  · intro e he
    rw [up2_k (by decide), up2_k (by decide), up2_k (by decide), up2_k (by decide)]
    by_cases z : e = ne
    · subst z; rw [up2_s, gs]
    · rw [up2_i z, gn e (by omega)]; exact h3 e (by omega)
  · intro e he
    rw [up2_k (by decide), up2_k (by decide), up2_k (by decide)]
    by_cases z : e = ne
    · subst z; rw [up2_s, gs]
    · rw [up2_i z, up2_k (by decide), gn e (by omega)]; exact h4 e (by omega)
  · intro e he
    rw [up2_k (by decide), up2_k (by decide)]
    by_cases z : e = ne
    · subst z; rw [up2_s, tgs, lc t e (Nat.le_refl _)]; exact h6t
    · rw [up2_i z, up2_k (by decide), up2_k (by decide), tg e (by omega), lc _ e (by omega)]; exact h5 e (by omega)
  · intro p hp
    unfold lastI
    rw [tgs]
    by_cases z : t = p
    · subst z; rw [up2_s, if_pos rfl]; rfl
    · rw [up2_i (Ne.symm z), if_neg z, lc p ne (Nat.le_refl _), up2_k (by decide), up2_k (by decide), up2_k (by decide), up2_k (by decide)]; exact h6 p hp
  · intro e he
    by_cases z : e = ne
    · subst z; rw [gs]; exact ⟨ho, (hD q m ho).mpr (Or.inr rfl)⟩
    · rw [gn e (by omega)]
      exact ⟨(h7 e (by omega)).1, (hD _ _ (h7 e (by omega)).1).mpr (Or.inl (h7 e (by omega)).2)⟩
  · intro e f he hf hg
    by_cases z : e = ne
    · by_cases y : f = ne
      · omega
      · rw [z, gs, gn f (by omega)] at hg
        have := (h7 f (by omega)).2
        rw [← hg] at this
        simp only at this
        rw [hd0] at this
        cases this
    · by_cases y : f = ne
      · rw [y, gs, gn e (by omega)] at hg
        have := (h7 e (by omega)).2
        rw [hg] at this
        simp only at this
        rw [hd0] at this
        cases this
      · rw [gn e (by omega), gn f (by omega)] at hg
        exact h8 e f (by omega) (by omega) hg
  · intro q' m' ho' hd'
    rcases (hD q' m' ho').mp hd' with z | z
    · obtain ⟨e, e1, e2⟩ := h9 q' m' ho' z
      exact ⟨e, by omega, by rw [gn e e1]; exact e2⟩
    · exact ⟨ne, by omega, by rw [gs]; exact z.symm⟩
  · intro k k1 k2 k3 k4 k5
    rw [up2_ne k2, up2_ne k1, up2_ne k3, up2_ne k5, up2_ne k4]
  · intro i hi
    rw [up2_k (by decide), up2_i hi, up2_k (by decide), up2_k (by decide), up2_k (by decide)]
end Edges
