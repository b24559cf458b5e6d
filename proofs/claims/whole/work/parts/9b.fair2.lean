/-! fairer: the class -/
section Fair2
variable {FU ver : Nat} {P : Pln} {I J : Nat → Nat → Int32} {pl nm hd rd : Option Nat} {L : Sd → Option Nat}
noncomputable def lenO (P : Pln) : Sd → Option Nat := Classical.epsilon (fun L : Sd → Option Nat => LenF P L ∧ ∀ s, ¬ Vd P s → L s = none)
theorem lenO_eq (hW : WfP P) (h1 : LenF P L) (h0 : ∀ s, ¬ Vd P s → L s = none) : L = lenO P := by
  have h := Classical.epsilon_spec (p := fun L : Sd → Option Nat => LenF P L ∧ ∀ s, ¬ Vd P s → L s = none) ⟨L, h1, h0⟩
  funext s
  by_cases v : Vd P s
  · exact len_eq hW h1 h.1 v
  · rw [h0 s v]
    exact (h.2 s v).symm
def unf (w a : Nat) : Nat := if a ≤ 2 * w then 2 * w - a else a - 2 * w
noncomputable def uO (P : Pln) : Nat := unf (wonP P (lenO P) 512) (allP P 512)
theorem uO_lt (P : Pln) : uO P < 2000 := by
  unfold uO unf
  have h1 : wonP P (lenO P) 512 ≤ 512 := cnt_le _ _
  have h2 : allP P 512 ≤ 512 := cnt_le _ _
  split <;> omega
theorem c_unfair (hW : WfP P) (hS : SolC P L I) : fX6_unfairness FU 17 (I, R0 pl nm hd rd) = some (nI (uO P), (I, R0 pl nm hd rd)) := by
  have e := lenO_eq hW hS.1 hS.2.1
  have h1 : wonP P (lenO P) 512 ≤ 512 := cnt_le _ _
  have h2 : allP P 512 ≤ 512 := cnt_le _ _
  have a2 := hS.2.2.2.2.2.1
  have a3 := hS.2.2.2.2.2.2.1
  rw [e] at a2
  unfold fX6_unfairness uO unf
  rw [fIb_17, a2, fIb_17, a3]
  generalize wonP P (lenO P) 512 = w at h1 ⊢
  generalize allP P 512 = a at h2 ⊢
  by_cases z : a ≤ 2 * w
  · have e1 : (2 : Int32) * nI w - nI a = nI (2 * w - a) := by simp (discharger := omega) only [li_0, li_1, li_2, li_3, li_4, li_5, li_6, li_7, li_8, li_9, li_10, li_11, li_12, li_13, li_14, li_15, li_16, li_17, li_18, li_19, li_20, li_21, li_22, li_23, li_24, li_25, li_26, li_27, li_28, li_29, li_30, li_31, li_32, li_33, li_34, li_35, li_36, li_37, li_38, li_39, li_40, li_41, li_42, li_43, li_44, li_45, li_46, li_47, li_48, li_49, li_50, li_51, li_52, li_53, li_54, li_55, li_56, li_57, li_58, li_59, li_60, li_61, li_62, li_63, li_64, li_65, li_66, li_67, li_68, li_69, li_70, li_71, li_72, li_73, li_74, li_75, li_76, li_77, li_78, li_79, li_80, li_81, li_82, li_83, li_84, li_85, li_86, li_87, li_88, li_89, li_90, li_91, li_92, li_93, li_94, li_95, li_96, li_97, li_98, li_99, li_100, li_101, li_102, li_103, li_104, li_105, li_106, li_107, li_108, li_109, li_110, li_111, li_112, li_113, li_114, li_115, li_116, li_117, li_118, li_119, li_120, li_121, li_122, li_123, li_124, li_125, li_126, li_127, li_128, li_144, li_150, li_200, li_255, li_384, li_512, li_999, li_1000, li_1024, li_1152, li_1920, li_3776, li_4096, li_9216, li_10000, li_100000, li_1073741824, li_m, w_lt, w_le, w_eq, w_mlt, w_mle, w_ltm, w_lem, w_meq, w_eqm, w_mm, w_mmlt, w_mmle, nI_add, w_sub, pk_mul, w_div, w_rem, w_and, w_or, w_shr, w_shl1, w_a31, w_andn]
    rw [e1, if_pos (by rw [li_0, w_le (by omega) (by omega)]; omega), if_pos z]
  · have e1 : (2 : Int32) * nI w - nI a = mI (a - 2 * w) := by
      rw [li_2, pk_mul, w_subm (by omega)]
    have e2 : ¬ (0 : Int32) ≤ mI (a - 2 * w) := by simp (discharger := omega) only [li_0, li_1, li_2, li_3, li_4, li_5, li_6, li_7, li_8, li_9, li_10, li_11, li_12, li_13, li_14, li_15, li_16, li_17, li_18, li_19, li_20, li_21, li_22, li_23, li_24, li_25, li_26, li_27, li_28, li_29, li_30, li_31, li_32, li_33, li_34, li_35, li_36, li_37, li_38, li_39, li_40, li_41, li_42, li_43, li_44, li_45, li_46, li_47, li_48, li_49, li_50, li_51, li_52, li_53, li_54, li_55, li_56, li_57, li_58, li_59, li_60, li_61, li_62, li_63, li_64, li_65, li_66, li_67, li_68, li_69, li_70, li_71, li_72, li_73, li_74, li_75, li_76, li_77, li_78, li_79, li_80, li_81, li_82, li_83, li_84, li_85, li_86, li_87, li_88, li_89, li_90, li_91, li_92, li_93, li_94, li_95, li_96, li_97, li_98, li_99, li_100, li_101, li_102, li_103, li_104, li_105, li_106, li_107, li_108, li_109, li_110, li_111, li_112, li_113, li_114, li_115, li_116, li_117, li_118, li_119, li_120, li_121, li_122, li_123, li_124, li_125, li_126, li_127, li_128, li_144, li_150, li_200, li_255, li_384, li_512, li_999, li_1000, li_1024, li_1152, li_1920, li_3776, li_4096, li_9216, li_10000, li_100000, li_1073741824, li_m, w_lt, w_le, w_eq, w_mlt, w_mle, w_ltm, w_lem, w_meq, w_eqm, w_mm, w_mmlt, w_mmle, nI_add, w_sub, pk_mul, w_div, w_rem, w_and, w_or, w_shr, w_shl1, w_a31, w_andn, n_leT, n_leF, n_ltT, n_ltF, n_eqT, n_eqF, and_true, true_and, and_false, false_and, or_true, true_or, or_false, false_or, not_true_eq_false, not_false_eq_true, ↓reduceIte, Nat.reduceAdd, Nat.reduceEqDiff, Nat.zero_lt_one, Nat.not_lt_zero, Nat.one_ne_zero, Nat.zero_ne_one, not_true_eq_false, not_false_eq_true, Bool.false_eq_true, Bool.true_eq_false]
    have e3 : (0 : Int32) - mI (a - 2 * w) = nI (a - 2 * w) := by
      unfold mI
      rw [Int32.zero_sub, Int32.neg_neg]
    rw [e1, if_neg e2, e3, if_neg z]
theorem c_fairQ (hF : 99999999 ≤ FU) {Q : Pln} (h9 : PlC 9 Q I) (hW : WfP Q) : ∃ I', fX6_solve FU 17 (some 9) (I, R0 pl nm hd rd) = some (I', R0 (some 9) nm hd rd) ∧ fX6_unfairness FU 17 (I', R0 (some 9) nm hd rd) = some (nI (uO Q), (I', R0 (some 9) nm hd rd)) ∧ ∀ k, k < 17 ∨ 27 < k → I' k = I k := by
  obtain ⟨I', L, s1, s2, s3, s4, s5⟩ := c_solve (pl := pl) (nm := nm) (hd := hd) (rd := rd) hF (Or.inr rfl) h9 hW
  exact ⟨I', s1, c_unfair hW s2, s5⟩
/-- the best change so far: its number, how far from fair -/
abbrev Fo : Type := Option (Nat × Nat)
def fUp (fo : Fo) (f d : Nat) : Fo := match fo with
  | none => some (f, d)
  | some q => if d < q.2 then some (f, d) else some q
def okF (fo : Fo) : Prop := ∀ q, fo = some q → q.1 < 1000 ∧ q.2 < 2000
theorem fUp_ok {fo : Fo} {f d : Nat} (h : okF fo) (hf : f < 1000) (h2 : d < 2000) : okF (fUp fo f d) := by
  intro q e
  unfold fUp at e
  cases fo with
  | none =>
    have e := Option.some.inj e
    subst e
    exact ⟨hf, h2⟩
  | some p =>
    simp only at e
    split at e
    · have e := Option.some.inj e
      subst e
      exact ⟨hf, h2⟩
    · exact h q e
def fF (fo : Fo) : Int32 := oI (fo.map (fun q => q.1))
def fN (z : Nat) (fo : Fo) : Int32 := match fo with
  | none => nI z
  | some q => nI q.2
/-- without each way -/
noncomputable def frW (P : Pln) : Nat → Fo
  | 0 => none
  | w + 1 => fUp (frW P w) (100 + w) (uO (woP P w (Pn P)))
/-- with a way more between a and each b above it -/
noncomputable def frB (P : Pln) (a : Nat) (fo : Fo) : Nat → Fo
  | 0 => fo
  | d + 1 => if bsd P a (a + 1 + d) = true then frB P a fo d else fUp (frB P a fo d) (200 + 10 * a + (a + 1 + d)) (uO (addW (woP P 99 (Pn P)) 0 a (a + 1 + d)))
noncomputable def frA (P : Pln) (fo : Fo) : Nat → Fo
  | 0 => fo
  | a + 1 => frB P a (frA P fo a) (Pp P - (a + 1))
noncomputable def frO (P : Pln) : Fo := if Pn P < 16 then frA P (frW P (Pn P)) (Pp P) else frW P (Pn P)
theorem frW_ok (w : Nat) (hw : w ≤ 16) : okF (frW P w) := by
  induction w with
  | zero => intro q e; cases e
  | succ w ih => exact fUp_ok (ih (by omega)) (by omega) (uO_lt _)
theorem frB_ok {a : Nat} {fo : Fo} (h : okF fo) (ha : a < 8) (d : Nat) (hb : d ≤ 8) : okF (frB P a fo d) := by
  induction d with
  | zero => exact h
  | succ d ih =>
    unfold frB
    split
    · exact ih (by omega)
    · exact fUp_ok (ih (by omega)) (by omega) (uO_lt _)
theorem frA_ok (hp : Pp P ≤ 8) {fo : Fo} (h : okF fo) (a : Nat) (ha : a ≤ 8) : okF (frA P fo a) := by
  induction a with
  | zero => exact h
  | succ a ih => exact frB_ok (ih (by omega)) (by omega) _ (by omega)
/-- the class takes the lesser -/
theorem c_upd {α : Type} {fo : Fo} (h : okF fo) {f d : Nat} (hd' : d < 2000) {K : Int32 → Int32 → α} : (if fN 1073741824 fo ≤ nI d then K (fF fo) (fN 1073741824 fo) else K (nI f) (nI d)) = K (fF (fUp fo f d)) (fN 1073741824 (fUp fo f d)) := by
  cases fo with
  | none =>
    have : ¬ fN 1073741824 none ≤ nI d := by
      show ¬ nI 1073741824 ≤ nI d
      rw [w_le (by omega) (by omega)]
      omega
    rw [if_neg this]
    rfl
  | some q =>
    obtain ⟨q1, q2⟩ := h q rfl
    show (if nI q.2 ≤ nI d then _ else _) = _
    by_cases z : d < q.2
    · have e : fUp (some q) f d = some (f, d) := by
        unfold fUp
        simp only
        rw [if_pos z]
      rw [if_neg (by rw [w_le (by omega) (by omega)]; omega), e]
      rfl
    · have e : fUp (some q) f d = some q := by
        unfold fUp
        simp only
        rw [if_neg z]
      rw [if_pos (by rw [w_le (by omega) (by omega)]; omega), e]
theorem hX_w {w x : Nat} (hw : w < 16) (hx : x < 16) : (nI w = nI x) = (w = x) := w_eq (by omega) (by omega)
def FP (pl : Option Nat) (I : Nat → Nat → Int32) (pl' : Option Nat) (I' : Nat → Nat → Int32) : Prop := (pl' = pl ∧ ∀ k, 17 ≤ k → k ≤ 27 → I' k = I k) ∨ pl' = some 9
theorem FP.trans {pl1 pl2 : Option Nat} {I1 I2 : Nat → Nat → Int32} (a : FP pl I pl1 I1) (b : FP pl1 I1 pl2 I2) : FP pl I pl2 I2 := by
  rcases b with ⟨b1, b2⟩ | b
  · rcases a with ⟨a1, a2⟩ | a
    · exact Or.inl ⟨b1.trans a1, fun k k1 k2 => (b2 k k1 k2).trans (a2 k k1 k2)⟩
    · exact Or.inr (b1.trans a)
  · exact Or.inr b
theorem c_fair7 (hF : 99999999 ≤ FU) (hW : WfP P) (h0 : shN P (Pn P) = 0) : ∀ d w I pl F, d + w = Pn P → d < F → PlC 1 P I → I 9 0 = nI (Pp P) → ∃ I' pl', fX8_fairestChange_L7 FU 0 F (fF (frW P w)) (fN 1073741824 (frW P w)) (nI w) (I, R0 pl nm hd rd) = fX8_fairestChange_L72 FU 0 FU (fF (frW P (Pn P))) (fN 1073741824 (frW P (Pn P))) (nI 0) (I', R0 pl' nm hd rd) ∧ I' 9 0 = nI (Pp P) ∧ FP pl I pl' I' ∧ (∀ k, k < 9 ∨ 27 < k → I' k = I k) := by
  have hn := wf_n hW
  intro d
  induction d with
  | zero =>
    intro w I pl F h1 h2 hC h9
    obtain ⟨G, rfl⟩ : ∃ G, F = G + 1 := ⟨F - 1, by omega⟩
    have e : w = Pn P := by omega
    subst e
    refine ⟨I, pl, ?_, h9, Or.inl ⟨rfl, fun _ _ _ => rfl⟩, fun _ _ => rfl⟩
    rw [fX8_fairestChange_L7, fRb_0_0, fIb_1, hC.2.1, if_pos (by rw [w_le (by omega) (by omega)]; omega), li_0]
  | succ d ih =>
    intro w I pl F h1 h2 hC h9
    obtain ⟨G, rfl⟩ : ∃ G, F = G + 1 := ⟨F - 1, by omega⟩
    have f0 : ¬ nI (Pn P) ≤ nI w := by rw [w_le (by omega) (by omega)]; omega
    obtain ⟨I1, a1, a2, a3⟩ := c_becomes (FU := FU) (pl := pl) (nm := nm) (hd := hd) (rd := rd) hF hC hW h0 h9 (X := nI w) (x := w) (fun v hv => hX_w hv (by omega))
    have wf := (woP_wf hW h0 w (Pn P) (Nat.le_refl _)).1
    obtain ⟨I2, b1, b2, b3⟩ := c_fairQ (FU := FU) (pl := pl) (nm := nm) (hd := hd) (rd := rd) hF a2 wf
    have hC2 : PlC 1 P I2 := hC.congr (fun k _ _ => by rw [b3 k (by omega), a3 k (by omega)])
    have h92 : I2 9 0 = nI (Pp P) := by rw [b3 9 (by omega), a2.1, (woP_p P w (Pn P)).1]
    obtain ⟨I3, pl', c1, c2, c3, c4⟩ := ih (w + 1) I2 (some 9) G (by omega) (by omega) hC2 h92
    refine ⟨I3, pl', ?_, c2, FP.trans (Or.inr rfl) c3, fun k hk => by rw [c4 k hk, b3 k (by omega), a3 k (by omega)]⟩
    rw [← c1, fX8_fairestChange_L7, fRb_0_0, fIb_1, hC.2.1, if_neg f0, fRb_0_1, fRb_0_0, show rc 3 (some 9) = some 9 from rfl, w_bind, dn1 a1, fRb_0_2, fRb_0_1, show rc 6 (some 17) = some 17 from rfl, w_bind, dn1 b1, fRb_0_2, show rc 6 (some 17) = some 17 from rfl, w_bind, dn b2]
    have k1 := c_upd (frW_ok (P := P) w (by omega)) (f := 100 + w) (uO_lt (woP P w (Pn P))) (K := fun x y => fX8_fairestChange_L7 FU 0 G x y (nI (w + 1)) (I2, R0 (some 9) nm hd rd))
    unfold fX8_fairestChange_b64
    rw [li_1, nI_add, li_100, nI_add]
    exact k1
theorem bsd_near {a b : Nat} (hb : b < 8) : (nearM P a).testBit b = bsd P a b := by
  rw [tb_near]
  simp [hb]
theorem c_fair100 (hF : 99999999 ≤ FU) (hW : WfP P) (h0 : shN P (Pn P) = 0) (hn : Pn P < 16) {a : Nat} (ha : a < Pp P) {fo : Fo} (hfo : okF fo) {K : Int32 → Int32 → Int32 → Mem → Option (Int32 × Mem)} : ∀ e d I pl F, e + (a + 1 + d) = Pp P → e < F → PlC 1 P I → I 9 0 = nI (Pp P) → ∃ I' pl', fX8_fairestChange_L100 FU K 0 (nI a) F (fF (frB P a fo d)) (fN 1073741824 (frB P a fo d)) (nI (a + 1 + d)) (I, R0 pl nm hd rd) = K (fF (frB P a fo (Pp P - (a + 1)))) (fN 1073741824 (frB P a fo (Pp P - (a + 1)))) (nI (a + 1)) (I', R0 pl' nm hd rd) ∧ I' 9 0 = nI (Pp P) ∧ FP pl I pl' I' ∧ (∀ k, k < 9 ∨ 27 < k → I' k = I k) := by
  have hp := wf_p hW
  intro e
  induction e with
  | zero =>
    intro d I pl F h1 h2 hC h9
    obtain ⟨G, rfl⟩ : ∃ G, F = G + 1 := ⟨F - 1, by omega⟩
    have e : Pp P - (a + 1) = d := by omega
    refine ⟨I, pl, ?_, h9, Or.inl ⟨rfl, fun _ _ _ => rfl⟩, fun _ _ => rfl⟩
    rw [e, fX8_fairestChange_L100, fRb_0_0, fIb_1, hC.1, if_pos (by rw [w_le (by omega) (by omega)]; omega), li_1, nI_add]
  | succ e ih =>
    intro d I pl F h1 h2 hC h9
    obtain ⟨G, rfl⟩ : ∃ G, F = G + 1 := ⟨F - 1, by omega⟩
    have f0 : ¬ nI (Pp P) ≤ nI (a + 1 + d) := by rw [w_le (by omega) (by omega)]; omega
    have nl := nearM_lt P a
    have nb := hC.2.2.2.2.2.2.2.2.2.2.2 a ha
    rw [fX8_fairestChange_L100, fRb_0_0, fIb_1, hC.1, if_neg f0, fRb_0_0, fRb_1_7, aIb_8 (by omega), nb]
    have cond : ((nI (nearM P a) >>> (nI (a + 1 + d) &&& 31)) &&& (1 : Int32) = 0) = (bsd P a (a + 1 + d) = false) := by
      rw [← bsd_near (P := P) (a := a) (b := a + 1 + d) (by omega)]
      clear nb hC
      simp (discharger := omega) only [li_0, li_1, li_2, li_3, li_4, li_5, li_6, li_7, li_8, li_9, li_10, li_11, li_12, li_13, li_14, li_15, li_16, li_17, li_18, li_19, li_20, li_21, li_22, li_23, li_24, li_25, li_26, li_27, li_28, li_29, li_30, li_31, li_32, li_33, li_34, li_35, li_36, li_37, li_38, li_39, li_40, li_41, li_42, li_43, li_44, li_45, li_46, li_47, li_48, li_49, li_50, li_51, li_52, li_53, li_54, li_55, li_56, li_57, li_58, li_59, li_60, li_61, li_62, li_63, li_64, li_65, li_66, li_67, li_68, li_69, li_70, li_71, li_72, li_73, li_74, li_75, li_76, li_77, li_78, li_79, li_80, li_81, li_82, li_83, li_84, li_85, li_86, li_87, li_88, li_89, li_90, li_91, li_92, li_93, li_94, li_95, li_96, li_97, li_98, li_99, li_100, li_101, li_102, li_103, li_104, li_105, li_106, li_107, li_108, li_109, li_110, li_111, li_112, li_113, li_114, li_115, li_116, li_117, li_118, li_119, li_120, li_121, li_122, li_123, li_124, li_125, li_126, li_127, li_128, li_144, li_150, li_200, li_255, li_384, li_512, li_999, li_1000, li_1024, li_1152, li_1920, li_3776, li_4096, li_9216, li_10000, li_100000, li_1073741824, li_m, w_lt, w_le, w_eq, w_mlt, w_mle, w_ltm, w_lem, w_meq, w_eqm, w_mm, w_mmlt, w_mmle, nI_add, w_sub, pk_mul, w_div, w_rem, w_and, w_or, w_shr, w_shl1, w_a31, w_andn, w_a1, w_bit0]
    by_cases z : bsd P a (a + 1 + d) = true
    · have e1 : frB P a fo (d + 1) = frB P a fo d := by
        rw [frB, if_pos z]
      rw [if_neg (by rw [cond, z]; decide)]
      obtain ⟨I3, pl', c1, c2⟩ := ih (d + 1) I pl G (by omega) (by omega) hC h9
      refine ⟨I3, pl', ?_, c2⟩
      unfold fX8_fairestChange_b197
      rw [← c1, e1, li_1, nI_add]
      rfl
    · have z2 : bsd P a (a + 1 + d) = false := by simpa using z
      have e1 : frB P a fo (d + 1) = fUp (frB P a fo d) (200 + 10 * a + (a + 1 + d)) (uO (addW (woP P 99 (Pn P)) 0 a (a + 1 + d))) := by
        rw [frB, if_neg z]
      rw [if_pos (by rw [cond]; exact z2)]
      have hX : ∀ w, w < 16 → ((nI w = (-1 : Int32)) = (w = 99)) := by
        intro w hw
        rw [show (-1 : Int32) = mI 1 from rfl, w_eqm (by omega) (by omega)]
        apply propext
        omega
      obtain ⟨I1, a1, a2, a3⟩ := c_becomes (FU := FU) (pl := pl) (nm := nm) (hd := hd) (rd := rd) hF hC hW h0 h9 (X := -1) (x := 99) hX
      have wf := woP_wf hW h0 99 (Pn P) (Nat.le_refl _)
      have hq := woP_p P 99 (Pn P)
      have hl : Pn (woP P 99 (Pn P)) = Pn P := by rw [woP_n, if_neg (by omega)]
      have ns : ¬ isSh 0 = true := by decide
      obtain ⟨T, t1, t2, t3, t4⟩ := c_put (FU := FU) (pl := pl) (nm := nm) (hd := hd) (rd := rd) (c := 9) (k := 0) (a := a) (b := a + 1 + d) (Or.inr rfl) a2 wf.1 (by decide) (by rw [hq.1]; exact ha) (by rw [hq.1]; omega) (by omega) (by omega) (fun y => absurd y ns)
      have wfT : WfP (addW (woP P 99 (Pn P)) 0 a (a + 1 + d)) := wf_add wf.1 (by decide) (by rw [hq.1]; exact ha) (by rw [hq.1]; omega) (by omega) (by omega) (fun y => absurd y ns)
      obtain ⟨I2, b1, b2, b3⟩ := c_fairQ (FU := FU) (pl := pl) (nm := nm) (hd := hd) (rd := rd) hF t2 wfT
      have hC2 : PlC 1 P I2 := hC.congr (fun k _ _ => by rw [b3 k (by omega), t4 k (by omega), a3 k (by omega)])
      have h92 : I2 9 0 = nI (Pp P) := by
        rw [b3 9 (by omega), t2.1]
        show nI (Pp (woP P 99 (Pn P))) = _
        rw [hq.1]
      obtain ⟨I3, pl', c1, c2, c3, c4⟩ := ih (d + 1) I2 (some 9) G (by omega) (by omega) hC2 h92
      refine ⟨I3, pl', ?_, c2, FP.trans (Or.inr rfl) c3, fun k hk => by rw [c4 k hk, b3 k (by omega), t4 k (by omega), a3 k (by omega)]⟩
      rw [← c1, e1, fRb_0_1, fRb_0_0, show rc 3 (some 9) = some 9 from rfl, w_bind, dn1 a1, fRb_0_1, show rc 3 (some 9) = some 9 from rfl, w_bind, li_0, dn t1, fRb_0_2, fRb_0_1, show rc 6 (some 17) = some 17 from rfl, w_bind, dn1 b1, fRb_0_2, show rc 6 (some 17) = some 17 from rfl, w_bind, dn b2]
      have k1 := c_upd (frB_ok (P := P) hfo (a := a) (by omega) d (by omega)) (f := 200 + 10 * a + (a + 1 + d)) (uO_lt (addW (woP P 99 (Pn P)) 0 a (a + 1 + d))) (K := fun x y => fX8_fairestChange_L100 FU K 0 (nI a) G x y (nI (a + 1 + (d + 1))) (I2, R0 (some 9) nm hd rd))
      unfold fX8_fairestChange_b197
      rw [li_1, nI_add, li_200, li_10, pk_mul, nI_add, nI_add]
      exact k1
theorem c_fair72 (hF : 99999999 ≤ FU) (hW : WfP P) (h0 : shN P (Pn P) = 0) (hn : Pn P < 16) {fo : Fo} (hfo : okF fo) : ∀ e a I pl F, e + a = Pp P → e < F → PlC 1 P I → I 9 0 = nI (Pp P) → ∃ I' pl', fX8_fairestChange_L72 FU 0 F (fF (frA P fo a)) (fN 1073741824 (frA P fo a)) (nI a) (I, R0 pl nm hd rd) = some (fF (frA P fo (Pp P)), (I', R0 pl' nm hd rd)) ∧ I' 9 0 = nI (Pp P) ∧ FP pl I pl' I' ∧ (∀ k, k < 9 ∨ 27 < k → I' k = I k) := by
  have hp := wf_p hW
  intro e
  induction e with
  | zero =>
    intro a I pl F h1 h2 hC h9
    obtain ⟨G, rfl⟩ : ∃ G, F = G + 1 := ⟨F - 1, by omega⟩
    have e : a = Pp P := by omega
    subst e
    refine ⟨I, pl, ?_, h9, Or.inl ⟨rfl, fun _ _ _ => rfl⟩, fun _ _ => rfl⟩
    rw [fX8_fairestChange_L72, fRb_0_0, fIb_1, hC.1, if_pos (by rw [w_le (by omega) (by omega)]; omega)]
  | succ e ih =>
    intro a I pl F h1 h2 hC h9
    obtain ⟨G, rfl⟩ : ∃ G, F = G + 1 := ⟨F - 1, by omega⟩
    have f0 : ¬ nI (Pp P) ≤ nI a := by rw [w_le (by omega) (by omega)]; omega
    have f1 : ¬ (16 : Int32) ≤ nI (Pn P) := by rw [li_16, w_le (by omega) (by omega)]; omega
    obtain ⟨I1, pl1, a1, a2, a3, a4⟩ := c_fair100 (FU := FU) (nm := nm) (hd := hd) (rd := rd) hF hW h0 hn (a := a) (by omega) (frA_ok hp.2 hfo a (by omega)) (K := fX8_fairestChange_L72 FU 0 G) (Pp P - (a + 1)) 0 I pl FU (by omega) (by omega) hC h9
    have hC1 : PlC 1 P I1 := hC.congr (fun k _ _ => a4 k (by omega))
    obtain ⟨I2, pl2, b1, b2, b3, b4⟩ := ih (a + 1) I1 pl1 G (by omega) (by omega) hC1 a2
    refine ⟨I2, pl2, ?_, b2, a3.trans b3, fun k hk => (b4 k hk).trans (a4 k hk)⟩
    rw [← b1, fX8_fairestChange_L72, fRb_0_0, fIb_1, hC.1, if_neg f0, fRb_0_0, fIb_1, hC.2.1, if_neg f1, li_1, nI_add]
    exact a1
theorem c_fairest (hF : 99999999 ≤ FU) (hC : PlC 1 P I) (hW : WfP P) (h0 : shN P (Pn P) = 0) (h9 : I 9 0 = nI (Pp P)) : ∃ I' pl', fX8_fairestChange FU 0 (I, R0 pl nm hd rd) = some (fF (frO P), (I', R0 pl' nm hd rd)) ∧ I' 9 0 = nI (Pp P) ∧ FP pl I pl' I' ∧ (∀ k, k < 9 ∨ 27 < k → I' k = I k) := by
  have hp := wf_p hW
  have hn := wf_n hW
  obtain ⟨I1, pl1, a1, a2, a3, a4⟩ := c_fair7 (FU := FU) (nm := nm) (hd := hd) (rd := rd) hF hW h0 (Pn P) 0 I pl FU (by omega) (by omega) hC h9
  have a1 : fX8_fairestChange FU 0 (I, R0 pl nm hd rd) = fX8_fairestChange_L72 FU 0 FU (fF (frW P (Pn P))) (fN 1073741824 (frW P (Pn P))) (nI 0) (I1, R0 pl1 nm hd rd) := a1
  have hC1 : PlC 1 P I1 := hC.congr (fun k _ _ => a4 k (by omega))
  unfold frO
  by_cases z : Pn P < 16
  · rw [if_pos z]
    obtain ⟨I2, pl2, b1, b2, b3, b4⟩ := c_fair72 (FU := FU) (nm := nm) (hd := hd) (rd := rd) hF hW h0 z (frW_ok (P := P) (Pn P) hn) (Pp P) 0 I1 pl1 FU (by omega) (by omega) hC1 a2
    exact ⟨I2, pl2, a1.trans b1, b2, a3.trans b3, fun k hk => (b4 k hk).trans (a4 k hk)⟩
  · rw [if_neg z]
    refine ⟨I1, pl1, ?_, a2, a3, a4⟩
    obtain ⟨G, hG⟩ : ∃ G, FU = G + 1 := ⟨FU - 1, by omega⟩
    have f0 : ¬ nI (Pp P) ≤ nI 0 := by rw [w_le (by omega) (by omega)]; omega
    have f1 : (16 : Int32) ≤ nI (Pn P) := by rw [li_16, w_le (by omega) (by omega)]; omega
    rw [a1, show fX8_fairestChange_L72 FU 0 FU (fF (frW P (Pn P))) (fN 1073741824 (frW P (Pn P))) (nI 0) (I1, R0 pl1 nm hd rd) = fX8_fairestChange_L72 FU 0 (G + 1) (fF (frW P (Pn P))) (fN 1073741824 (frW P (Pn P))) (nI 0) (I1, R0 pl1 nm hd rd) by rw [← hG], fX8_fairestChange_L72, fRb_0_0, fIb_1, hC1.1, if_neg f0, fRb_0_0, fIb_1, hC1.2.1, if_pos f1]
end Fair2
