/-! the class: one move backward -/
section Spread
variable {FU c : Nat} {P : Pln} {I J I1 : Nat → Nat → Int32} {pl nm hd rd : Option Nat}
def BM (P : Pln) (lf : Sd → Option Nat) (qf : Nat → Sd) (qn : Nat) (Dn : Sd → Nat → Bool) (I1 I : Nat → Nat → Int32) : Prop :=
  I 17 8 = nI qn ∧ (∀ s, inS s → s.2.2.2.2 < shS P → I 18 (cC s) = oI (lf s)) ∧ (∀ j, j < qn → I 20 j = nI (cC (qf j))) ∧
  (∀ s, Vd P s → s.2.2.2.1 = 1 → lf s = none → I 19 (cC s) = nI (cnt (fun m => (bhd P s m).isSome && !Dn s m) 33)) ∧
  (∀ j b, j < qn → lf (qf j) = some b → b ≤ j) ∧ (∀ i j, i < qn → j < qn → qf i = qf j → i = j) ∧
  (∀ k, k ≠ 17 → k ≠ 18 → k ≠ 19 → k ≠ 20 → I k = I1 k) ∧ (∀ i, i ≠ 8 → I 17 i = I1 17 i)
theorem c_decide {k qn : Nat} {x : Int32} (h8 : I 17 8 = nI qn) (hq : qn < 9216) (hk : k < 9216) : fX6_decide FU 17 (nI k) x (I, R0 pl nm hd rd) = some (up2 (up2 (up2 I 18 k x) 17 8 (nI (qn + 1))) 20 qn (nI k), R0 pl nm hd rd) := by
  unfold fX6_decide
  simp (discharger := omega) only [li_0, li_1, li_2, li_3, li_4, li_5, li_6, li_7, li_8, li_9, li_10, li_11, li_12, li_13, li_14, li_15, li_16, li_17, li_18, li_19, li_20, li_21, li_22, li_23, li_24, li_25, li_26, li_27, li_28, li_29, li_30, li_31, li_32, li_33, li_34, li_35, li_36, li_37, li_38, li_39, li_40, li_41, li_42, li_43, li_44, li_45, li_46, li_47, li_48, li_49, li_50, li_51, li_52, li_53, li_54, li_55, li_56, li_57, li_58, li_59, li_60, li_61, li_62, li_63, li_64, li_65, li_66, li_67, li_68, li_69, li_70, li_71, li_72, li_73, li_74, li_75, li_76, li_77, li_78, li_79, li_80, li_81, li_82, li_83, li_84, li_85, li_86, li_87, li_88, li_89, li_90, li_91, li_92, li_93, li_94, li_95, li_96, li_97, li_98, li_99, li_100, li_101, li_102, li_103, li_104, li_105, li_106, li_107, li_108, li_109, li_110, li_111, li_112, li_113, li_114, li_115, li_116, li_117, li_118, li_119, li_120, li_121, li_122, li_123, li_124, li_125, li_126, li_127, li_128, li_144, li_150, li_200, li_255, li_384, li_512, li_999, li_1000, li_1024, li_1152, li_1920, li_3776, li_4096, li_9216, li_10000, li_100000, li_1073741824, li_m, ↓rcb_17, ↓fIb_17, ↓pIb_17, ↓fRb_17_5, ↓fRb_17_6, ↓fRb_17_7, ↓fRb_17_9, ↓fRb_17_10, ↓fRb_17_11, ↓fRb_17_12, ↓fRb_17_15, ↓fRb_17_16, ↓fRb_17_17, ↓fRb_17_0, ↓aIb_18, ↓sIb_18, ↓aIb_19, ↓sIb_19, ↓aIb_20, ↓sIb_20, ↓aIb_21, ↓sIb_21, ↓aIb_22, ↓sIb_22, ↓aIb_23, ↓sIb_23, ↓aIb_24, ↓sIb_24, ↓aIb_25, ↓sIb_25, ↓aIb_26, ↓sIb_26, ↓aIb_27, ↓sIb_27, r0_17_5, r0_17_6, r0_17_7, r0_17_9, r0_17_10, r0_17_11, r0_17_12, r0_17_15, r0_17_16, r0_17_17, r0_17_0, rc_17, fI_17, fR_17, pI_17, pR_17, aI_18, sI_18, aI_19, sI_19, aI_20, sI_20, aI_21, sI_21, aI_22, sI_22, aI_23, sI_23, aI_24, sI_24, aI_25, sI_25, aI_26, sI_26, aI_27, sI_27, w_bind, w_bd2, b01_eq0, b01_ok, b01_ok2, w_lt, w_le, w_eq, w_mlt, w_mle, w_ltm, w_lem, w_meq, w_eqm, w_mm, w_mmlt, w_mmle, nI_add, w_sub, pk_mul, w_div, w_rem, w_and, w_or, w_shr, w_shl1, w_a31, w_andn, ↓reduceIte, Nat.reduceAdd, Nat.reduceEqDiff, Nat.zero_lt_one, Nat.not_lt_zero, Nat.one_ne_zero, Nat.zero_ne_one, not_true_eq_false, not_false_eq_true, Bool.false_eq_true, Bool.true_eq_false, h8, show ¬ 9216 ≤ qn by omega, up2_k (show (17 : Nat) ≠ 18 by decide)]
theorem bi_len {lf : Sd → Option Nat} {qf : Nat → Sd} {qn a : Nat} {Dn : Sd → Nat → Bool} (h : BI P lf qf qn a Dn) (hM : BM P lf qf qn Dn I1 I) {s : Sd} {k : Nat} (e : lf s = some k) : k < 9216 ∧ Vd P s := by
  obtain ⟨h1, h2, h3, h4, h5, h6, h7, h8, h9, h10, h11, h12⟩ := h
  have v : Vd P s := by
    apply Classical.byContradiction
    intro z
    rw [h12 s z] at e
    cases e
  obtain ⟨j, j1, j2⟩ := h2 s v (by rw [e]; rfl)
  have := hM.2.2.2.2.1 j k j1 (by rw [j2]; exact e)
  have := cnt_le (fun k => (lf (sC k)).isSome) 9216
  exact ⟨by omega, v⟩
/-- s is put into the queue -/
theorem bm_dec (hW : WfP P) {lf : Sd → Option Nat} {qf : Nat → Sd} {qn a v : Nat} {Dn Dn' : Sd → Nat → Bool} (h : BI P lf qf qn a Dn) (hM : BM P lf qf qn Dn I1 I) (ha : a < qn) {s : Sd} {m : Nat} (hs : Vd P s) (hv : lf (qf a) = some v) (hD : ∀ s' m', Dn' s' m' = (Dn s' m' || decide (s' = s ∧ m' = m))) (h0 : lf s = none) {x : Int32} (hJ : J = up2 I 19 (cC s) x ∨ J = I) : BM P (fun y => if y = s then some (v + 1) else lf y) (va_up qf qn s) (qn + 1) Dn' I1 (up2 (up2 (up2 J 18 (cC s) (nI (v + 1))) 17 8 (nI (qn + 1))) 20 qn (nI (cC s))) := by
  have hin := Vd_in hW hs
  have gn : ∀ j, j < qn → va_up qf qn s j = qf j := fun j hj => va_o (by omega)
  have gs : va_up qf qn s qn = s := va_1
  have ne : ∀ j, j < qn → qf j ≠ s := by
    intro j hj e
    have := (h.1 j hj).2
    rw [e, h0] at this
    cases this
  obtain ⟨m1, m2, m3, m4, m5, m6, m7, m8⟩ := hM
  have j18 : ∀ k, J 18 k = I 18 k := by
    intro k
    rcases hJ with e | e
    · rw [e, up2_k (by decide)]
    · rw [e]
  have j20 : ∀ k, J 20 k = I 20 k := by
    intro k
    rcases hJ with e | e
    · rw [e, up2_k (by decide)]
    · rw [e]
  have j19 : ∀ k, k ≠ cC s → J 19 k = I 19 k := by
    intro k hk
    rcases hJ with e | e
    · rw [e, up2_i hk]
    · rw [e]
  have jo : ∀ k, k ≠ 19 → J k = I k := by
    intro k hk
    rcases hJ with e | e
    · rw [e, up2_ne hk]
    · rw [e]
  refine ⟨?_, fun y hy hy2 => ?_, fun j hj => ?_, fun y hy ht e => ?_, fun j b hj e => ?_, fun i j hi hj e => ?_, fun k k1 k2 k3 k4 => ?_, fun i hi => ?_⟩
  · rw [up2_k (by decide), up2_s]
  · rw [up2_k (by decide), up2_k (by decide)]
    by_cases z : y = s
    · subst z; rw [up2_s]; simp only [if_true]; rfl
    · rw [up2_i (fun q => z (cC_inj hy hin q)), j18, m2 y hy hy2]
      simp only [if_neg z]
  · by_cases z : j = qn
    · subst z; rw [up2_s, gs]
    · rw [up2_i z, up2_k (by decide), up2_k (by decide), j20, m3 j (by omega), gn j (by omega)]
  · have z : y ≠ s := by
      intro z
      subst z
      simp only [if_true] at e
      cases e
    simp only [if_neg z] at e
    rw [up2_k (by decide), up2_k (by decide), up2_k (by decide), j19 _ (fun q => z (cC_inj (Vd_in hW hy) hin q)), m4 y hy ht e]
    congr 1
    apply cnt_congr
    intro i hi
    rw [hD]
    simp [z]
  · by_cases z : j = qn
    · subst z
      rw [gs] at e
      simp only [if_true] at e
      have e := Option.some.inj e
      have := m5 a v ha hv
      omega
    · rw [gn j (by omega)] at e
      simp only [if_neg (ne j (by omega))] at e
      exact m5 j b (by omega) e
  · by_cases z : i = qn
    · by_cases y : j = qn
      · omega
      · rw [z, gs, gn j (by omega)] at e
        exact absurd e.symm (ne j (by omega))
    · by_cases y : j = qn
      · rw [y, gs, gn i (by omega)] at e
        exact absurd e (ne i (by omega))
      · rw [gn i (by omega), gn j (by omega)] at e
        exact m6 i j (by omega) (by omega) e
  · rw [up2_ne k4, up2_ne k1, up2_ne k2, jo k k3, m7 k k1 k2 k3 k4]
  · rw [up2_k (by decide), up2_i hi, up2_k (by decide), jo 17 (by decide), m8 i hi]
theorem c_leads (hW : WfP P) {lf : Sd → Option Nat} {qf : Nat → Sd} {qn a v : Nat} {Dn Dn' : Sd → Nat → Bool} (h : BI P lf qf qn a Dn) (hM : BM P lf qf qn Dn I1 I) (ha : a < qn) {s : Sd} {m : Nat} (hs : Vd P s) (hn : nmet s) (hm : m ≤ 32) (hb : bhd P s m = some (qf a)) (hv : lf (qf a) = some v) (hdn : Dn s m = false) (hD : ∀ s' m', Dn' s' m' = (Dn s' m' || decide (s' = s ∧ m' = m))) : ∃ J lf' qf' qn', fX6_leadsTo FU 17 (nI (cC s)) (nI (v + 1)) (I, R0 pl nm hd rd) = some (J, R0 pl nm hd rd) ∧ BI P lf' qf' qn' a Dn' ∧ BM P lf' qf' qn' Dn' I1 J ∧ qn ≤ qn' ∧ (∀ j, j < qn → qf' j = qf j) ∧ (∀ x k, lf x = some k → lf' x = some k) := by
  have hin := Vd_in hW hs
  have hcs := cC_lt hin
  have hshs := hs.2.2.2
  have e18 := hM.2.1 s hin hshs
  have d1 := c_isRunnersTurn (FU := FU) (pl := pl) (nm := nm) (hd := hd) (rd := rd) (I := I) hin
  have hv2 := (bi_len h hM hv).1
  cases e : lf s with
  | some k =>
    rw [e] at e18
    have hk := (bi_len h hM e).1
    refine ⟨I, lf, qf, qn, ?_, bi_skip h ha hs hn hm hb hdn hD (Or.inl (by rw [e]; simp)), ?_, Nat.le_refl _, fun _ _ => rfl, fun _ _ z => z⟩
    · unfold fX6_leadsTo
      simp (discharger := omega) only [li_0, li_1, li_2, li_3, li_4, li_5, li_6, li_7, li_8, li_9, li_10, li_11, li_12, li_13, li_14, li_15, li_16, li_17, li_18, li_19, li_20, li_21, li_22, li_23, li_24, li_25, li_26, li_27, li_28, li_29, li_30, li_31, li_32, li_33, li_34, li_35, li_36, li_37, li_38, li_39, li_40, li_41, li_42, li_43, li_44, li_45, li_46, li_47, li_48, li_49, li_50, li_51, li_52, li_53, li_54, li_55, li_56, li_57, li_58, li_59, li_60, li_61, li_62, li_63, li_64, li_65, li_66, li_67, li_68, li_69, li_70, li_71, li_72, li_73, li_74, li_75, li_76, li_77, li_78, li_79, li_80, li_81, li_82, li_83, li_84, li_85, li_86, li_87, li_88, li_89, li_90, li_91, li_92, li_93, li_94, li_95, li_96, li_97, li_98, li_99, li_100, li_101, li_102, li_103, li_104, li_105, li_106, li_107, li_108, li_109, li_110, li_111, li_112, li_113, li_114, li_115, li_116, li_117, li_118, li_119, li_120, li_121, li_122, li_123, li_124, li_125, li_126, li_127, li_128, li_144, li_150, li_200, li_255, li_384, li_512, li_999, li_1000, li_1024, li_1152, li_1920, li_3776, li_4096, li_9216, li_10000, li_100000, li_1073741824, li_m, ↓rcb_17, ↓fIb_17, ↓pIb_17, ↓fRb_17_5, ↓fRb_17_6, ↓fRb_17_7, ↓fRb_17_9, ↓fRb_17_10, ↓fRb_17_11, ↓fRb_17_12, ↓fRb_17_15, ↓fRb_17_16, ↓fRb_17_17, ↓fRb_17_0, ↓aIb_18, ↓sIb_18, ↓aIb_19, ↓sIb_19, ↓aIb_20, ↓sIb_20, ↓aIb_21, ↓sIb_21, ↓aIb_22, ↓sIb_22, ↓aIb_23, ↓sIb_23, ↓aIb_24, ↓sIb_24, ↓aIb_25, ↓sIb_25, ↓aIb_26, ↓sIb_26, ↓aIb_27, ↓sIb_27, r0_17_5, r0_17_6, r0_17_7, r0_17_9, r0_17_10, r0_17_11, r0_17_12, r0_17_15, r0_17_16, r0_17_17, r0_17_0, rc_17, fI_17, fR_17, pI_17, pR_17, aI_18, sI_18, aI_19, sI_19, aI_20, sI_20, aI_21, sI_21, aI_22, sI_22, aI_23, sI_23, aI_24, sI_24, aI_25, sI_25, aI_26, sI_26, aI_27, sI_27, w_bind, w_bd2, b01_eq0, b01_ok, b01_ok2, w_lt, w_le, w_eq, w_mlt, w_mle, w_ltm, w_lem, w_meq, w_eqm, w_mm, w_mmlt, w_mmle, nI_add, w_sub, pk_mul, w_div, w_rem, w_and, w_or, w_shr, w_shl1, w_a31, w_andn, ↓reduceIte, Nat.reduceAdd, Nat.reduceEqDiff, Nat.zero_lt_one, Nat.not_lt_zero, Nat.one_ne_zero, Nat.zero_ne_one, not_true_eq_false, not_false_eq_true, Bool.false_eq_true, Bool.true_eq_false, e18, oI]
    · obtain ⟨m1, m2, m3, m4, m5, m6, m7, m8⟩ := hM
      refine ⟨m1, m2, m3, fun y hy ht ey => ?_, m5, m6, m7, m8⟩
      have z : y ≠ s := by intro z; rw [z, e] at ey; cases ey
      rw [m4 y hy ht ey]
      congr 1
      apply cnt_congr
      intro i hi
      rw [hD]
      simp [z]
  | none =>
    rw [e] at e18
    obtain ht | ht : s.2.2.2.1 = 0 ∨ s.2.2.2.1 = 1 := by have := hs.2.2.1; omega
    · obtain ⟨q1, q2⟩ := bi_dec hW h ha hs hn hm hb hv hdn hD e (Or.inl ht)
      have q3 := bm_dec hW h hM ha hs (x := 0) hv hD e (Or.inr rfl)
      refine ⟨_, _, _, _, ?_, q1, q3, by omega, fun j hj => va_o (by omega), fun x k z => ?_⟩
      · have d2 := c_decide (FU := FU) (pl := pl) (nm := nm) (hd := hd) (rd := rd) (x := nI (v + 1)) hM.1 q2 hcs
        rw [ht] at d1
        unfold fX6_leadsTo fX6_leadsTo_b37
        simp (discharger := omega) only [li_0, li_1, li_2, li_3, li_4, li_5, li_6, li_7, li_8, li_9, li_10, li_11, li_12, li_13, li_14, li_15, li_16, li_17, li_18, li_19, li_20, li_21, li_22, li_23, li_24, li_25, li_26, li_27, li_28, li_29, li_30, li_31, li_32, li_33, li_34, li_35, li_36, li_37, li_38, li_39, li_40, li_41, li_42, li_43, li_44, li_45, li_46, li_47, li_48, li_49, li_50, li_51, li_52, li_53, li_54, li_55, li_56, li_57, li_58, li_59, li_60, li_61, li_62, li_63, li_64, li_65, li_66, li_67, li_68, li_69, li_70, li_71, li_72, li_73, li_74, li_75, li_76, li_77, li_78, li_79, li_80, li_81, li_82, li_83, li_84, li_85, li_86, li_87, li_88, li_89, li_90, li_91, li_92, li_93, li_94, li_95, li_96, li_97, li_98, li_99, li_100, li_101, li_102, li_103, li_104, li_105, li_106, li_107, li_108, li_109, li_110, li_111, li_112, li_113, li_114, li_115, li_116, li_117, li_118, li_119, li_120, li_121, li_122, li_123, li_124, li_125, li_126, li_127, li_128, li_144, li_150, li_200, li_255, li_384, li_512, li_999, li_1000, li_1024, li_1152, li_1920, li_3776, li_4096, li_9216, li_10000, li_100000, li_1073741824, li_m, ↓rcb_17, ↓fIb_17, ↓pIb_17, ↓fRb_17_5, ↓fRb_17_6, ↓fRb_17_7, ↓fRb_17_9, ↓fRb_17_10, ↓fRb_17_11, ↓fRb_17_12, ↓fRb_17_15, ↓fRb_17_16, ↓fRb_17_17, ↓fRb_17_0, ↓aIb_18, ↓sIb_18, ↓aIb_19, ↓sIb_19, ↓aIb_20, ↓sIb_20, ↓aIb_21, ↓sIb_21, ↓aIb_22, ↓sIb_22, ↓aIb_23, ↓sIb_23, ↓aIb_24, ↓sIb_24, ↓aIb_25, ↓sIb_25, ↓aIb_26, ↓sIb_26, ↓aIb_27, ↓sIb_27, r0_17_5, r0_17_6, r0_17_7, r0_17_9, r0_17_10, r0_17_11, r0_17_12, r0_17_15, r0_17_16, r0_17_17, r0_17_0, rc_17, fI_17, fR_17, pI_17, pR_17, aI_18, sI_18, aI_19, sI_19, aI_20, sI_20, aI_21, sI_21, aI_22, sI_22, aI_23, sI_23, aI_24, sI_24, aI_25, sI_25, aI_26, sI_26, aI_27, sI_27, ↓dn d1, ↓dn1 d2, w_bind, w_bd2, b01_eq0, b01_ok, b01_ok2, w_lt, w_le, w_eq, w_mlt, w_mle, w_ltm, w_lem, w_meq, w_eqm, w_mm, w_mmlt, w_mmle, nI_add, w_sub, pk_mul, w_div, w_rem, w_and, w_or, w_shr, w_shl1, w_a31, w_andn, ↓reduceIte, Nat.reduceAdd, Nat.reduceEqDiff, Nat.zero_lt_one, Nat.not_lt_zero, Nat.one_ne_zero, Nat.zero_ne_one, not_true_eq_false, not_false_eq_true, Bool.false_eq_true, Bool.true_eq_false, e18, oI]
      · have : x ≠ s := by intro y; rw [y, e] at z; cases z
        simp only [if_neg this]
        exact z
    · have e19 := hM.2.2.2.1 s hs ht e
      have cpos := h.2.2.2.2.2.2.2.1 s hs ht e
      have cle := cnt_le (fun m => (bhd P s m).isSome && !Dn s m) 33
      rw [ht] at d1
      by_cases z : cnt (fun m => (bhd P s m).isSome && !Dn s m) 33 = 1
      · obtain ⟨q1, q2⟩ := bi_dec hW h ha hs hn hm hb hv hdn hD e (Or.inr ⟨ht, z⟩)
        have q3 := bm_dec hW h hM ha hs (x := nI 0) hv hD e (Or.inl rfl)
        refine ⟨_, _, _, _, ?_, q1, q3, by omega, fun j hj => va_o (by omega), fun x k y => ?_⟩
        · have d2 := c_decide (FU := FU) (pl := pl) (nm := nm) (hd := hd) (rd := rd) (I := up2 I 19 (cC s) (nI 0)) (x := nI (v + 1)) (by rw [up2_k (by decide)]; exact hM.1) q2 hcs
          rw [z] at e19
          unfold fX6_leadsTo fX6_leadsTo_b37
          simp (discharger := omega) only [li_0, li_1, li_2, li_3, li_4, li_5, li_6, li_7, li_8, li_9, li_10, li_11, li_12, li_13, li_14, li_15, li_16, li_17, li_18, li_19, li_20, li_21, li_22, li_23, li_24, li_25, li_26, li_27, li_28, li_29, li_30, li_31, li_32, li_33, li_34, li_35, li_36, li_37, li_38, li_39, li_40, li_41, li_42, li_43, li_44, li_45, li_46, li_47, li_48, li_49, li_50, li_51, li_52, li_53, li_54, li_55, li_56, li_57, li_58, li_59, li_60, li_61, li_62, li_63, li_64, li_65, li_66, li_67, li_68, li_69, li_70, li_71, li_72, li_73, li_74, li_75, li_76, li_77, li_78, li_79, li_80, li_81, li_82, li_83, li_84, li_85, li_86, li_87, li_88, li_89, li_90, li_91, li_92, li_93, li_94, li_95, li_96, li_97, li_98, li_99, li_100, li_101, li_102, li_103, li_104, li_105, li_106, li_107, li_108, li_109, li_110, li_111, li_112, li_113, li_114, li_115, li_116, li_117, li_118, li_119, li_120, li_121, li_122, li_123, li_124, li_125, li_126, li_127, li_128, li_144, li_150, li_200, li_255, li_384, li_512, li_999, li_1000, li_1024, li_1152, li_1920, li_3776, li_4096, li_9216, li_10000, li_100000, li_1073741824, li_m, ↓rcb_17, ↓fIb_17, ↓pIb_17, ↓fRb_17_5, ↓fRb_17_6, ↓fRb_17_7, ↓fRb_17_9, ↓fRb_17_10, ↓fRb_17_11, ↓fRb_17_12, ↓fRb_17_15, ↓fRb_17_16, ↓fRb_17_17, ↓fRb_17_0, ↓aIb_18, ↓sIb_18, ↓aIb_19, ↓sIb_19, ↓aIb_20, ↓sIb_20, ↓aIb_21, ↓sIb_21, ↓aIb_22, ↓sIb_22, ↓aIb_23, ↓sIb_23, ↓aIb_24, ↓sIb_24, ↓aIb_25, ↓sIb_25, ↓aIb_26, ↓sIb_26, ↓aIb_27, ↓sIb_27, r0_17_5, r0_17_6, r0_17_7, r0_17_9, r0_17_10, r0_17_11, r0_17_12, r0_17_15, r0_17_16, r0_17_17, r0_17_0, rc_17, fI_17, fR_17, pI_17, pR_17, aI_18, sI_18, aI_19, sI_19, aI_20, sI_20, aI_21, sI_21, aI_22, sI_22, aI_23, sI_23, aI_24, sI_24, aI_25, sI_25, aI_26, sI_26, aI_27, sI_27, ↓dn d1, w_bind, w_bd2, b01_eq0, b01_ok, b01_ok2, w_lt, w_le, w_eq, w_mlt, w_mle, w_ltm, w_lem, w_meq, w_eqm, w_mm, w_mmlt, w_mmle, nI_add, w_sub, pk_mul, w_div, w_rem, w_and, w_or, w_shr, w_shl1, w_a31, w_andn, ↓reduceIte, Nat.reduceAdd, Nat.reduceEqDiff, Nat.zero_lt_one, Nat.not_lt_zero, Nat.one_ne_zero, Nat.zero_ne_one, not_true_eq_false, not_false_eq_true, Bool.false_eq_true, Bool.true_eq_false, e18, oI, e19, up2_s, Nat.le_refl, Nat.sub_self, dn1 d2]
        · have : x ≠ s := by intro y2; rw [y2, e] at y; cases y
          simp only [if_neg this]
          exact y
      · refine ⟨up2 I 19 (cC s) (nI (cnt (fun m => (bhd P s m).isSome && !Dn s m) 33 - 1)), lf, qf, qn, ?_, bi_skip h ha hs hn hm hb hdn hD (Or.inr ⟨ht, by omega⟩), ?_, Nat.le_refl _, fun _ _ => rfl, fun _ _ y => y⟩
        · unfold fX6_leadsTo fX6_leadsTo_b37
          simp (discharger := omega) only [li_0, li_1, li_2, li_3, li_4, li_5, li_6, li_7, li_8, li_9, li_10, li_11, li_12, li_13, li_14, li_15, li_16, li_17, li_18, li_19, li_20, li_21, li_22, li_23, li_24, li_25, li_26, li_27, li_28, li_29, li_30, li_31, li_32, li_33, li_34, li_35, li_36, li_37, li_38, li_39, li_40, li_41, li_42, li_43, li_44, li_45, li_46, li_47, li_48, li_49, li_50, li_51, li_52, li_53, li_54, li_55, li_56, li_57, li_58, li_59, li_60, li_61, li_62, li_63, li_64, li_65, li_66, li_67, li_68, li_69, li_70, li_71, li_72, li_73, li_74, li_75, li_76, li_77, li_78, li_79, li_80, li_81, li_82, li_83, li_84, li_85, li_86, li_87, li_88, li_89, li_90, li_91, li_92, li_93, li_94, li_95, li_96, li_97, li_98, li_99, li_100, li_101, li_102, li_103, li_104, li_105, li_106, li_107, li_108, li_109, li_110, li_111, li_112, li_113, li_114, li_115, li_116, li_117, li_118, li_119, li_120, li_121, li_122, li_123, li_124, li_125, li_126, li_127, li_128, li_144, li_150, li_200, li_255, li_384, li_512, li_999, li_1000, li_1024, li_1152, li_1920, li_3776, li_4096, li_9216, li_10000, li_100000, li_1073741824, li_m, ↓rcb_17, ↓fIb_17, ↓pIb_17, ↓fRb_17_5, ↓fRb_17_6, ↓fRb_17_7, ↓fRb_17_9, ↓fRb_17_10, ↓fRb_17_11, ↓fRb_17_12, ↓fRb_17_15, ↓fRb_17_16, ↓fRb_17_17, ↓fRb_17_0, ↓aIb_18, ↓sIb_18, ↓aIb_19, ↓sIb_19, ↓aIb_20, ↓sIb_20, ↓aIb_21, ↓sIb_21, ↓aIb_22, ↓sIb_22, ↓aIb_23, ↓sIb_23, ↓aIb_24, ↓sIb_24, ↓aIb_25, ↓sIb_25, ↓aIb_26, ↓sIb_26, ↓aIb_27, ↓sIb_27, r0_17_5, r0_17_6, r0_17_7, r0_17_9, r0_17_10, r0_17_11, r0_17_12, r0_17_15, r0_17_16, r0_17_17, r0_17_0, rc_17, fI_17, fR_17, pI_17, pR_17, aI_18, sI_18, aI_19, sI_19, aI_20, sI_20, aI_21, sI_21, aI_22, sI_22, aI_23, sI_23, aI_24, sI_24, aI_25, sI_25, aI_26, sI_26, aI_27, sI_27, ↓dn d1, w_bind, w_bd2, b01_eq0, b01_ok, b01_ok2, w_lt, w_le, w_eq, w_mlt, w_mle, w_ltm, w_lem, w_meq, w_eqm, w_mm, w_mmlt, w_mmle, nI_add, w_sub, pk_mul, w_div, w_rem, w_and, w_or, w_shr, w_shl1, w_a31, w_andn, ↓reduceIte, Nat.reduceAdd, Nat.reduceEqDiff, Nat.zero_lt_one, Nat.not_lt_zero, Nat.one_ne_zero, Nat.zero_ne_one, not_true_eq_false, not_false_eq_true, Bool.false_eq_true, Bool.true_eq_false, e18, oI, e19, up2_s, show ¬ cnt (fun m => (bhd P s m).isSome && !Dn s m) 33 - 1 ≤ 0 by omega]
        · obtain ⟨m1, m2, m3, m4, m5, m6, m7, m8⟩ := hM
          refine ⟨by rw [up2_k (by decide)]; exact m1, fun y hy hy2 => by rw [up2_k (by decide)]; exact m2 y hy hy2, fun j hj => by rw [up2_k (by decide)]; exact m3 j hj, fun y hy ht' ey => ?_, m5, m6, fun k k1 k2 k3 k4 => by rw [up2_ne k3]; exact m7 k k1 k2 k3 k4, fun i hi => by rw [up2_k (by decide)]; exact m8 i hi⟩
          by_cases y2 : y = s
          · subst y2
            rw [up2_s]
            have : cnt (fun m => (bhd P y m).isSome && !Dn y m) 33 = cnt (fun m => (bhd P y m).isSome && !Dn' y m) 33 + 1 := by
              apply cnt_flip (m := m) (by omega)
              · intro i hi hne
                rw [hD]
                simp [hne]
              · rw [hD]; simp
              · rw [hb, hdn]; rfl
            congr 1
            omega
          · rw [up2_i (fun q => y2 (cC_inj (Vd_in hW hy) hin q)), m4 y hy ht' ey]
            congr 1
            apply cnt_congr
            intro i hi
            rw [hD]
            simp [y2]
end Spread
