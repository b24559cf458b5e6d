/-! the class: backward, the chain of a standing's edges, and all the queue -/
section Chain
variable {FU c : Nat} {P : Pln} {I J I1 : Nat → Nat → Int32} {pl nm hd rd : Option Nat}
/-- ahead of reading at a -/
def S2 (P : Pln) (a : Nat) (I1 I : Nat → Nat → Int32) : Prop := ∃ lf qf qn Dn, BI P lf qf qn a Dn ∧ BM P lf qf qn Dn I1 I ∧ (∀ s m, Vd P s → nmet s → m ≤ 32 → Dn s m = true → ∃ t j, bhd P s m = some t ∧ j < a ∧ j < qn ∧ qf j = t)
theorem cC_plt (hW : WfP P) {t : Sd} (ht : Vd P t) : cC (posS t) < 1024 := by
  obtain ⟨a1, a2, a3, a4, a5⟩ := Vd_in hW ht
  unfold cC posS
  simp only [Nat.zero_mul, Nat.zero_add]
  omega
theorem c_chain (hF : 99999999 ≤ FU) (hW : WfP P) {g : Nat → Sd × Nat} {ne a v : Nat} {t : Sd} (hC : CF P g ne I1) (ht : Vd P t) : ∀ n k F I, n ≤ ne → k + n ≤ ne → n < F → SBt P g ne a v t n 0 I1 I → ∃ J, S2 P (a + 1) I1 J ∧ ∀ k2, fX6_spreadBackward_L45 FU k2 17 (nI a) (nI (cC t)) (nI t.2.2.2.2) F (oI (lastI (tgG P g) (cC (posS t)) n)) (nI k) (I, R0 pl nm hd rd) = k2 (nI (a + 1)) (J, R0 pl nm hd rd) := by
  have hC' := hC
  obtain ⟨hE, h26, h14⟩ := hC
  obtain ⟨E1, E2, E3, E4, E5, E6, E7, E8, E9⟩ := hE
  have h9 := shS_le P
  have hts := ht.2.2.2
  have hN2 := wf_sh hW
  intro n
  induction n using Nat.strongRecOn with
  | ind n ih =>
    intro k F I hn hk hF' hS
    obtain ⟨F, rfl⟩ : ∃ G, F = G + 1 := ⟨F - 1, by omega⟩
    cases e : lastI (tgG P g) (cC (posS t)) n with
    | none =>
      have nol := lastI_no e
      obtain ⟨lf, qf, qn, Dn, b1, b2, b3, b4, b5, b6⟩ := hS
      refine ⟨I, ⟨lf, qf, qn, Dn, bi_next b1 b3 ?_, b2, ?_⟩, fun k2 => ?_⟩
      · intro s m hs hn' hm hb
        rw [b4] at hb
        rw [b6 s m hs hn' hm hb]
        have ho := okE_of hs hn' hm (by rw [hb]; rfl)
        obtain ⟨e', y1, y2⟩ := E9 _ m ho rfl
        refine ⟨e', y1, y2, Or.inl ?_⟩
        apply Classical.byContradiction
        intro z
        apply nol e' (by omega)
        unfold tgG
        rw [y2]
        simp only
        rw [(tg_bhd hb).2.1]
        rfl
      · intro s m hs hn' hm hd'
        obtain ⟨t', j, y1, y2, y3, y4⟩ := b1.2.2.2.2.1 s m hs hn' hm hd'
        exact ⟨t', j, y1, by omega, y3, y4⟩
      · rw [fX6_spreadBackward_L45]
        unfold fX6_spreadBackward_b148
        by_cases z : 3776 ≤ k
        · simp (discharger := omega) only [li_0, li_1, li_2, li_3, li_4, li_5, li_6, li_7, li_8, li_9, li_10, li_11, li_12, li_13, li_14, li_15, li_16, li_17, li_18, li_19, li_20, li_21, li_22, li_23, li_24, li_25, li_26, li_27, li_28, li_29, li_30, li_31, li_32, li_33, li_34, li_35, li_36, li_37, li_38, li_39, li_40, li_41, li_42, li_43, li_44, li_45, li_46, li_47, li_48, li_49, li_50, li_51, li_52, li_53, li_54, li_55, li_56, li_57, li_58, li_59, li_60, li_61, li_62, li_63, li_64, li_65, li_66, li_67, li_68, li_69, li_70, li_71, li_72, li_73, li_74, li_75, li_76, li_77, li_78, li_79, li_80, li_81, li_82, li_83, li_84, li_85, li_86, li_87, li_88, li_89, li_90, li_91, li_92, li_93, li_94, li_95, li_96, li_97, li_98, li_99, li_100, li_101, li_102, li_103, li_104, li_105, li_106, li_107, li_108, li_109, li_110, li_111, li_112, li_113, li_114, li_115, li_116, li_117, li_118, li_119, li_120, li_121, li_122, li_123, li_124, li_125, li_126, li_127, li_128, li_144, li_150, li_200, li_255, li_384, li_512, li_999, li_1000, li_1024, li_1152, li_1920, li_3776, li_4096, li_9216, li_10000, li_100000, li_1073741824, li_m, ↓rcb_17, ↓fIb_17, ↓pIb_17, ↓fRb_17_5, ↓fRb_17_6, ↓fRb_17_7, ↓fRb_17_9, ↓fRb_17_10, ↓fRb_17_11, ↓fRb_17_12, ↓fRb_17_15, ↓fRb_17_16, ↓fRb_17_17, ↓fRb_17_0, ↓aIb_18, ↓sIb_18, ↓aIb_19, ↓sIb_19, ↓aIb_20, ↓sIb_20, ↓aIb_21, ↓sIb_21, ↓aIb_22, ↓sIb_22, ↓aIb_23, ↓sIb_23, ↓aIb_24, ↓sIb_24, ↓aIb_25, ↓sIb_25, ↓aIb_26, ↓sIb_26, ↓aIb_27, ↓sIb_27, r0_17_5, r0_17_6, r0_17_7, r0_17_9, r0_17_10, r0_17_11, r0_17_12, r0_17_15, r0_17_16, r0_17_17, r0_17_0, rc_17, fI_17, fR_17, pI_17, pR_17, aI_18, sI_18, aI_19, sI_19, aI_20, sI_20, aI_21, sI_21, aI_22, sI_22, aI_23, sI_23, aI_24, sI_24, aI_25, sI_25, aI_26, sI_26, aI_27, sI_27, w_bind, w_bd2, b01_eq0, b01_ok, b01_ok2, w_lt, w_le, w_eq, w_mlt, w_mle, w_ltm, w_lem, w_meq, w_eqm, w_mm, w_mmlt, w_mmle, nI_add, w_sub, pk_mul, w_div, w_rem, w_and, w_or, w_shr, w_shl1, w_a31, w_andn, ↓reduceIte, Nat.reduceAdd, Nat.reduceEqDiff, Nat.zero_lt_one, Nat.not_lt_zero, Nat.one_ne_zero, Nat.zero_ne_one, not_true_eq_false, not_false_eq_true, Bool.false_eq_true, Bool.true_eq_false, z, oI]
        · simp (discharger := omega) only [li_0, li_1, li_2, li_3, li_4, li_5, li_6, li_7, li_8, li_9, li_10, li_11, li_12, li_13, li_14, li_15, li_16, li_17, li_18, li_19, li_20, li_21, li_22, li_23, li_24, li_25, li_26, li_27, li_28, li_29, li_30, li_31, li_32, li_33, li_34, li_35, li_36, li_37, li_38, li_39, li_40, li_41, li_42, li_43, li_44, li_45, li_46, li_47, li_48, li_49, li_50, li_51, li_52, li_53, li_54, li_55, li_56, li_57, li_58, li_59, li_60, li_61, li_62, li_63, li_64, li_65, li_66, li_67, li_68, li_69, li_70, li_71, li_72, li_73, li_74, li_75, li_76, li_77, li_78, li_79, li_80, li_81, li_82, li_83, li_84, li_85, li_86, li_87, li_88, li_89, li_90, li_91, li_92, li_93, li_94, li_95, li_96, li_97, li_98, li_99, li_100, li_101, li_102, li_103, li_104, li_105, li_106, li_107, li_108, li_109, li_110, li_111, li_112, li_113, li_114, li_115, li_116, li_117, li_118, li_119, li_120, li_121, li_122, li_123, li_124, li_125, li_126, li_127, li_128, li_144, li_150, li_200, li_255, li_384, li_512, li_999, li_1000, li_1024, li_1152, li_1920, li_3776, li_4096, li_9216, li_10000, li_100000, li_1073741824, li_m, ↓rcb_17, ↓fIb_17, ↓pIb_17, ↓fRb_17_5, ↓fRb_17_6, ↓fRb_17_7, ↓fRb_17_9, ↓fRb_17_10, ↓fRb_17_11, ↓fRb_17_12, ↓fRb_17_15, ↓fRb_17_16, ↓fRb_17_17, ↓fRb_17_0, ↓aIb_18, ↓sIb_18, ↓aIb_19, ↓sIb_19, ↓aIb_20, ↓sIb_20, ↓aIb_21, ↓sIb_21, ↓aIb_22, ↓sIb_22, ↓aIb_23, ↓sIb_23, ↓aIb_24, ↓sIb_24, ↓aIb_25, ↓sIb_25, ↓aIb_26, ↓sIb_26, ↓aIb_27, ↓sIb_27, r0_17_5, r0_17_6, r0_17_7, r0_17_9, r0_17_10, r0_17_11, r0_17_12, r0_17_15, r0_17_16, r0_17_17, r0_17_0, rc_17, fI_17, fR_17, pI_17, pR_17, aI_18, sI_18, aI_19, sI_19, aI_20, sI_20, aI_21, sI_21, aI_22, sI_22, aI_23, sI_23, aI_24, sI_24, aI_25, sI_25, aI_26, sI_26, aI_27, sI_27, w_bind, w_bd2, b01_eq0, b01_ok, b01_ok2, w_lt, w_le, w_eq, w_mlt, w_mle, w_ltm, w_lem, w_meq, w_eqm, w_mm, w_mmlt, w_mmle, nI_add, w_sub, pk_mul, w_div, w_rem, w_and, w_or, w_shr, w_shl1, w_a31, w_andn, ↓reduceIte, Nat.reduceAdd, Nat.reduceEqDiff, Nat.zero_lt_one, Nat.not_lt_zero, Nat.one_ne_zero, Nat.zero_ne_one, not_true_eq_false, not_false_eq_true, Bool.false_eq_true, Bool.true_eq_false, z, oI]
    | some e' =>
      obtain ⟨l1, l2, l3⟩ := lastI_lt e
      have hS' : SBt P g ne a v t (e' + 1) 0 I1 I := by
        obtain ⟨lf, qf, qn, Dn, b1, b2, b3, b4, b5, b6⟩ := hS
        refine ⟨lf, qf, qn, Dn, b1, b2, b3, b4, b5, ?_⟩
        intro s m hs hn' hm hb
        rw [b6 s m hs hn' hm hb]
        constructor
        · rintro ⟨f, y1, y2, y3⟩
          exact ⟨f, y1, y2, by omega⟩
        · rintro ⟨f, y1, y2, y3⟩
          refine ⟨f, y1, y2, Or.inl ?_⟩
          apply Classical.byContradiction
          intro z
          apply l3 f (by omega) (by omega)
          unfold tgG
          rw [y2]
          simp only
          rw [(tg_bhd hb).2.1]
          rfl
      have he : e' < ne := by omega
      have hok := (E7 e' he).1
      have hqm := tgO_m hW hok.1 hok.2.2.2.2
      obtain ⟨q1, q2⟩ := qIx_ok hW hqm
      obtain ⟨J, p1, p2⟩ := c_spreadB (FU := FU) (pl := pl) (nm := nm) (hd := hd) (rd := rd) hF hW hC' he ht l2 hS' (x5 := k)
      obtain ⟨J', r1, r2⟩ := ih e' l1 (k + 1) F J (by omega) (by omega) (by omega) p1
      refine ⟨J', r1, fun k2 => ?_⟩
      have hM : ∃ lf qf qn Dn, BM P lf qf qn Dn I1 I := by
        obtain ⟨lf, qf, qn, Dn, b1, b2, _⟩ := hS
        exact ⟨lf, qf, qn, Dn, b2⟩
      obtain ⟨lf, qf, qn, Dn, hM⟩ := hM
      have i24 : I 24 e' = oI (psd P (g e').2) := by rw [hM.2.2.2.2.2.2.1 24 (by decide) (by decide) (by decide) (by decide), E4 e' he]
      have i26 : I 26 (qIx P (g e').2 * 9 + t.2.2.2.2) = nI (mk (fun b => tT P (qIx P (g e').2) b == some t.2.2.2.2) (shS P)) := by rw [hM.2.2.2.2.2.2.1 26 (by decide) (by decide) (by decide) (by decide), h26 _ q1 _ (by omega)]
      rw [fX6_spreadBackward_L45]
      simp (discharger := omega) only [li_0, li_1, li_2, li_3, li_4, li_5, li_6, li_7, li_8, li_9, li_10, li_11, li_12, li_13, li_14, li_15, li_16, li_17, li_18, li_19, li_20, li_21, li_22, li_23, li_24, li_25, li_26, li_27, li_28, li_29, li_30, li_31, li_32, li_33, li_34, li_35, li_36, li_37, li_38, li_39, li_40, li_41, li_42, li_43, li_44, li_45, li_46, li_47, li_48, li_49, li_50, li_51, li_52, li_53, li_54, li_55, li_56, li_57, li_58, li_59, li_60, li_61, li_62, li_63, li_64, li_65, li_66, li_67, li_68, li_69, li_70, li_71, li_72, li_73, li_74, li_75, li_76, li_77, li_78, li_79, li_80, li_81, li_82, li_83, li_84, li_85, li_86, li_87, li_88, li_89, li_90, li_91, li_92, li_93, li_94, li_95, li_96, li_97, li_98, li_99, li_100, li_101, li_102, li_103, li_104, li_105, li_106, li_107, li_108, li_109, li_110, li_111, li_112, li_113, li_114, li_115, li_116, li_117, li_118, li_119, li_120, li_121, li_122, li_123, li_124, li_125, li_126, li_127, li_128, li_144, li_150, li_200, li_255, li_384, li_512, li_999, li_1000, li_1024, li_1152, li_1920, li_3776, li_4096, li_9216, li_10000, li_100000, li_1073741824, li_m, ↓rcb_17, ↓fIb_17, ↓pIb_17, ↓fRb_17_5, ↓fRb_17_6, ↓fRb_17_7, ↓fRb_17_9, ↓fRb_17_10, ↓fRb_17_11, ↓fRb_17_12, ↓fRb_17_15, ↓fRb_17_16, ↓fRb_17_17, ↓fRb_17_0, ↓aIb_18, ↓sIb_18, ↓aIb_19, ↓sIb_19, ↓aIb_20, ↓sIb_20, ↓aIb_21, ↓sIb_21, ↓aIb_22, ↓sIb_22, ↓aIb_23, ↓sIb_23, ↓aIb_24, ↓sIb_24, ↓aIb_25, ↓sIb_25, ↓aIb_26, ↓sIb_26, ↓aIb_27, ↓sIb_27, r0_17_5, r0_17_6, r0_17_7, r0_17_9, r0_17_10, r0_17_11, r0_17_12, r0_17_15, r0_17_16, r0_17_17, r0_17_0, rc_17, fI_17, fR_17, pI_17, pR_17, aI_18, sI_18, aI_19, sI_19, aI_20, sI_20, aI_21, sI_21, aI_22, sI_22, aI_23, sI_23, aI_24, sI_24, aI_25, sI_25, aI_26, sI_26, aI_27, sI_27, w_bind, w_bd2, b01_eq0, b01_ok, b01_ok2, w_lt, w_le, w_eq, w_mlt, w_mle, w_ltm, w_lem, w_meq, w_eqm, w_mm, w_mmlt, w_mmle, nI_add, w_sub, pk_mul, w_div, w_rem, w_and, w_or, w_shr, w_shl1, w_a31, w_andn, ↓reduceIte, Nat.reduceAdd, Nat.reduceEqDiff, Nat.zero_lt_one, Nat.not_lt_zero, Nat.one_ne_zero, Nat.zero_ne_one, not_true_eq_false, not_false_eq_true, Bool.false_eq_true, Bool.true_eq_false, show ¬ 3776 ≤ k by omega, oI_some, i24, q2, i26]
      rw [p2, r2]
theorem c_spreadL (hF : 99999999 ≤ FU) (hW : WfP P) {g : Nat → Sd × Nat} {ne : Nat} (hC : CF P g ne I1) : ∀ d a F I, a + d = 9216 → d < F → S2 P a I1 I → ∃ J lf qf qn Dn, fX6_spreadBackward_L2 FU 17 F (nI a) (I, R0 pl nm hd rd) = some (J, R0 pl nm hd rd) ∧ LenF P lf ∧ BM P lf qf qn Dn I1 J ∧ (∀ s, ¬ Vd P s → lf s = none) ∧ (∀ s k, lf s = some k → k < 9216) := by
  have hC' := hC
  obtain ⟨hE, h26, h14⟩ := hC
  obtain ⟨E1, E2, E3, E4, E5, E6, E7, E8, E9⟩ := hE
  intro d
  induction d with
  | zero =>
    intro a F I ha hF' hS
    obtain ⟨F, rfl⟩ : ∃ G, F = G + 1 := ⟨F - 1, by omega⟩
    obtain ⟨lf, qf, qn, Dn, b1, b2, b3⟩ := hS
    have hq : qn ≤ 9216 := by
      have := b1.2.2.2.2.2.2.2.2.2.2.1
      have := cnt_le (fun k => (lf (sC k)).isSome) 9216
      omega
    refine ⟨I, lf, qf, qn, Dn, ?_, bi_end hW b1 (by omega), b2, b1.2.2.2.2.2.2.2.2.2.2.2, fun s k e => (bi_len b1 b2 e).1⟩
    have m1 := b2.1
    rw [fX6_spreadBackward_L2]
    simp (discharger := omega) only [li_0, li_1, li_2, li_3, li_4, li_5, li_6, li_7, li_8, li_9, li_10, li_11, li_12, li_13, li_14, li_15, li_16, li_17, li_18, li_19, li_20, li_21, li_22, li_23, li_24, li_25, li_26, li_27, li_28, li_29, li_30, li_31, li_32, li_33, li_34, li_35, li_36, li_37, li_38, li_39, li_40, li_41, li_42, li_43, li_44, li_45, li_46, li_47, li_48, li_49, li_50, li_51, li_52, li_53, li_54, li_55, li_56, li_57, li_58, li_59, li_60, li_61, li_62, li_63, li_64, li_65, li_66, li_67, li_68, li_69, li_70, li_71, li_72, li_73, li_74, li_75, li_76, li_77, li_78, li_79, li_80, li_81, li_82, li_83, li_84, li_85, li_86, li_87, li_88, li_89, li_90, li_91, li_92, li_93, li_94, li_95, li_96, li_97, li_98, li_99, li_100, li_101, li_102, li_103, li_104, li_105, li_106, li_107, li_108, li_109, li_110, li_111, li_112, li_113, li_114, li_115, li_116, li_117, li_118, li_119, li_120, li_121, li_122, li_123, li_124, li_125, li_126, li_127, li_128, li_144, li_150, li_200, li_255, li_384, li_512, li_999, li_1000, li_1024, li_1152, li_1920, li_3776, li_4096, li_9216, li_10000, li_100000, li_1073741824, li_m, ↓rcb_17, ↓fIb_17, ↓pIb_17, ↓fRb_17_5, ↓fRb_17_6, ↓fRb_17_7, ↓fRb_17_9, ↓fRb_17_10, ↓fRb_17_11, ↓fRb_17_12, ↓fRb_17_15, ↓fRb_17_16, ↓fRb_17_17, ↓fRb_17_0, ↓aIb_18, ↓sIb_18, ↓aIb_19, ↓sIb_19, ↓aIb_20, ↓sIb_20, ↓aIb_21, ↓sIb_21, ↓aIb_22, ↓sIb_22, ↓aIb_23, ↓sIb_23, ↓aIb_24, ↓sIb_24, ↓aIb_25, ↓sIb_25, ↓aIb_26, ↓sIb_26, ↓aIb_27, ↓sIb_27, r0_17_5, r0_17_6, r0_17_7, r0_17_9, r0_17_10, r0_17_11, r0_17_12, r0_17_15, r0_17_16, r0_17_17, r0_17_0, rc_17, fI_17, fR_17, pI_17, pR_17, aI_18, sI_18, aI_19, sI_19, aI_20, sI_20, aI_21, sI_21, aI_22, sI_22, aI_23, sI_23, aI_24, sI_24, aI_25, sI_25, aI_26, sI_26, aI_27, sI_27, w_bind, w_bd2, b01_eq0, b01_ok, b01_ok2, w_lt, w_le, w_eq, w_mlt, w_mle, w_ltm, w_lem, w_meq, w_eqm, w_mm, w_mmlt, w_mmle, nI_add, w_sub, pk_mul, w_div, w_rem, w_and, w_or, w_shr, w_shl1, w_a31, w_andn, ↓reduceIte, Nat.reduceAdd, Nat.reduceEqDiff, Nat.zero_lt_one, Nat.not_lt_zero, Nat.one_ne_zero, Nat.zero_ne_one, not_true_eq_false, not_false_eq_true, Bool.false_eq_true, Bool.true_eq_false, m1, show qn ≤ a by omega]
  | succ d ih =>
    intro a F I ha hF' hS
    obtain ⟨F, rfl⟩ : ∃ G, F = G + 1 := ⟨F - 1, by omega⟩
    obtain ⟨lf, qf, qn, Dn, b1, b2, b3⟩ := hS
    have hq : qn ≤ 9216 := by
      have := b1.2.2.2.2.2.2.2.2.2.2.1
      have := cnt_le (fun k => (lf (sC k)).isSome) 9216
      omega
    have m1 := b2.1
    by_cases z : qn ≤ a
    · refine ⟨I, lf, qf, qn, Dn, ?_, bi_end hW b1 z, b2, b1.2.2.2.2.2.2.2.2.2.2.2, fun s k e => (bi_len b1 b2 e).1⟩
      rw [fX6_spreadBackward_L2]
      simp (discharger := omega) only [li_0, li_1, li_2, li_3, li_4, li_5, li_6, li_7, li_8, li_9, li_10, li_11, li_12, li_13, li_14, li_15, li_16, li_17, li_18, li_19, li_20, li_21, li_22, li_23, li_24, li_25, li_26, li_27, li_28, li_29, li_30, li_31, li_32, li_33, li_34, li_35, li_36, li_37, li_38, li_39, li_40, li_41, li_42, li_43, li_44, li_45, li_46, li_47, li_48, li_49, li_50, li_51, li_52, li_53, li_54, li_55, li_56, li_57, li_58, li_59, li_60, li_61, li_62, li_63, li_64, li_65, li_66, li_67, li_68, li_69, li_70, li_71, li_72, li_73, li_74, li_75, li_76, li_77, li_78, li_79, li_80, li_81, li_82, li_83, li_84, li_85, li_86, li_87, li_88, li_89, li_90, li_91, li_92, li_93, li_94, li_95, li_96, li_97, li_98, li_99, li_100, li_101, li_102, li_103, li_104, li_105, li_106, li_107, li_108, li_109, li_110, li_111, li_112, li_113, li_114, li_115, li_116, li_117, li_118, li_119, li_120, li_121, li_122, li_123, li_124, li_125, li_126, li_127, li_128, li_144, li_150, li_200, li_255, li_384, li_512, li_999, li_1000, li_1024, li_1152, li_1920, li_3776, li_4096, li_9216, li_10000, li_100000, li_1073741824, li_m, ↓rcb_17, ↓fIb_17, ↓pIb_17, ↓fRb_17_5, ↓fRb_17_6, ↓fRb_17_7, ↓fRb_17_9, ↓fRb_17_10, ↓fRb_17_11, ↓fRb_17_12, ↓fRb_17_15, ↓fRb_17_16, ↓fRb_17_17, ↓fRb_17_0, ↓aIb_18, ↓sIb_18, ↓aIb_19, ↓sIb_19, ↓aIb_20, ↓sIb_20, ↓aIb_21, ↓sIb_21, ↓aIb_22, ↓sIb_22, ↓aIb_23, ↓sIb_23, ↓aIb_24, ↓sIb_24, ↓aIb_25, ↓sIb_25, ↓aIb_26, ↓sIb_26, ↓aIb_27, ↓sIb_27, r0_17_5, r0_17_6, r0_17_7, r0_17_9, r0_17_10, r0_17_11, r0_17_12, r0_17_15, r0_17_16, r0_17_17, r0_17_0, rc_17, fI_17, fR_17, pI_17, pR_17, aI_18, sI_18, aI_19, sI_19, aI_20, sI_20, aI_21, sI_21, aI_22, sI_22, aI_23, sI_23, aI_24, sI_24, aI_25, sI_25, aI_26, sI_26, aI_27, sI_27, w_bind, w_bd2, b01_eq0, b01_ok, b01_ok2, w_lt, w_le, w_eq, w_mlt, w_mle, w_ltm, w_lem, w_meq, w_eqm, w_mm, w_mmlt, w_mmle, nI_add, w_sub, pk_mul, w_div, w_rem, w_and, w_or, w_shr, w_shl1, w_a31, w_andn, ↓reduceIte, Nat.reduceAdd, Nat.reduceEqDiff, Nat.zero_lt_one, Nat.not_lt_zero, Nat.one_ne_zero, Nat.zero_ne_one, not_true_eq_false, not_false_eq_true, Bool.false_eq_true, Bool.true_eq_false, m1, z]
    · have ha' : a < qn := by omega
      have ht := (b1.1 a ha').1
      obtain ⟨v, hv⟩ := Option.isSome_iff_exists.mp (b1.1 a ha').2
      have hS' : SBt P g ne a v (qf a) ne 0 I1 I := by
        refine ⟨lf, qf, qn, Dn, b1, b2, ha', rfl, hv, ?_⟩
        intro s m hs hn hm hb
        constructor
        · intro y
          obtain ⟨t, j, y1, y2, y3, y4⟩ := b3 s m hs hn hm y
          rw [hb] at y1
          have y1 := Option.some.inj y1
          have := b2.2.2.2.2.2.1 j a y3 ha' (by rw [y4, y1])
          omega
        · rintro ⟨e, y1, y2, y3⟩
          omega
      obtain ⟨J, r1, r2⟩ := c_chain (FU := FU) (pl := pl) (nm := nm) (hd := hd) (rd := rd) hF hW hC' ht ne 0 FU I (Nat.le_refl _) (by omega) (by omega) hS'
      obtain ⟨J', lf', qf', qn', Dn', p1, p2⟩ := ih (a + 1) F J (by omega) (by omega) r1
      refine ⟨J', lf', qf', qn', Dn', ?_, p2⟩
      have i20 := b2.2.2.1 a ha'
      have hp := cC_plt hW ht
      have hct := cC_lt (Vd_in hW ht)
      have c1 : cC (qf a) - (qf a).2.2.2.2 * 1024 = cC (posS (qf a)) := by rw [cC_pos (qf a)]; omega
      have c2 : cC (qf a) / 1024 = (qf a).2.2.2.2 := by rw [cC_pos (qf a)]; omega
      have i21 : I 21 (cC (posS (qf a))) = oI (lastI (tgG P g) (cC (posS (qf a))) ne) := by rw [b2.2.2.2.2.2.2.1 21 (by decide) (by decide) (by decide) (by decide), E6 _ hp]
      have nz : (nI qn ≤ nI a) = False := by rw [w_le (by omega) (by omega)]; exact eq_false z
      rw [fX6_spreadBackward_L2]
      simp (discharger := omega) only [li_0, li_1, li_2, li_3, li_4, li_5, li_6, li_7, li_8, li_9, li_10, li_11, li_12, li_13, li_14, li_15, li_16, li_17, li_18, li_19, li_20, li_21, li_22, li_23, li_24, li_25, li_26, li_27, li_28, li_29, li_30, li_31, li_32, li_33, li_34, li_35, li_36, li_37, li_38, li_39, li_40, li_41, li_42, li_43, li_44, li_45, li_46, li_47, li_48, li_49, li_50, li_51, li_52, li_53, li_54, li_55, li_56, li_57, li_58, li_59, li_60, li_61, li_62, li_63, li_64, li_65, li_66, li_67, li_68, li_69, li_70, li_71, li_72, li_73, li_74, li_75, li_76, li_77, li_78, li_79, li_80, li_81, li_82, li_83, li_84, li_85, li_86, li_87, li_88, li_89, li_90, li_91, li_92, li_93, li_94, li_95, li_96, li_97, li_98, li_99, li_100, li_101, li_102, li_103, li_104, li_105, li_106, li_107, li_108, li_109, li_110, li_111, li_112, li_113, li_114, li_115, li_116, li_117, li_118, li_119, li_120, li_121, li_122, li_123, li_124, li_125, li_126, li_127, li_128, li_144, li_150, li_200, li_255, li_384, li_512, li_999, li_1000, li_1024, li_1152, li_1920, li_3776, li_4096, li_9216, li_10000, li_100000, li_1073741824, li_m, ↓rcb_17, ↓fIb_17, ↓pIb_17, ↓fRb_17_5, ↓fRb_17_6, ↓fRb_17_7, ↓fRb_17_9, ↓fRb_17_10, ↓fRb_17_11, ↓fRb_17_12, ↓fRb_17_15, ↓fRb_17_16, ↓fRb_17_17, ↓fRb_17_0, ↓aIb_18, ↓sIb_18, ↓aIb_19, ↓sIb_19, ↓aIb_20, ↓sIb_20, ↓aIb_21, ↓sIb_21, ↓aIb_22, ↓sIb_22, ↓aIb_23, ↓sIb_23, ↓aIb_24, ↓sIb_24, ↓aIb_25, ↓sIb_25, ↓aIb_26, ↓sIb_26, ↓aIb_27, ↓sIb_27, r0_17_5, r0_17_6, r0_17_7, r0_17_9, r0_17_10, r0_17_11, r0_17_12, r0_17_15, r0_17_16, r0_17_17, r0_17_0, rc_17, fI_17, fR_17, pI_17, pR_17, aI_18, sI_18, aI_19, sI_19, aI_20, sI_20, aI_21, sI_21, aI_22, sI_22, aI_23, sI_23, aI_24, sI_24, aI_25, sI_25, aI_26, sI_26, aI_27, sI_27, w_bind, w_bd2, b01_eq0, b01_ok, b01_ok2, w_lt, w_le, w_eq, w_mlt, w_mle, w_ltm, w_lem, w_meq, w_eqm, w_mm, w_mmlt, w_mmle, nI_add, w_sub, pk_mul, w_div, w_rem, w_and, w_or, w_shr, w_shl1, w_a31, w_andn, ↓reduceIte, Nat.reduceAdd, Nat.reduceEqDiff, Nat.zero_lt_one, Nat.not_lt_zero, Nat.one_ne_zero, Nat.zero_ne_one, not_true_eq_false, not_false_eq_true, Bool.false_eq_true, Bool.true_eq_false, m1, z, show ¬ 9216 ≤ a by omega, i20, c1, c2, i21]
      rw [r2, p1]
theorem c_spread (hF : 99999999 ≤ FU) (hW : WfP P) {g : Nat → Sd × Nat} {ne : Nat} (hC : CF P g ne I1) (hS : S2 P 0 I1 I) : ∃ J lf qf qn Dn, fX6_spreadBackward FU 17 (I, R0 pl nm hd rd) = some (J, R0 pl nm hd rd) ∧ LenF P lf ∧ BM P lf qf qn Dn I1 J ∧ (∀ s, ¬ Vd P s → lf s = none) ∧ (∀ s k, lf s = some k → k < 9216) := c_spreadL (FU := FU) (pl := pl) (nm := nm) (hd := hd) (rd := rd) hF hW hC 9216 0 FU I (by omega) (by omega) hS
end Chain
