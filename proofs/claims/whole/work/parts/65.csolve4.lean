/-! the class's solve, whole -/
section CS4
variable {FU c : Nat} {P : Pln} {I J I0 I1 : Nat → Nat → Int32} {pl nm hd rd : Option Nat} {L : Sd → Option Nat}
theorem c_queues (hF : 99999999 ≤ FU) (hc : c = 1 ∨ c = 9) (hW : WfP P) {g : Nat → Sd × Nat} {ne : Nat} (hL : LI P I0 (fun _ _ => true) g ne I1) (hP : PlC c P I0) (h14 : I0 17 14 = nI (shS P)) (h8 : I0 17 8 = nI 0) (h18 : ∀ k, k < shS P * 1024 → I0 18 k = mI 1) : ∃ J, S2 P 0 I1 J ∧ fX6_solve_L63 FU 17 FU (nI 0) (I1, R0 (some c) nm hd rd) = (fX6_spreadBackward FU 17 (J, R0 (some c) nm hd rd)).bind fun M => (fX6_countWon FU 17 M).bind fun M => some M := by
  have hp := wf_p hW
  have P1 : PlC c P I1 := hL.pl hc hP
  have q0 : QU P (HQ 0 0 0 0) (fun _ => (0, 0, 0, 0, 0)) 0 I1 I1 := by
    have l0 : ∀ s, lfH P (HQ 0 0 0 0) s = none := by
      intro s
      unfold lfH HQ
      simp
    refine ⟨by rw [hL.2.2.1 8 (by decide), h8], fun s hs hs2 => ?_, fun j hj => by omega, fun j hj => by omega, fun s e => (by rw [l0] at e; cases e), fun i j hi => by omega, ?_, fun k _ _ _ => rfl, fun i _ => rfl⟩
    · rw [l0, hL.2.1 18 (by decide) (by decide) (by decide) (by decide) (by decide) (by decide), h18]
      · rfl
      · obtain ⟨a1, a2, a3, a4, a5⟩ := hs
        unfold cC
        omega
    · symm
      rw [cnt_0]
      intro i _
      rw [l0]
      rfl
  have st : ∀ k (s : Int32 × Mem), k < 64 → (∃ T qf qn, s = (nI k, (T, R0 (some c) nm hd rd)) ∧ QU P (HQ k 0 0 0) qf qn I1 T) → ∃ s', (∃ T qf qn, s' = (nI (k + 1), (T, R0 (some c) nm hd rd)) ∧ QU P (HQ (k + 1) 0 0 0) qf qn I1 T) ∧ ∀ F, fX6_solve_L63 FU 17 (F + 1) s.1 s.2 = fX6_solve_L63 FU 17 F s'.1 s'.2 := by
    rintro k _ hk ⟨T, qf, qn, rfl, hT⟩
    have hPT : PlC c P T := P1.congr (fun k _ _ => hT.2.2.2.2.2.2.2.1 k (by omega) (by omega) (by omega))
    have ek : k / 8 * 8 + k % 8 = k := by omega
    have d1 := c_isPair (FU := FU) (pl := some c) (nm := nm) (hd := hd) (rd := rd) hc hPT hW (h := k / 8) (i := k % 8) (by omega) (by omega)
    rw [ek] at d1
    by_cases z : isPr P (k / 8) (k % 8) = true
    · have hT1 : QU P (HQ (k / 8 * 8 + k % 8) 0 0 0) qf qn I1 T := by rw [ek]; exact hT
      obtain ⟨J, qf', qn', p1, p2⟩ := c_queueCaught (nm := nm) (hd := hd) (rd := rd) hF hc hW hL hP h14 z hT1
      rw [ek] at p1 p2
      refine ⟨(nI (k + 1), (J, R0 (some c) nm hd rd)), ⟨J, qf', qn', rfl, p2⟩, fun F => ?_⟩
      simp only
      rw [fX6_solve_L63]
      unfold fX6_solve_b85
      simp (discharger := omega) only [li_0, li_1, li_2, li_3, li_4, li_5, li_6, li_7, li_8, li_9, li_10, li_11, li_12, li_13, li_14, li_15, li_16, li_17, li_18, li_19, li_20, li_21, li_22, li_23, li_24, li_25, li_26, li_27, li_28, li_29, li_30, li_31, li_32, li_33, li_34, li_35, li_36, li_37, li_38, li_39, li_40, li_41, li_42, li_43, li_44, li_45, li_46, li_47, li_48, li_49, li_50, li_51, li_52, li_53, li_54, li_55, li_56, li_57, li_58, li_59, li_60, li_61, li_62, li_63, li_64, li_65, li_66, li_67, li_68, li_69, li_70, li_71, li_72, li_73, li_74, li_75, li_76, li_77, li_78, li_79, li_80, li_81, li_82, li_83, li_84, li_85, li_86, li_87, li_88, li_89, li_90, li_91, li_92, li_93, li_94, li_95, li_96, li_97, li_98, li_99, li_100, li_101, li_102, li_103, li_104, li_105, li_106, li_107, li_108, li_109, li_110, li_111, li_112, li_113, li_114, li_115, li_116, li_117, li_118, li_119, li_120, li_121, li_122, li_123, li_124, li_125, li_126, li_127, li_128, li_144, li_150, li_200, li_255, li_384, li_512, li_999, li_1000, li_1024, li_1152, li_1920, li_3776, li_4096, li_9216, li_10000, li_100000, li_1073741824, li_m, ↓rcb_17, ↓fIb_17, ↓pIb_17, ↓fRb_17_5, ↓fRb_17_6, ↓fRb_17_7, ↓fRb_17_9, ↓fRb_17_10, ↓fRb_17_11, ↓fRb_17_12, ↓fRb_17_15, ↓fRb_17_16, ↓fRb_17_17, ↓fRb_17_0, ↓aIb_18, ↓sIb_18, ↓aIb_19, ↓sIb_19, ↓aIb_20, ↓sIb_20, ↓aIb_21, ↓sIb_21, ↓aIb_22, ↓sIb_22, ↓aIb_23, ↓sIb_23, ↓aIb_24, ↓sIb_24, ↓aIb_25, ↓sIb_25, ↓aIb_26, ↓sIb_26, ↓aIb_27, ↓sIb_27, r0_17_5, r0_17_6, r0_17_7, r0_17_9, r0_17_10, r0_17_11, r0_17_12, r0_17_15, r0_17_16, r0_17_17, r0_17_0, rc_17, fI_17, fR_17, pI_17, pR_17, aI_18, sI_18, aI_19, sI_19, aI_20, sI_20, aI_21, sI_21, aI_22, sI_22, aI_23, sI_23, aI_24, sI_24, aI_25, sI_25, aI_26, sI_26, aI_27, sI_27, ↓rcb_P hc, ↓fIb_P hc, ↓pIb_P hc, ↓fRb_P1 hc, ↓aIb_P1 hc, ↓sIb_P1 hc, ↓fRb_P2 hc, ↓aIb_P2 hc, ↓sIb_P2 hc, ↓fRb_P3 hc, ↓aIb_P3 hc, ↓sIb_P3 hc, ↓fRb_P4 hc, ↓aIb_P4 hc, ↓sIb_P4 hc, ↓fRb_P5 hc, ↓aIb_P5 hc, ↓sIb_P5 hc, ↓fRb_P6 hc, ↓aIb_P6 hc, ↓sIb_P6 hc, ↓fRb_P7 hc, ↓aIb_P7 hc, ↓sIb_P7 hc, rc_P hc, fI_P hc, fR_P hc, pI_P hc, r0_P1 hc, aI_P1 hc, sI_P1 hc, r0_P2 hc, aI_P2 hc, sI_P2 hc, r0_P3 hc, aI_P3 hc, sI_P3 hc, r0_P4 hc, aI_P4 hc, sI_P4 hc, r0_P5 hc, aI_P5 hc, sI_P5 hc, r0_P6 hc, aI_P6 hc, sI_P6 hc, r0_P7 hc, aI_P7 hc, sI_P7 hc, ↓dn d1, ↓dn1 p1, w_bind, w_bd2, b01_eq0, b01_ok, b01_ok2, w_lt, w_le, w_eq, w_mlt, w_mle, w_ltm, w_lem, w_meq, w_eqm, w_mm, w_mmlt, w_mmle, nI_add, w_sub, pk_mul, w_div, w_rem, w_and, w_or, w_shr, w_shl1, w_a31, w_andn, ↓reduceIte, Nat.reduceAdd, Nat.reduceEqDiff, Nat.zero_lt_one, Nat.not_lt_zero, Nat.one_ne_zero, Nat.zero_ne_one, not_true_eq_false, not_false_eq_true, Bool.false_eq_true, Bool.true_eq_false, show ¬ 64 ≤ k by omega, z]
    · refine ⟨(nI (k + 1), (T, R0 (some c) nm hd rd)), ⟨T, qf, qn, rfl, hT.mono (fun s hs _ => ?_)⟩, fun F => ?_⟩
      · have b := Vd_in hW hs
        obtain ⟨a1, a2, a3, a4, a5⟩ := b
        unfold HQ
        apply decide_eq_decide.mpr
        have : s.1 * 8 + s.2.1 ≠ k := by
          intro y
          apply z
          have y1 := hs.1
          rw [show s.1 = k / 8 by omega, show s.2.1 = k % 8 by omega] at y1
          exact y1
        constructor <;> intro y <;> omega
      · simp only
        rw [fX6_solve_L63]
        unfold fX6_solve_b85
        simp (discharger := omega) only [li_0, li_1, li_2, li_3, li_4, li_5, li_6, li_7, li_8, li_9, li_10, li_11, li_12, li_13, li_14, li_15, li_16, li_17, li_18, li_19, li_20, li_21, li_22, li_23, li_24, li_25, li_26, li_27, li_28, li_29, li_30, li_31, li_32, li_33, li_34, li_35, li_36, li_37, li_38, li_39, li_40, li_41, li_42, li_43, li_44, li_45, li_46, li_47, li_48, li_49, li_50, li_51, li_52, li_53, li_54, li_55, li_56, li_57, li_58, li_59, li_60, li_61, li_62, li_63, li_64, li_65, li_66, li_67, li_68, li_69, li_70, li_71, li_72, li_73, li_74, li_75, li_76, li_77, li_78, li_79, li_80, li_81, li_82, li_83, li_84, li_85, li_86, li_87, li_88, li_89, li_90, li_91, li_92, li_93, li_94, li_95, li_96, li_97, li_98, li_99, li_100, li_101, li_102, li_103, li_104, li_105, li_106, li_107, li_108, li_109, li_110, li_111, li_112, li_113, li_114, li_115, li_116, li_117, li_118, li_119, li_120, li_121, li_122, li_123, li_124, li_125, li_126, li_127, li_128, li_144, li_150, li_200, li_255, li_384, li_512, li_999, li_1000, li_1024, li_1152, li_1920, li_3776, li_4096, li_9216, li_10000, li_100000, li_1073741824, li_m, ↓rcb_17, ↓fIb_17, ↓pIb_17, ↓fRb_17_5, ↓fRb_17_6, ↓fRb_17_7, ↓fRb_17_9, ↓fRb_17_10, ↓fRb_17_11, ↓fRb_17_12, ↓fRb_17_15, ↓fRb_17_16, ↓fRb_17_17, ↓fRb_17_0, ↓aIb_18, ↓sIb_18, ↓aIb_19, ↓sIb_19, ↓aIb_20, ↓sIb_20, ↓aIb_21, ↓sIb_21, ↓aIb_22, ↓sIb_22, ↓aIb_23, ↓sIb_23, ↓aIb_24, ↓sIb_24, ↓aIb_25, ↓sIb_25, ↓aIb_26, ↓sIb_26, ↓aIb_27, ↓sIb_27, r0_17_5, r0_17_6, r0_17_7, r0_17_9, r0_17_10, r0_17_11, r0_17_12, r0_17_15, r0_17_16, r0_17_17, r0_17_0, rc_17, fI_17, fR_17, pI_17, pR_17, aI_18, sI_18, aI_19, sI_19, aI_20, sI_20, aI_21, sI_21, aI_22, sI_22, aI_23, sI_23, aI_24, sI_24, aI_25, sI_25, aI_26, sI_26, aI_27, sI_27, ↓rcb_P hc, ↓fIb_P hc, ↓pIb_P hc, ↓fRb_P1 hc, ↓aIb_P1 hc, ↓sIb_P1 hc, ↓fRb_P2 hc, ↓aIb_P2 hc, ↓sIb_P2 hc, ↓fRb_P3 hc, ↓aIb_P3 hc, ↓sIb_P3 hc, ↓fRb_P4 hc, ↓aIb_P4 hc, ↓sIb_P4 hc, ↓fRb_P5 hc, ↓aIb_P5 hc, ↓sIb_P5 hc, ↓fRb_P6 hc, ↓aIb_P6 hc, ↓sIb_P6 hc, ↓fRb_P7 hc, ↓aIb_P7 hc, ↓sIb_P7 hc, rc_P hc, fI_P hc, fR_P hc, pI_P hc, r0_P1 hc, aI_P1 hc, sI_P1 hc, r0_P2 hc, aI_P2 hc, sI_P2 hc, r0_P3 hc, aI_P3 hc, sI_P3 hc, r0_P4 hc, aI_P4 hc, sI_P4 hc, r0_P5 hc, aI_P5 hc, sI_P5 hc, r0_P6 hc, aI_P6 hc, sI_P6 hc, r0_P7 hc, aI_P7 hc, sI_P7 hc, ↓dn d1, w_bind, w_bd2, b01_eq0, b01_ok, b01_ok2, w_lt, w_le, w_eq, w_mlt, w_mle, w_ltm, w_lem, w_meq, w_eqm, w_mm, w_mmlt, w_mmle, nI_add, w_sub, pk_mul, w_div, w_rem, w_and, w_or, w_shr, w_shl1, w_a31, w_andn, ↓reduceIte, Nat.reduceAdd, Nat.reduceEqDiff, Nat.zero_lt_one, Nat.not_lt_zero, Nat.one_ne_zero, Nat.zero_ne_one, not_true_eq_false, not_false_eq_true, Bool.false_eq_true, Bool.true_eq_false, show ¬ 64 ≤ k by omega, z]
  obtain ⟨s', ⟨T, qf, qn, rfl, g1⟩, hl⟩ := lpI (fun F (s : Int32 × Mem) => fX6_solve_L63 FU 17 F s.1 s.2) _ 64 st 64 0 (nI 0, (I1, R0 (some c) nm hd rd)) FU (by omega) (by omega) ⟨I1, _, 0, rfl, q0⟩
  simp only at hl
  refine ⟨T, ?_, ?_⟩
  · have lc : ∀ s, Vd P s → (lfH P (HQ 64 0 0 0) s = some 0 ↔ Cgt P s) := by
      intro s hs
      rw [lfH_iff]
      constructor
      · exact fun z => z.2.2
      · intro z
        refine ⟨?_, hs, z⟩
        obtain ⟨a1, a2, a3, a4, a5⟩ := Vd_in hW hs
        unfold HQ
        rw [decide_eq_true_iff]
        omega
    have l0 : ∀ s k, lfH P (HQ 64 0 0 0) s = some k → k = 0 := by
      intro s k e
      unfold lfH at e
      split at e
      · cases e; rfl
      · cases e
    obtain ⟨m1, m2, m3, m4, m5, m6, m7, m8, m9⟩ := g1
    refine ⟨lfH P (HQ 64 0 0 0), qf, qn, fun _ _ => false, ⟨?_, ?_, ?_, ?_, ?_, ?_, ?_, ?_, ?_, ?_, ?_, ?_⟩, ⟨m1, m2, m3, ?_, ?_, m6, ?_, m9⟩, ?_⟩
    · intro j hj
      exact ⟨(lfH_iff.mp (m4 j hj)).2.1, by rw [m4 j hj]; rfl⟩
    · intro s hs e
      obtain ⟨k, hk⟩ := Option.isSome_iff_exists.mp e
      rw [l0 s k hk] at hk
      exact m5 s hk
    · intro i j _ _ a b ea eb
      rw [l0 _ a ea, l0 _ b eb]
      exact Nat.le_refl _
    · intro _ j _ a b ea eb
      rw [l0 _ b eb]
      exact Nat.zero_le _
    · intro s m _ _ _ e; cases e
    · intro s m j _ _ _ hj; omega
    · intro s _ _ _ _ m _; rfl
    · intro s hs ht e
      have nc : ¬ Cgt P s := by
        intro z
        rw [(lc s hs).mpr z] at e
        cases e
      have : cnt (fun m => (bhd P s m).isSome && !false) 33 ≠ 0 := by
        intro z
        apply nc
        refine Or.inr (Or.inr ⟨ht, fun m hm => ?_⟩)
        have := cnt_0.mp z m (by omega)
        simpa using this
      exact Nat.pos_of_ne_zero this
    · intro s hs
      exact ⟨(lc s hs).mpr, fun nc z => nc ((lc s hs).mp z)⟩
    · intro s n hs nc e
      have := l0 s _ e
      omega
    · exact m7
    · intro s hs
      unfold lfH
      rw [if_neg (fun z => hs (vdB_iff.mp z.2.1))]
    · intro s hs ht e
      have nc : ¬ Cgt P s := by
        intro z
        rw [(lc s hs).mpr z] at e
        cases e
      rw [m8 19 (by decide) (by decide) (by decide), hL.2.2.2 s hs ht (nmet_of nc)]
      rfl
    · intro j b hj e
      rw [l0 _ b e]
      exact Nat.zero_le _
    · intro k k1 k2 k3 k4
      exact m8 k k1 k2 k4
    · intro s m _ _ _ e; cases e
  · obtain ⟨G, hG⟩ : ∃ G, FU - 64 = G + 1 := ⟨FU - 64 - 1, by omega⟩
    rw [hl, hG, fX6_solve_L63]
    simp (discharger := omega) only [li_0, li_1, li_2, li_3, li_4, li_5, li_6, li_7, li_8, li_9, li_10, li_11, li_12, li_13, li_14, li_15, li_16, li_17, li_18, li_19, li_20, li_21, li_22, li_23, li_24, li_25, li_26, li_27, li_28, li_29, li_30, li_31, li_32, li_33, li_34, li_35, li_36, li_37, li_38, li_39, li_40, li_41, li_42, li_43, li_44, li_45, li_46, li_47, li_48, li_49, li_50, li_51, li_52, li_53, li_54, li_55, li_56, li_57, li_58, li_59, li_60, li_61, li_62, li_63, li_64, li_65, li_66, li_67, li_68, li_69, li_70, li_71, li_72, li_73, li_74, li_75, li_76, li_77, li_78, li_79, li_80, li_81, li_82, li_83, li_84, li_85, li_86, li_87, li_88, li_89, li_90, li_91, li_92, li_93, li_94, li_95, li_96, li_97, li_98, li_99, li_100, li_101, li_102, li_103, li_104, li_105, li_106, li_107, li_108, li_109, li_110, li_111, li_112, li_113, li_114, li_115, li_116, li_117, li_118, li_119, li_120, li_121, li_122, li_123, li_124, li_125, li_126, li_127, li_128, li_144, li_150, li_200, li_255, li_384, li_512, li_999, li_1000, li_1024, li_1152, li_1920, li_3776, li_4096, li_9216, li_10000, li_100000, li_1073741824, li_m, ↓rcb_17, ↓fIb_17, ↓pIb_17, ↓fRb_17_5, ↓fRb_17_6, ↓fRb_17_7, ↓fRb_17_9, ↓fRb_17_10, ↓fRb_17_11, ↓fRb_17_12, ↓fRb_17_15, ↓fRb_17_16, ↓fRb_17_17, ↓fRb_17_0, ↓aIb_18, ↓sIb_18, ↓aIb_19, ↓sIb_19, ↓aIb_20, ↓sIb_20, ↓aIb_21, ↓sIb_21, ↓aIb_22, ↓sIb_22, ↓aIb_23, ↓sIb_23, ↓aIb_24, ↓sIb_24, ↓aIb_25, ↓sIb_25, ↓aIb_26, ↓sIb_26, ↓aIb_27, ↓sIb_27, r0_17_5, r0_17_6, r0_17_7, r0_17_9, r0_17_10, r0_17_11, r0_17_12, r0_17_15, r0_17_16, r0_17_17, r0_17_0, rc_17, fI_17, fR_17, pI_17, pR_17, aI_18, sI_18, aI_19, sI_19, aI_20, sI_20, aI_21, sI_21, aI_22, sI_22, aI_23, sI_23, aI_24, sI_24, aI_25, sI_25, aI_26, sI_26, aI_27, sI_27, w_lt, w_le, w_eq, w_mlt, w_mle, w_ltm, w_lem, w_meq, w_eqm, w_mm, w_mmlt, w_mmle, nI_add, w_sub, pk_mul, w_div, w_rem, w_and, w_or, w_shr, w_shl1, w_a31, w_andn, ↓reduceIte, Nat.reduceAdd, Nat.reduceEqDiff, Nat.zero_lt_one, Nat.not_lt_zero, Nat.one_ne_zero, Nat.zero_ne_one, not_true_eq_false, not_false_eq_true, Bool.false_eq_true, Bool.true_eq_false, Nat.le_refl]
/-- counted: at the hunters' turn, nothing shut, not met -/
def cdB (P : Pln) (k : Nat) : Bool := isPr P (k / 64) (k / 8 % 8) && (decide (k % 8 < Pp P) && (!(k / 64 == k % 8) && !(k / 8 % 8 == k % 8)))
def wonP (P : Pln) (L : Sd → Option Nat) (n : Nat) : Nat := cnt (fun k => cdB P k && (L (sC k)).isSome) n
def allP (P : Pln) (n : Nat) : Nat := cnt (cdB P) n
def lngP (P : Pln) (L : Sd → Option Nat) : Nat → Nat
  | 0 => 0
  | k + 1 => if cdB P k = true then max (lngP P L k) ((L (sC k)).getD 0) else lngP P L k
theorem c_isCounted (hc : c = 1 ∨ c = 9) (hP : PlC c P I) (hW : WfP P) {k : Nat} (hk : k < 512) : fX6_isCounted FU 17 (nI k) (I, R0 (some c) nm hd rd) = some (b01 (cdB P k = true), (I, R0 (some c) nm hd rd)) := by
  have ek : k / 64 * 8 + k / 8 % 8 = k / 8 := by omega
  have d1 := c_has (FU := FU) (pl := some c) (nm := nm) (hd := hd) (rd := rd) hc hP hW (x := k % 8) (by omega)
  have d2 := c_isPair (FU := FU) (pl := some c) (nm := nm) (hd := hd) (rd := rd) hc hP hW (h := k / 64) (i := k / 8 % 8) (by omega) (by omega)
  have d3 := c_placesOf (FU := FU) (I := I) (pl := some c) (nm := nm) (hd := hd) (rd := rd) (h := k / 64) (i := k / 8 % 8) (by omega) (by omega)
  rw [ek] at d2 d3
  have e8 : k >>> 3 = k / 8 := Nat.shiftRight_eq_div_pow k 3
  have hpl := plc_lt (h := k / 64) (i := k / 8 % 8) (by omega) (by omega)
  unfold fX6_isCounted
  simp (discharger := omega) only [li_0, li_1, li_2, li_3, li_4, li_5, li_6, li_7, li_8, li_9, li_10, li_11, li_12, li_13, li_14, li_15, li_16, li_17, li_18, li_19, li_20, li_21, li_22, li_23, li_24, li_25, li_26, li_27, li_28, li_29, li_30, li_31, li_32, li_33, li_34, li_35, li_36, li_37, li_38, li_39, li_40, li_41, li_42, li_43, li_44, li_45, li_46, li_47, li_48, li_49, li_50, li_51, li_52, li_53, li_54, li_55, li_56, li_57, li_58, li_59, li_60, li_61, li_62, li_63, li_64, li_65, li_66, li_67, li_68, li_69, li_70, li_71, li_72, li_73, li_74, li_75, li_76, li_77, li_78, li_79, li_80, li_81, li_82, li_83, li_84, li_85, li_86, li_87, li_88, li_89, li_90, li_91, li_92, li_93, li_94, li_95, li_96, li_97, li_98, li_99, li_100, li_101, li_102, li_103, li_104, li_105, li_106, li_107, li_108, li_109, li_110, li_111, li_112, li_113, li_114, li_115, li_116, li_117, li_118, li_119, li_120, li_121, li_122, li_123, li_124, li_125, li_126, li_127, li_128, li_144, li_150, li_200, li_255, li_384, li_512, li_999, li_1000, li_1024, li_1152, li_1920, li_3776, li_4096, li_9216, li_10000, li_100000, li_1073741824, li_m, ↓rcb_17, ↓fIb_17, ↓pIb_17, ↓fRb_17_5, ↓fRb_17_6, ↓fRb_17_7, ↓fRb_17_9, ↓fRb_17_10, ↓fRb_17_11, ↓fRb_17_12, ↓fRb_17_15, ↓fRb_17_16, ↓fRb_17_17, ↓fRb_17_0, ↓aIb_18, ↓sIb_18, ↓aIb_19, ↓sIb_19, ↓aIb_20, ↓sIb_20, ↓aIb_21, ↓sIb_21, ↓aIb_22, ↓sIb_22, ↓aIb_23, ↓sIb_23, ↓aIb_24, ↓sIb_24, ↓aIb_25, ↓sIb_25, ↓aIb_26, ↓sIb_26, ↓aIb_27, ↓sIb_27, r0_17_5, r0_17_6, r0_17_7, r0_17_9, r0_17_10, r0_17_11, r0_17_12, r0_17_15, r0_17_16, r0_17_17, r0_17_0, rc_17, fI_17, fR_17, pI_17, pR_17, aI_18, sI_18, aI_19, sI_19, aI_20, sI_20, aI_21, sI_21, aI_22, sI_22, aI_23, sI_23, aI_24, sI_24, aI_25, sI_25, aI_26, sI_26, aI_27, sI_27, ↓rcb_P hc, ↓fIb_P hc, ↓pIb_P hc, ↓fRb_P1 hc, ↓aIb_P1 hc, ↓sIb_P1 hc, ↓fRb_P2 hc, ↓aIb_P2 hc, ↓sIb_P2 hc, ↓fRb_P3 hc, ↓aIb_P3 hc, ↓sIb_P3 hc, ↓fRb_P4 hc, ↓aIb_P4 hc, ↓sIb_P4 hc, ↓fRb_P5 hc, ↓aIb_P5 hc, ↓sIb_P5 hc, ↓fRb_P6 hc, ↓aIb_P6 hc, ↓sIb_P6 hc, ↓fRb_P7 hc, ↓aIb_P7 hc, ↓sIb_P7 hc, rc_P hc, fI_P hc, fR_P hc, pI_P hc, r0_P1 hc, aI_P1 hc, sI_P1 hc, r0_P2 hc, aI_P2 hc, sI_P2 hc, r0_P3 hc, aI_P3 hc, sI_P3 hc, r0_P4 hc, aI_P4 hc, sI_P4 hc, r0_P5 hc, aI_P5 hc, sI_P5 hc, r0_P6 hc, aI_P6 hc, sI_P6 hc, r0_P7 hc, aI_P7 hc, sI_P7 hc, w_lt, w_le, w_eq, w_mlt, w_mle, w_ltm, w_lem, w_meq, w_eqm, w_mm, w_mmlt, w_mmle, nI_add, w_sub, pk_mul, w_div, w_rem, w_and, w_or, w_shr, w_shl1, w_a31, w_andn, w_a7, e8, dn d1, dn d2, dn d3, w_bind, w_bd2, b01_eq0, b01_ok, b01_ok2, w_a1, w_bit0]
  rw [tb_plc]
  unfold cdB
  by_cases z1 : k % 8 < Pp P
  · by_cases z2 : isPr P (k / 64) (k / 8 % 8) = true
    · by_cases z3 : k / 64 = k % 8
      · simp [z1, z2, z3, b01]; rfl
      · by_cases z4 : k / 8 % 8 = k % 8
        · simp [z1, z2, z3, z4, b01]; rfl
        · simp [z1, z2, z3, z4, b01]; rfl
    · simp [z1, z2, b01]; rfl
  · simp [z1, b01]; rfl
theorem cd_sC {k : Nat} (hk : k < 512) : sC k = (k / 64, k / 8 % 8, k % 8, 0, 0) := by
  unfold sC
  rw [show k / 64 % 8 = k / 64 by omega, show k / 512 % 2 = 0 by omega, show k / 1024 = 0 by omega]
theorem cd_Vd {k : Nat} (hk : k < 512) (h : cdB P k = true) : Vd P (sC k) ∧ nmet (sC k) := by
  rw [cd_sC hk]
  unfold cdB at h
  simp only [Bool.and_eq_true, decide_eq_true_iff, Bool.not_eq_true', beq_eq_false_iff_ne] at h
  exact ⟨⟨h.1, h.2.1, Nat.zero_lt_two, shS_pos P⟩, h.2.2⟩
theorem cd_pos {k n : Nat} (hL : LenF P L) (hk : k < 512) (h : cdB P k = true) (e : L (sC k) = some n) : 0 < n := by
  obtain ⟨h1, h2⟩ := cd_Vd hk h
  have nc : ¬ Cgt P (sC k) := by
    rintro (z | z | z)
    · exact h2.1 z
    · exact h2.2 z
    · rw [cd_sC hk] at z
      exact absurd z.1 Nat.zero_ne_one
  have := ((hL _ h1).2 nc).1
  rw [e] at this
  apply Nat.pos_of_ne_zero
  intro z
  exact this (by rw [z])
theorem lng_lt {n : Nat} (hb : ∀ s k, L s = some k → k < 9216) : lngP P L n < 9216 := by
  induction n with
  | zero => exact Nat.zero_lt_succ _
  | succ n ih =>
    unfold lngP
    split
    · apply Nat.max_lt.mpr
      refine ⟨ih, ?_⟩
      cases e : L (sC n) with
      | none => exact Nat.zero_lt_succ _
      | some k => exact hb _ k e
    · exact ih
theorem c_countWon (hF : 99999999 ≤ FU) (hc : c = 1 ∨ c = 9) (hP : PlC c P I) (hW : WfP P) (hL : LenF P L) (hb : ∀ s k, L s = some k → k < 9216) (h18 : ∀ s, inS s → s.2.2.2.2 < shS P → I 18 (cC s) = oI (L s)) : ∃ J, fX6_countWon FU 17 (I, R0 (some c) nm hd rd) = some (J, R0 (some c) nm hd rd) ∧ (∀ k, k ≠ 17 → J k = I k) ∧ (∀ i, i ≠ 2 → i ≠ 3 → i ≠ 4 → J 17 i = I 17 i) ∧ J 17 2 = nI (wonP P L 512) ∧ J 17 3 = nI (allP P 512) ∧ J 17 4 = nI (lngP P L 512) := by
  have st : ∀ k (s : Int32 × Mem), k < 512 → (∃ T, s = (nI k, (T, R0 (some c) nm hd rd)) ∧ (∀ k, k ≠ 17 → T k = I k) ∧ (∀ i, i ≠ 2 → i ≠ 3 → i ≠ 4 → T 17 i = I 17 i) ∧ T 17 2 = nI (wonP P L k) ∧ T 17 3 = nI (allP P k) ∧ T 17 4 = nI (lngP P L k)) → ∃ s', (∃ T, s' = (nI (k + 1), (T, R0 (some c) nm hd rd)) ∧ (∀ k, k ≠ 17 → T k = I k) ∧ (∀ i, i ≠ 2 → i ≠ 3 → i ≠ 4 → T 17 i = I 17 i) ∧ T 17 2 = nI (wonP P L (k + 1)) ∧ T 17 3 = nI (allP P (k + 1)) ∧ T 17 4 = nI (lngP P L (k + 1))) ∧ ∀ F, fX6_countWon_L17 FU 17 (F + 1) s.1 s.2 = fX6_countWon_L17 FU 17 F s'.1 s'.2 := by
    rintro k _ hk ⟨T, rfl, f1, f2, f3, f4, f5⟩
    have hPT : PlC c P T := hP.congr (fun j _ _ => f1 j (by omega))
    have d1 := c_isCounted (FU := FU) (nm := nm) (hd := hd) (rd := rd) hc hPT hW hk
    have ws : wonP P L (k + 1) = wonP P L k + if (cdB P k && (L (sC k)).isSome) = true then 1 else 0 := rfl
    have as : allP P (k + 1) = allP P k + if cdB P k = true then 1 else 0 := rfl
    have ls : lngP P L (k + 1) = if cdB P k = true then max (lngP P L k) ((L (sC k)).getD 0) else lngP P L k := rfl
    have wl : wonP P L k ≤ k := cnt_le _ _
    have al : allP P k ≤ k := cnt_le _ _
    have ll := lng_lt (P := P) (n := k) hb
    by_cases z : cdB P k = true
    · have hin := Vd_in hW (cd_Vd hk z).1
      have cs : cC (sC k) = k := by rw [cd_sC hk, cC_r0]; omega
      have e18 : T 18 k = oI (L (sC k)) := by
        have := h18 (sC k) hin (cd_Vd hk z).1.2.2.2
        rw [cs] at this
        rw [f1 18 (by decide), this]
      rw [z, Bool.true_and] at ws
      rw [if_pos z] at as ls
      cases e : L (sC k) with
      | none =>
        rw [e] at e18 ws ls
        refine ⟨(nI (k + 1), (up2 T 17 3 (nI (allP P k + 1)), R0 (some c) nm hd rd)), ⟨_, rfl, fun j hj => by rw [up2_ne hj, f1 j hj], fun i i1 i2 i3 => by rw [up2_i i2, f2 i i1 i2 i3], ?_, ?_, ?_⟩, fun F => ?_⟩
        · rw [up2_i (by decide), f3, ws]; rfl
        · rw [up2_s, as]
        · rw [up2_i (by decide), f5, ls]
          exact congrArg nI (Nat.max_eq_left (Nat.zero_le _)).symm
        · simp only
          rw [fX6_countWon_L17]
          unfold fX6_countWon_b81
          simp (discharger := omega) only [li_0, li_1, li_2, li_3, li_4, li_5, li_6, li_7, li_8, li_9, li_10, li_11, li_12, li_13, li_14, li_15, li_16, li_17, li_18, li_19, li_20, li_21, li_22, li_23, li_24, li_25, li_26, li_27, li_28, li_29, li_30, li_31, li_32, li_33, li_34, li_35, li_36, li_37, li_38, li_39, li_40, li_41, li_42, li_43, li_44, li_45, li_46, li_47, li_48, li_49, li_50, li_51, li_52, li_53, li_54, li_55, li_56, li_57, li_58, li_59, li_60, li_61, li_62, li_63, li_64, li_65, li_66, li_67, li_68, li_69, li_70, li_71, li_72, li_73, li_74, li_75, li_76, li_77, li_78, li_79, li_80, li_81, li_82, li_83, li_84, li_85, li_86, li_87, li_88, li_89, li_90, li_91, li_92, li_93, li_94, li_95, li_96, li_97, li_98, li_99, li_100, li_101, li_102, li_103, li_104, li_105, li_106, li_107, li_108, li_109, li_110, li_111, li_112, li_113, li_114, li_115, li_116, li_117, li_118, li_119, li_120, li_121, li_122, li_123, li_124, li_125, li_126, li_127, li_128, li_144, li_150, li_200, li_255, li_384, li_512, li_999, li_1000, li_1024, li_1152, li_1920, li_3776, li_4096, li_9216, li_10000, li_100000, li_1073741824, li_m, ↓rcb_17, ↓fIb_17, ↓pIb_17, ↓fRb_17_5, ↓fRb_17_6, ↓fRb_17_7, ↓fRb_17_9, ↓fRb_17_10, ↓fRb_17_11, ↓fRb_17_12, ↓fRb_17_15, ↓fRb_17_16, ↓fRb_17_17, ↓fRb_17_0, ↓aIb_18, ↓sIb_18, ↓aIb_19, ↓sIb_19, ↓aIb_20, ↓sIb_20, ↓aIb_21, ↓sIb_21, ↓aIb_22, ↓sIb_22, ↓aIb_23, ↓sIb_23, ↓aIb_24, ↓sIb_24, ↓aIb_25, ↓sIb_25, ↓aIb_26, ↓sIb_26, ↓aIb_27, ↓sIb_27, r0_17_5, r0_17_6, r0_17_7, r0_17_9, r0_17_10, r0_17_11, r0_17_12, r0_17_15, r0_17_16, r0_17_17, r0_17_0, rc_17, fI_17, fR_17, pI_17, pR_17, aI_18, sI_18, aI_19, sI_19, aI_20, sI_20, aI_21, sI_21, aI_22, sI_22, aI_23, sI_23, aI_24, sI_24, aI_25, sI_25, aI_26, sI_26, aI_27, sI_27, ↓dn d1, w_bind, w_bd2, b01_eq0, b01_ok, b01_ok2, w_lt, w_le, w_eq, w_mlt, w_mle, w_ltm, w_lem, w_meq, w_eqm, w_mm, w_mmlt, w_mmle, nI_add, w_sub, pk_mul, w_div, w_rem, w_and, w_or, w_shr, w_shl1, w_a31, w_andn, ↓reduceIte, Nat.reduceAdd, Nat.reduceEqDiff, Nat.zero_lt_one, Nat.not_lt_zero, Nat.one_ne_zero, Nat.zero_ne_one, not_true_eq_false, not_false_eq_true, Bool.false_eq_true, Bool.true_eq_false, show ¬ 512 ≤ k by omega, z, f4, up2_k (show (18 : Nat) ≠ 17 by decide), e18, oI]
      | some n =>
        have np := cd_pos hL hk z e
        have nb := hb _ _ e
        rw [e] at e18 ws ls
        simp only [Option.isSome_some, if_true, Option.getD_some] at ws ls
        refine ⟨(nI (k + 1), (up2 (up2 (up2 T 17 3 (nI (allP P k + 1))) 17 2 (nI (wonP P L k + 1))) 17 4 (nI (max (lngP P L k) n)), R0 (some c) nm hd rd)), ⟨_, rfl, fun j hj => by rw [up2_ne hj, up2_ne hj, up2_ne hj, f1 j hj], fun i i1 i2 i3 => by rw [up2_i i3, up2_i i1, up2_i i2, f2 i i1 i2 i3], ?_, ?_, ?_⟩, fun F => ?_⟩
        · rw [up2_i (by decide), up2_s, ws]
        · rw [up2_i (by decide), up2_i (by decide), up2_s, as]
        · rw [up2_s, ls]
        · have mx := w_maxI (a := lngP P L k) (b := n) (by omega) (by omega)
          simp only
          rw [fX6_countWon_L17]
          unfold fX6_countWon_b81
          have g2 : up2 T 17 3 (nI (allP P k + 1)) 17 2 = nI (wonP P L k) := by rw [up2_i (by decide), f3]
          have g4 : up2 (up2 T 17 3 (nI (allP P k + 1))) 17 2 (nI (wonP P L k + 1)) 17 4 = nI (lngP P L k) := by rw [up2_i (by decide), up2_i (by decide), f5]
          simp (discharger := omega) only [li_0, li_1, li_2, li_3, li_4, li_5, li_6, li_7, li_8, li_9, li_10, li_11, li_12, li_13, li_14, li_15, li_16, li_17, li_18, li_19, li_20, li_21, li_22, li_23, li_24, li_25, li_26, li_27, li_28, li_29, li_30, li_31, li_32, li_33, li_34, li_35, li_36, li_37, li_38, li_39, li_40, li_41, li_42, li_43, li_44, li_45, li_46, li_47, li_48, li_49, li_50, li_51, li_52, li_53, li_54, li_55, li_56, li_57, li_58, li_59, li_60, li_61, li_62, li_63, li_64, li_65, li_66, li_67, li_68, li_69, li_70, li_71, li_72, li_73, li_74, li_75, li_76, li_77, li_78, li_79, li_80, li_81, li_82, li_83, li_84, li_85, li_86, li_87, li_88, li_89, li_90, li_91, li_92, li_93, li_94, li_95, li_96, li_97, li_98, li_99, li_100, li_101, li_102, li_103, li_104, li_105, li_106, li_107, li_108, li_109, li_110, li_111, li_112, li_113, li_114, li_115, li_116, li_117, li_118, li_119, li_120, li_121, li_122, li_123, li_124, li_125, li_126, li_127, li_128, li_144, li_150, li_200, li_255, li_384, li_512, li_999, li_1000, li_1024, li_1152, li_1920, li_3776, li_4096, li_9216, li_10000, li_100000, li_1073741824, li_m, ↓rcb_17, ↓fIb_17, ↓pIb_17, ↓fRb_17_5, ↓fRb_17_6, ↓fRb_17_7, ↓fRb_17_9, ↓fRb_17_10, ↓fRb_17_11, ↓fRb_17_12, ↓fRb_17_15, ↓fRb_17_16, ↓fRb_17_17, ↓fRb_17_0, ↓aIb_18, ↓sIb_18, ↓aIb_19, ↓sIb_19, ↓aIb_20, ↓sIb_20, ↓aIb_21, ↓sIb_21, ↓aIb_22, ↓sIb_22, ↓aIb_23, ↓sIb_23, ↓aIb_24, ↓sIb_24, ↓aIb_25, ↓sIb_25, ↓aIb_26, ↓sIb_26, ↓aIb_27, ↓sIb_27, r0_17_5, r0_17_6, r0_17_7, r0_17_9, r0_17_10, r0_17_11, r0_17_12, r0_17_15, r0_17_16, r0_17_17, r0_17_0, rc_17, fI_17, fR_17, pI_17, pR_17, aI_18, sI_18, aI_19, sI_19, aI_20, sI_20, aI_21, sI_21, aI_22, sI_22, aI_23, sI_23, aI_24, sI_24, aI_25, sI_25, aI_26, sI_26, aI_27, sI_27, ↓dn d1, w_bind, w_bd2, b01_eq0, b01_ok, b01_ok2, show ¬ nI 512 ≤ nI k from (nI_ge (by omega) (by omega)), ↓reduceIte, Nat.reduceAdd, Nat.reduceEqDiff, Nat.zero_lt_one, Nat.not_lt_zero, Nat.one_ne_zero, Nat.zero_ne_one, not_true_eq_false, not_false_eq_true, Bool.false_eq_true, Bool.true_eq_false, z, f4, nI_add, g2, g4, up2_k (show (18 : Nat) ≠ 17 by decide), e18, oI, show ¬ nI n ≤ nI 0 from (nI_nle np (by omega)), mx]
    · rw [if_neg z] at as ls
      have z2 : cdB P k = false := by simpa using z
      rw [z2, Bool.false_and] at ws
      refine ⟨(nI (k + 1), (T, R0 (some c) nm hd rd)), ⟨T, rfl, f1, f2, ?_, ?_, ?_⟩, fun F => ?_⟩
      · rw [f3, ws]; rfl
      · rw [f4, as]; rfl
      · rw [f5, ls]
      · simp only
        rw [fX6_countWon_L17]
        unfold fX6_countWon_b81
        simp (discharger := omega) only [li_0, li_1, li_2, li_3, li_4, li_5, li_6, li_7, li_8, li_9, li_10, li_11, li_12, li_13, li_14, li_15, li_16, li_17, li_18, li_19, li_20, li_21, li_22, li_23, li_24, li_25, li_26, li_27, li_28, li_29, li_30, li_31, li_32, li_33, li_34, li_35, li_36, li_37, li_38, li_39, li_40, li_41, li_42, li_43, li_44, li_45, li_46, li_47, li_48, li_49, li_50, li_51, li_52, li_53, li_54, li_55, li_56, li_57, li_58, li_59, li_60, li_61, li_62, li_63, li_64, li_65, li_66, li_67, li_68, li_69, li_70, li_71, li_72, li_73, li_74, li_75, li_76, li_77, li_78, li_79, li_80, li_81, li_82, li_83, li_84, li_85, li_86, li_87, li_88, li_89, li_90, li_91, li_92, li_93, li_94, li_95, li_96, li_97, li_98, li_99, li_100, li_101, li_102, li_103, li_104, li_105, li_106, li_107, li_108, li_109, li_110, li_111, li_112, li_113, li_114, li_115, li_116, li_117, li_118, li_119, li_120, li_121, li_122, li_123, li_124, li_125, li_126, li_127, li_128, li_144, li_150, li_200, li_255, li_384, li_512, li_999, li_1000, li_1024, li_1152, li_1920, li_3776, li_4096, li_9216, li_10000, li_100000, li_1073741824, li_m, ↓rcb_17, ↓fIb_17, ↓pIb_17, ↓fRb_17_5, ↓fRb_17_6, ↓fRb_17_7, ↓fRb_17_9, ↓fRb_17_10, ↓fRb_17_11, ↓fRb_17_12, ↓fRb_17_15, ↓fRb_17_16, ↓fRb_17_17, ↓fRb_17_0, ↓aIb_18, ↓sIb_18, ↓aIb_19, ↓sIb_19, ↓aIb_20, ↓sIb_20, ↓aIb_21, ↓sIb_21, ↓aIb_22, ↓sIb_22, ↓aIb_23, ↓sIb_23, ↓aIb_24, ↓sIb_24, ↓aIb_25, ↓sIb_25, ↓aIb_26, ↓sIb_26, ↓aIb_27, ↓sIb_27, r0_17_5, r0_17_6, r0_17_7, r0_17_9, r0_17_10, r0_17_11, r0_17_12, r0_17_15, r0_17_16, r0_17_17, r0_17_0, rc_17, fI_17, fR_17, pI_17, pR_17, aI_18, sI_18, aI_19, sI_19, aI_20, sI_20, aI_21, sI_21, aI_22, sI_22, aI_23, sI_23, aI_24, sI_24, aI_25, sI_25, aI_26, sI_26, aI_27, sI_27, ↓dn d1, w_bind, w_bd2, b01_eq0, b01_ok, b01_ok2, w_lt, w_le, w_eq, w_mlt, w_mle, w_ltm, w_lem, w_meq, w_eqm, w_mm, w_mmlt, w_mmle, nI_add, w_sub, pk_mul, w_div, w_rem, w_and, w_or, w_shr, w_shl1, w_a31, w_andn, ↓reduceIte, Nat.reduceAdd, Nat.reduceEqDiff, Nat.zero_lt_one, Nat.not_lt_zero, Nat.one_ne_zero, Nat.zero_ne_one, not_true_eq_false, not_false_eq_true, Bool.false_eq_true, Bool.true_eq_false, show ¬ 512 ≤ k by omega, z]
  obtain ⟨s', ⟨T, rfl, g1, g2, g3, g4, g5⟩, hl⟩ := lpI (fun F (s : Int32 × Mem) => fX6_countWon_L17 FU 17 F s.1 s.2) _ 512 st 512 0 (nI 0, (up2 (up2 (up2 I 17 2 (nI 0)) 17 3 (nI 0)) 17 4 (nI 0), R0 (some c) nm hd rd)) FU (by omega) (by omega) ⟨_, rfl, fun j hj => by rw [up2_ne hj, up2_ne hj, up2_ne hj], fun i i1 i2 i3 => by rw [up2_i i3, up2_i i2, up2_i i1], by rw [up2_i (by decide), up2_i (by decide), up2_s]; rfl, by rw [up2_i (by decide), up2_s]; rfl, by rw [up2_s]; rfl⟩
  simp only at hl
  refine ⟨T, ?_, g1, g2, g3, g4, g5⟩
  obtain ⟨G, hG⟩ : ∃ G, FU - 512 = G + 1 := ⟨FU - 512 - 1, by omega⟩
  unfold fX6_countWon
  simp (discharger := omega) only [li_0, li_1, li_2, li_3, li_4, li_5, li_6, li_7, li_8, li_9, li_10, li_11, li_12, li_13, li_14, li_15, li_16, li_17, li_18, li_19, li_20, li_21, li_22, li_23, li_24, li_25, li_26, li_27, li_28, li_29, li_30, li_31, li_32, li_33, li_34, li_35, li_36, li_37, li_38, li_39, li_40, li_41, li_42, li_43, li_44, li_45, li_46, li_47, li_48, li_49, li_50, li_51, li_52, li_53, li_54, li_55, li_56, li_57, li_58, li_59, li_60, li_61, li_62, li_63, li_64, li_65, li_66, li_67, li_68, li_69, li_70, li_71, li_72, li_73, li_74, li_75, li_76, li_77, li_78, li_79, li_80, li_81, li_82, li_83, li_84, li_85, li_86, li_87, li_88, li_89, li_90, li_91, li_92, li_93, li_94, li_95, li_96, li_97, li_98, li_99, li_100, li_101, li_102, li_103, li_104, li_105, li_106, li_107, li_108, li_109, li_110, li_111, li_112, li_113, li_114, li_115, li_116, li_117, li_118, li_119, li_120, li_121, li_122, li_123, li_124, li_125, li_126, li_127, li_128, li_144, li_150, li_200, li_255, li_384, li_512, li_999, li_1000, li_1024, li_1152, li_1920, li_3776, li_4096, li_9216, li_10000, li_100000, li_1073741824, li_m, ↓rcb_17, ↓fIb_17, ↓pIb_17, ↓fRb_17_5, ↓fRb_17_6, ↓fRb_17_7, ↓fRb_17_9, ↓fRb_17_10, ↓fRb_17_11, ↓fRb_17_12, ↓fRb_17_15, ↓fRb_17_16, ↓fRb_17_17, ↓fRb_17_0, ↓aIb_18, ↓sIb_18, ↓aIb_19, ↓sIb_19, ↓aIb_20, ↓sIb_20, ↓aIb_21, ↓sIb_21, ↓aIb_22, ↓sIb_22, ↓aIb_23, ↓sIb_23, ↓aIb_24, ↓sIb_24, ↓aIb_25, ↓sIb_25, ↓aIb_26, ↓sIb_26, ↓aIb_27, ↓sIb_27, r0_17_5, r0_17_6, r0_17_7, r0_17_9, r0_17_10, r0_17_11, r0_17_12, r0_17_15, r0_17_16, r0_17_17, r0_17_0, rc_17, fI_17, fR_17, pI_17, pR_17, aI_18, sI_18, aI_19, sI_19, aI_20, sI_20, aI_21, sI_21, aI_22, sI_22, aI_23, sI_23, aI_24, sI_24, aI_25, sI_25, aI_26, sI_26, aI_27, sI_27, w_bind, w_bd2, b01_eq0, b01_ok, b01_ok2]
  rw [hl, hG, fX6_countWon_L17]
  simp (discharger := omega) only [li_0, li_1, li_2, li_3, li_4, li_5, li_6, li_7, li_8, li_9, li_10, li_11, li_12, li_13, li_14, li_15, li_16, li_17, li_18, li_19, li_20, li_21, li_22, li_23, li_24, li_25, li_26, li_27, li_28, li_29, li_30, li_31, li_32, li_33, li_34, li_35, li_36, li_37, li_38, li_39, li_40, li_41, li_42, li_43, li_44, li_45, li_46, li_47, li_48, li_49, li_50, li_51, li_52, li_53, li_54, li_55, li_56, li_57, li_58, li_59, li_60, li_61, li_62, li_63, li_64, li_65, li_66, li_67, li_68, li_69, li_70, li_71, li_72, li_73, li_74, li_75, li_76, li_77, li_78, li_79, li_80, li_81, li_82, li_83, li_84, li_85, li_86, li_87, li_88, li_89, li_90, li_91, li_92, li_93, li_94, li_95, li_96, li_97, li_98, li_99, li_100, li_101, li_102, li_103, li_104, li_105, li_106, li_107, li_108, li_109, li_110, li_111, li_112, li_113, li_114, li_115, li_116, li_117, li_118, li_119, li_120, li_121, li_122, li_123, li_124, li_125, li_126, li_127, li_128, li_144, li_150, li_200, li_255, li_384, li_512, li_999, li_1000, li_1024, li_1152, li_1920, li_3776, li_4096, li_9216, li_10000, li_100000, li_1073741824, li_m, w_lt, w_le, w_eq, w_mlt, w_mle, w_ltm, w_lem, w_meq, w_eqm, w_mm, w_mmlt, w_mmle, nI_add, w_sub, pk_mul, w_div, w_rem, w_and, w_or, w_shr, w_shl1, w_a31, w_andn, ↓reduceIte, Nat.reduceAdd, Nat.reduceEqDiff, Nat.zero_lt_one, Nat.not_lt_zero, Nat.one_ne_zero, Nat.zero_ne_one, not_true_eq_false, not_false_eq_true, Bool.false_eq_true, Bool.true_eq_false, Nat.le_refl]
/-- the class has solved this plan -/
def SolC (P : Pln) (L : Sd → Option Nat) (I : Nat → Nat → Int32) : Prop := LenF P L ∧ (∀ s, ¬ Vd P s → L s = none) ∧ (∀ s k, L s = some k → k < 9216) ∧ (∀ s, inS s → s.2.2.2.2 < shS P → I 18 (cC s) = oI (L s)) ∧ ShT P I ∧ I 17 2 = nI (wonP P L 512) ∧ I 17 3 = nI (allP P 512) ∧ I 17 4 = nI (lngP P L 512)
theorem c_solve (hF : 99999999 ≤ FU) (hc : c = 1 ∨ c = 9) (hP : PlC c P I) (hW : WfP P) : ∃ J L, fX6_solve FU 17 (some c) (I, R0 pl nm hd rd) = some (J, R0 (some c) nm hd rd) ∧ SolC P L J ∧ J 17 1 = I c 12 ∧ J 17 18 = nI 0 ∧ (∀ k, k < 17 ∨ 27 < k → J k = I k) := by
  generalize hI' : up2 (up2 I 17 1 (I c 12)) 17 18 (nI 0) = I'
  have a0 : ∀ k, k ≠ 17 → I' k = I k := fun k hk => by rw [← hI', up2_ne hk, up2_ne hk]
  have hP' : PlC c P I' := hP.congr (fun k _ _ => a0 k (by omega))
  obtain ⟨A, p1, p2, p3, p4, p5, p6, p7, p8, p9⟩ := c_clearRows (nm := nm) (hd := hd) (rd := rd) hF hc hP' hW
  have hPA : PlC c P A := hP'.congr (fun k _ _ => p2 k (by omega) (by omega) (by omega) (by omega))
  obtain ⟨B, r1, r2⟩ := c_reckon (nm := nm) (hd := hd) (rd := rd) hF hc hPA hW p6
  have hPB : PlC c P B := hPA.congr (fun k _ _ => r2.1 k (by omega) (by omega))
  have hT := ShT_of hW r2
  have b17 : B 17 = A 17 := r2.1 17 (by decide) (by decide)
  have b18 : B 18 = A 18 := r2.1 18 (by decide) (by decide)
  have b19 : B 19 = A 19 := r2.1 19 (by decide) (by decide)
  have b21 : B 21 = A 21 := r2.1 21 (by decide) (by decide)
  obtain ⟨C, g, ne, l1, l2⟩ := c_links (nm := nm) (hd := hd) (rd := rd) hF hc hPB hW hT (by rw [b17]; exact p6) (by rw [b17]; exact p5) (by rw [b19]; exact p8) (by rw [b21]; exact p9)
  obtain ⟨D, q1, q2⟩ := c_queues (nm := nm) (hd := hd) (rd := rd) hF hc hW l1 hPB (by rw [b17]; exact p6) (by rw [b17]; exact p4) (by rw [b18]; exact p7)
  have hCF : CF P g ne C := by
    refine ⟨l1.1, fun q hq v hv => ?_, ?_⟩
    · rw [l1.2.1 26 (by decide) (by decide) (by decide) (by decide) (by decide) (by decide)]
      exact r2.2.2.1 q (by omega) v hv
    · rw [l1.2.2.1 14 (by decide), b17, p6]
  obtain ⟨E, L, qf, qn, Dn, s1, s2, s3, s4, s5⟩ := c_spread (FU := FU) (pl := some c) (nm := nm) (hd := hd) (rd := rd) hF hW hCF q1
  have eC : ∀ k, k ≠ 17 → k ≠ 18 → k ≠ 19 → k ≠ 20 → E k = C k := s3.2.2.2.2.2.2.1
  have cB : ∀ k, k ≠ 17 → k ≠ 19 → k ≠ 21 → k ≠ 22 → k ≠ 23 → k ≠ 24 → C k = B k := l1.2.1
  have hPE : PlC c P E := hPB.congr (fun k _ _ => by rw [eC k (by omega) (by omega) (by omega) (by omega), cB k (by omega) (by omega) (by omega) (by omega) (by omega) (by omega)])
  obtain ⟨G, t1, t2, t3, t4, t5, t6⟩ := c_countWon (nm := nm) (hd := hd) (rd := rd) hF hc hPE hW s2 s5 s3.2.1
  have g17 : ∀ i, i ≠ 2 → i ≠ 3 → i ≠ 4 → i ≠ 8 → i ≠ 13 → i ≠ 14 → G 17 i = I' 17 i := by
    intro i i1 i2 i3 i4 i5 i6
    rw [t3 i i1 i2 i3, s3.2.2.2.2.2.2.2 i i4, l1.2.2.1 i i5, b17, p3 i i4 i5 i6]
  refine ⟨G, L, ?_, ⟨s2, s4, s5, ?_, ?_, t4, t5, t6⟩, ?_, ?_, ?_⟩
  · unfold fX6_solve
    simp (discharger := omega) only [li_0, li_1, li_2, li_3, li_4, li_5, li_6, li_7, li_8, li_9, li_10, li_11, li_12, li_13, li_14, li_15, li_16, li_17, li_18, li_19, li_20, li_21, li_22, li_23, li_24, li_25, li_26, li_27, li_28, li_29, li_30, li_31, li_32, li_33, li_34, li_35, li_36, li_37, li_38, li_39, li_40, li_41, li_42, li_43, li_44, li_45, li_46, li_47, li_48, li_49, li_50, li_51, li_52, li_53, li_54, li_55, li_56, li_57, li_58, li_59, li_60, li_61, li_62, li_63, li_64, li_65, li_66, li_67, li_68, li_69, li_70, li_71, li_72, li_73, li_74, li_75, li_76, li_77, li_78, li_79, li_80, li_81, li_82, li_83, li_84, li_85, li_86, li_87, li_88, li_89, li_90, li_91, li_92, li_93, li_94, li_95, li_96, li_97, li_98, li_99, li_100, li_101, li_102, li_103, li_104, li_105, li_106, li_107, li_108, li_109, li_110, li_111, li_112, li_113, li_114, li_115, li_116, li_117, li_118, li_119, li_120, li_121, li_122, li_123, li_124, li_125, li_126, li_127, li_128, li_144, li_150, li_200, li_255, li_384, li_512, li_999, li_1000, li_1024, li_1152, li_1920, li_3776, li_4096, li_9216, li_10000, li_100000, li_1073741824, li_m, ↓rcb_17, ↓fIb_17, ↓pIb_17, ↓fRb_17_5, ↓fRb_17_6, ↓fRb_17_7, ↓fRb_17_9, ↓fRb_17_10, ↓fRb_17_11, ↓fRb_17_12, ↓fRb_17_15, ↓fRb_17_16, ↓fRb_17_17, ↓fRb_17_0, ↓aIb_18, ↓sIb_18, ↓aIb_19, ↓sIb_19, ↓aIb_20, ↓sIb_20, ↓aIb_21, ↓sIb_21, ↓aIb_22, ↓sIb_22, ↓aIb_23, ↓sIb_23, ↓aIb_24, ↓sIb_24, ↓aIb_25, ↓sIb_25, ↓aIb_26, ↓sIb_26, ↓aIb_27, ↓sIb_27, r0_17_5, r0_17_6, r0_17_7, r0_17_9, r0_17_10, r0_17_11, r0_17_12, r0_17_15, r0_17_16, r0_17_17, r0_17_0, rc_17, fI_17, fR_17, pI_17, pR_17, aI_18, sI_18, aI_19, sI_19, aI_20, sI_20, aI_21, sI_21, aI_22, sI_22, aI_23, sI_23, aI_24, sI_24, aI_25, sI_25, aI_26, sI_26, aI_27, sI_27, r0_set_pl, ↓rcb_P hc, ↓fIb_P hc, ↓pIb_P hc, ↓fRb_P1 hc, ↓aIb_P1 hc, ↓sIb_P1 hc, ↓fRb_P2 hc, ↓aIb_P2 hc, ↓sIb_P2 hc, ↓fRb_P3 hc, ↓aIb_P3 hc, ↓sIb_P3 hc, ↓fRb_P4 hc, ↓aIb_P4 hc, ↓sIb_P4 hc, ↓fRb_P5 hc, ↓aIb_P5 hc, ↓sIb_P5 hc, ↓fRb_P6 hc, ↓aIb_P6 hc, ↓sIb_P6 hc, ↓fRb_P7 hc, ↓aIb_P7 hc, ↓sIb_P7 hc, rc_P hc, fI_P hc, fR_P hc, pI_P hc, r0_P1 hc, aI_P1 hc, sI_P1 hc, r0_P2 hc, aI_P2 hc, sI_P2 hc, r0_P3 hc, aI_P3 hc, sI_P3 hc, r0_P4 hc, aI_P4 hc, sI_P4 hc, r0_P5 hc, aI_P5 hc, sI_P5 hc, r0_P6 hc, aI_P6 hc, sI_P6 hc, r0_P7 hc, aI_P7 hc, sI_P7 hc, w_bind, w_bd2, b01_eq0, b01_ok, b01_ok2, hI', ↓dn1 p1, ↓dn1 r1]
    rw [l2, q2, s1]
    simp (discharger := omega) only [w_bind, w_bd2, b01_eq0, b01_ok, b01_ok2, t1]
  · intro s hs hs2
    rw [t2 18 (by decide)]
    exact s3.2.1 s hs hs2
  · have : G 25 = B 25 := by rw [t2 25 (by decide), eC 25 (by decide) (by decide) (by decide) (by decide), cB 25 (by decide) (by decide) (by decide) (by decide) (by decide) (by decide)]
    unfold ShT
    rw [this]
    exact hT
  · rw [g17 1 (by decide) (by decide) (by decide) (by decide) (by decide) (by decide), ← hI', up2_i (by decide), up2_s]
  · rw [g17 18 (by decide) (by decide) (by decide) (by decide) (by decide) (by decide), ← hI', up2_s]
  · intro k hk
    rw [t2 k (by omega), eC k (by omega) (by omega) (by omega) (by omega), cB k (by omega) (by omega) (by omega) (by omega) (by omega) (by omega), r2.1 k (by omega) (by omega), p2 k (by omega) (by omega) (by omega) (by omega), a0 k (by omega)]
end CS4
