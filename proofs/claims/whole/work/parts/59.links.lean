/-! the class's links, all -/
section Links
variable {FU c : Nat} {P : Pln} {I J I0 : Nat → Nat → Int32} {nm hd rd : Option Nat}
theorem shS_pos (P : Pln) : 0 < shS P := by
  unfold shS
  split
  · omega
  · split <;> omega
theorem LI_0 (hW : WfP P) (h13 : I0 17 13 = nI 0) (h19 : ∀ k, k < shS P * 1024 → I0 19 k = nI 0) (h21 : ∀ p, p < 1024 → I0 21 p = mI 1) : LI P I0 (DP 0) (fun _ => ((0, 0, 0, 0, 0), 0)) 0 I0 := by
  refine ⟨⟨h13, by omega, fun e he => by omega, fun e he => by omega, fun e he => by omega, fun p hp => h21 p hp, fun e he => by omega, fun e f he => by omega, fun q m _ hd => ?_⟩, fun k _ _ _ _ _ _ => rfl, fun i _ => rfl, fun s hs ht hn => ?_⟩
  · unfold DP at hd
    simp at hd
  · have hin := Vd_in hW hs
    have : cC s < shS P * 1024 := by
      obtain ⟨a1, a2, a3, a4, a5⟩ := hin
      have := hs.2.2.2
      unfold cC
      omega
    rw [h19 _ this]
    have : cnt (fun m => (bhd P s m).isSome && DP 0 (posS s) m) 33 = 0 := by
      rw [cnt_0]
      intro i _
      unfold DP
      simp
    rw [this]
theorem c_links (hF : 99999999 ≤ FU) (hc : c = 1 ∨ c = 9) (hP : PlC c P I0) (hW : WfP P) (hT0 : ShT P I0) (h14 : I0 17 14 = nI (shS P)) (h13 : I0 17 13 = nI 0) (h19 : ∀ k, k < shS P * 1024 → I0 19 k = nI 0) (h21 : ∀ p, p < 1024 → I0 21 p = mI 1) : ∃ J g ne, LI P I0 (fun _ _ => true) g ne J ∧ fX6_solve_L28 FU 17 FU (nI 0) (I0, R0 (some c) nm hd rd) = fX6_solve_L63 FU 17 FU (nI 0) (J, R0 (some c) nm hd rd) := by
  have hp := wf_p hW
  have hn := wf_n hW
  have hsum := sumDg_le (P := P) (Pn P) 8
  have hsum2 : sumDg P (Pn P) 8 = dgN P 0 (Pn P) + dgN P 1 (Pn P) + dgN P 2 (Pn P) + dgN P 3 (Pn P) + dgN P 4 (Pn P) + dgN P 5 (Pn P) + dgN P 6 (Pn P) + dgN P 7 (Pn P) := by
    simp [sumDg]
  have hB : rmB (fun x => dgN P x (Pn P)) 64 ≤ 3776 := rmB_64 (by show dgN P 0 (Pn P) + dgN P 1 (Pn P) + dgN P 2 (Pn P) + dgN P 3 (Pn P) + dgN P 4 (Pn P) + dgN P 5 (Pn P) + dgN P 6 (Pn P) + dgN P 7 (Pn P) ≤ 32; omega)
  have hv : ∀ h i, vs P h i (Pp P) ≤ 40 := by
    intro h i
    have h1 := vs_le hW (h := h) (i := i) 8
    have h2 := vs_mono (P := P) (h := h) (i := i) (show Pp P ≤ 8 by omega)
    omega
  have st : ∀ k (s : Int32 × Mem), k < 64 → (∃ T g ne, s = (nI k, (T, R0 (some c) nm hd rd)) ∧ LI P I0 (DP k) g ne T ∧ ne ≤ rmB (fun x => dgN P x (Pn P)) k) → ∃ s', (∃ T g ne, s' = (nI (k + 1), (T, R0 (some c) nm hd rd)) ∧ LI P I0 (DP (k + 1)) g ne T ∧ ne ≤ rmB (fun x => dgN P x (Pn P)) (k + 1)) ∧ ∀ F, fX6_solve_L28 FU 17 (F + 1) s.1 s.2 = fX6_solve_L28 FU 17 F s'.1 s'.2 := by
    rintro k _ hk ⟨T, g, ne, rfl, hT, hne⟩
    have hPT := hT.pl hc hP
    have ek : k / 8 * 8 + k % 8 = k := by omega
    have d1 := c_isPair (FU := FU) (pl := some c) (nm := nm) (hd := hd) (rd := rd) hc hPT hW (h := k / 8) (i := k % 8) (by omega) (by omega)
    rw [ek] at d1
    have bm := rmB_mono (d := fun x => dgN P x (Pn P)) (show k + 1 ≤ 64 by omega)
    have be : rmB (fun x => dgN P x (Pn P)) (k + 1) = rmB (fun x => dgN P x (Pn P)) k + (if k / 8 ≤ k % 8 then 8 * (1 + dgN P (k / 8) (Pn P) + (if k / 8 = k % 8 then 0 else dgN P (k % 8) (Pn P))) + 40 else 0) := rfl
    by_cases z : isPr P (k / 8) (k % 8) = true
    · have z' := isPr_iff.mp z
      have z2 : k / 8 ≤ k % 8 := by
        by_cases y : Ph P = 1
        · have := z'.2.2.1 y; omega
        · exact z'.2.2.2 y
      rw [if_pos z2] at be
      have hu := hun_cnt hW (h := k / 8) (i := k % 8)
      have hvv := hv (k / 8) (k % 8)
      have hT1 : LI P I0 (DP (k / 8 * 8 + k % 8)) g ne T := by rw [ek]; exact hT
      obtain ⟨J, g1, n1, p1, p2, p3⟩ := c_linkHunters (nm := nm) (hd := hd) (rd := rd) hF hc hP hW z hT1 hne (by omega)
      obtain ⟨J', g2, n2, q1, q2, q3⟩ := c_linkRunner (nm := nm) (hd := hd) (rd := rd) hF hc hP hW hT0 h14 z p2 p3 (by omega)
      rw [ek] at p1 q1 q2
      refine ⟨(nI (k + 1), (J', R0 (some c) nm hd rd)), ⟨J', g2, n2, rfl, q2, by omega⟩, fun F => ?_⟩
      simp only
      rw [fX6_solve_L28]
      unfold fX6_solve_b55
      simp (discharger := omega) only [li_0, li_1, li_2, li_3, li_4, li_5, li_6, li_7, li_8, li_9, li_10, li_11, li_12, li_13, li_14, li_15, li_16, li_17, li_18, li_19, li_20, li_21, li_22, li_23, li_24, li_25, li_26, li_27, li_28, li_29, li_30, li_31, li_32, li_33, li_34, li_35, li_36, li_37, li_38, li_39, li_40, li_41, li_42, li_43, li_44, li_45, li_46, li_47, li_48, li_49, li_50, li_51, li_52, li_53, li_54, li_55, li_56, li_57, li_58, li_59, li_60, li_61, li_62, li_63, li_64, li_65, li_66, li_67, li_68, li_69, li_70, li_71, li_72, li_73, li_74, li_75, li_76, li_77, li_78, li_79, li_80, li_81, li_82, li_83, li_84, li_85, li_86, li_87, li_88, li_89, li_90, li_91, li_92, li_93, li_94, li_95, li_96, li_97, li_98, li_99, li_100, li_101, li_102, li_103, li_104, li_105, li_106, li_107, li_108, li_109, li_110, li_111, li_112, li_113, li_114, li_115, li_116, li_117, li_118, li_119, li_120, li_121, li_122, li_123, li_124, li_125, li_126, li_127, li_128, li_144, li_150, li_200, li_255, li_384, li_512, li_999, li_1000, li_1024, li_1152, li_1920, li_3776, li_4096, li_9216, li_10000, li_100000, li_1073741824, li_m, ↓rcb_17, ↓fIb_17, ↓pIb_17, ↓fRb_17_5, ↓fRb_17_6, ↓fRb_17_7, ↓fRb_17_9, ↓fRb_17_10, ↓fRb_17_11, ↓fRb_17_12, ↓fRb_17_15, ↓fRb_17_16, ↓fRb_17_17, ↓fRb_17_0, ↓aIb_18, ↓sIb_18, ↓aIb_19, ↓sIb_19, ↓aIb_20, ↓sIb_20, ↓aIb_21, ↓sIb_21, ↓aIb_22, ↓sIb_22, ↓aIb_23, ↓sIb_23, ↓aIb_24, ↓sIb_24, ↓aIb_25, ↓sIb_25, ↓aIb_26, ↓sIb_26, ↓aIb_27, ↓sIb_27, r0_17_5, r0_17_6, r0_17_7, r0_17_9, r0_17_10, r0_17_11, r0_17_12, r0_17_15, r0_17_16, r0_17_17, r0_17_0, rc_17, fI_17, fR_17, pI_17, pR_17, aI_18, sI_18, aI_19, sI_19, aI_20, sI_20, aI_21, sI_21, aI_22, sI_22, aI_23, sI_23, aI_24, sI_24, aI_25, sI_25, aI_26, sI_26, aI_27, sI_27, ↓rcb_P hc, ↓fIb_P hc, ↓pIb_P hc, ↓fRb_P1 hc, ↓aIb_P1 hc, ↓sIb_P1 hc, ↓fRb_P2 hc, ↓aIb_P2 hc, ↓sIb_P2 hc, ↓fRb_P3 hc, ↓aIb_P3 hc, ↓sIb_P3 hc, ↓fRb_P4 hc, ↓aIb_P4 hc, ↓sIb_P4 hc, ↓fRb_P5 hc, ↓aIb_P5 hc, ↓sIb_P5 hc, ↓fRb_P6 hc, ↓aIb_P6 hc, ↓sIb_P6 hc, ↓fRb_P7 hc, ↓aIb_P7 hc, ↓sIb_P7 hc, rc_P hc, fI_P hc, fR_P hc, pI_P hc, r0_P1 hc, aI_P1 hc, sI_P1 hc, r0_P2 hc, aI_P2 hc, sI_P2 hc, r0_P3 hc, aI_P3 hc, sI_P3 hc, r0_P4 hc, aI_P4 hc, sI_P4 hc, r0_P5 hc, aI_P5 hc, sI_P5 hc, r0_P6 hc, aI_P6 hc, sI_P6 hc, r0_P7 hc, aI_P7 hc, sI_P7 hc, ↓dn d1, ↓dn1 p1, ↓dn1 q1, w_bind, w_bd2, b01_eq0, b01_ok, b01_ok2, w_lt, w_le, w_eq, w_mlt, w_mle, w_ltm, w_lem, w_meq, w_eqm, w_mm, w_mmlt, w_mmle, nI_add, w_sub, pk_mul, w_div, w_rem, w_and, w_or, w_shr, w_shl1, w_a31, w_andn, ↓reduceIte, Nat.reduceAdd, Nat.reduceEqDiff, Nat.zero_lt_one, Nat.not_lt_zero, Nat.one_ne_zero, Nat.zero_ne_one, not_true_eq_false, not_false_eq_true, Bool.false_eq_true, Bool.true_eq_false, show ¬ 64 ≤ k by omega, z]
    · refine ⟨(nI (k + 1), (T, R0 (some c) nm hd rd)), ⟨T, g, ne, rfl, hT.mono (fun q m ho => ?_), by omega⟩, fun F => ?_⟩
      · unfold DP
        apply decide_eq_decide.mpr
        have b := okE_b hW ho
        have : q.1 * 8 + q.2.1 ≠ k := by
          intro y
          apply z
          have y1 := ho.1.1
          rw [show q.1 = k / 8 by omega, show q.2.1 = k % 8 by omega] at y1
          exact y1
        constructor <;> intro y <;> omega
      · simp only
        rw [fX6_solve_L28]
        unfold fX6_solve_b55
        simp (discharger := omega) only [li_0, li_1, li_2, li_3, li_4, li_5, li_6, li_7, li_8, li_9, li_10, li_11, li_12, li_13, li_14, li_15, li_16, li_17, li_18, li_19, li_20, li_21, li_22, li_23, li_24, li_25, li_26, li_27, li_28, li_29, li_30, li_31, li_32, li_33, li_34, li_35, li_36, li_37, li_38, li_39, li_40, li_41, li_42, li_43, li_44, li_45, li_46, li_47, li_48, li_49, li_50, li_51, li_52, li_53, li_54, li_55, li_56, li_57, li_58, li_59, li_60, li_61, li_62, li_63, li_64, li_65, li_66, li_67, li_68, li_69, li_70, li_71, li_72, li_73, li_74, li_75, li_76, li_77, li_78, li_79, li_80, li_81, li_82, li_83, li_84, li_85, li_86, li_87, li_88, li_89, li_90, li_91, li_92, li_93, li_94, li_95, li_96, li_97, li_98, li_99, li_100, li_101, li_102, li_103, li_104, li_105, li_106, li_107, li_108, li_109, li_110, li_111, li_112, li_113, li_114, li_115, li_116, li_117, li_118, li_119, li_120, li_121, li_122, li_123, li_124, li_125, li_126, li_127, li_128, li_144, li_150, li_200, li_255, li_384, li_512, li_999, li_1000, li_1024, li_1152, li_1920, li_3776, li_4096, li_9216, li_10000, li_100000, li_1073741824, li_m, ↓rcb_17, ↓fIb_17, ↓pIb_17, ↓fRb_17_5, ↓fRb_17_6, ↓fRb_17_7, ↓fRb_17_9, ↓fRb_17_10, ↓fRb_17_11, ↓fRb_17_12, ↓fRb_17_15, ↓fRb_17_16, ↓fRb_17_17, ↓fRb_17_0, ↓aIb_18, ↓sIb_18, ↓aIb_19, ↓sIb_19, ↓aIb_20, ↓sIb_20, ↓aIb_21, ↓sIb_21, ↓aIb_22, ↓sIb_22, ↓aIb_23, ↓sIb_23, ↓aIb_24, ↓sIb_24, ↓aIb_25, ↓sIb_25, ↓aIb_26, ↓sIb_26, ↓aIb_27, ↓sIb_27, r0_17_5, r0_17_6, r0_17_7, r0_17_9, r0_17_10, r0_17_11, r0_17_12, r0_17_15, r0_17_16, r0_17_17, r0_17_0, rc_17, fI_17, fR_17, pI_17, pR_17, aI_18, sI_18, aI_19, sI_19, aI_20, sI_20, aI_21, sI_21, aI_22, sI_22, aI_23, sI_23, aI_24, sI_24, aI_25, sI_25, aI_26, sI_26, aI_27, sI_27, ↓rcb_P hc, ↓fIb_P hc, ↓pIb_P hc, ↓fRb_P1 hc, ↓aIb_P1 hc, ↓sIb_P1 hc, ↓fRb_P2 hc, ↓aIb_P2 hc, ↓sIb_P2 hc, ↓fRb_P3 hc, ↓aIb_P3 hc, ↓sIb_P3 hc, ↓fRb_P4 hc, ↓aIb_P4 hc, ↓sIb_P4 hc, ↓fRb_P5 hc, ↓aIb_P5 hc, ↓sIb_P5 hc, ↓fRb_P6 hc, ↓aIb_P6 hc, ↓sIb_P6 hc, ↓fRb_P7 hc, ↓aIb_P7 hc, ↓sIb_P7 hc, rc_P hc, fI_P hc, fR_P hc, pI_P hc, r0_P1 hc, aI_P1 hc, sI_P1 hc, r0_P2 hc, aI_P2 hc, sI_P2 hc, r0_P3 hc, aI_P3 hc, sI_P3 hc, r0_P4 hc, aI_P4 hc, sI_P4 hc, r0_P5 hc, aI_P5 hc, sI_P5 hc, r0_P6 hc, aI_P6 hc, sI_P6 hc, r0_P7 hc, aI_P7 hc, sI_P7 hc, ↓dn d1, w_bind, w_bd2, b01_eq0, b01_ok, b01_ok2, w_lt, w_le, w_eq, w_mlt, w_mle, w_ltm, w_lem, w_meq, w_eqm, w_mm, w_mmlt, w_mmle, nI_add, w_sub, pk_mul, w_div, w_rem, w_and, w_or, w_shr, w_shl1, w_a31, w_andn, ↓reduceIte, Nat.reduceAdd, Nat.reduceEqDiff, Nat.zero_lt_one, Nat.not_lt_zero, Nat.one_ne_zero, Nat.zero_ne_one, not_true_eq_false, not_false_eq_true, Bool.false_eq_true, Bool.true_eq_false, show ¬ 64 ≤ k by omega, z]
  obtain ⟨s', ⟨T, g, ne, rfl, g1, g2⟩, hl⟩ := lpI (fun F (s : Int32 × Mem) => fX6_solve_L28 FU 17 F s.1 s.2) _ 64 st 64 0 (nI 0, (I0, R0 (some c) nm hd rd)) FU (by omega) (by omega) ⟨I0, _, 0, rfl, LI_0 hW h13 h19 h21, by omega⟩
  simp only at hl
  refine ⟨T, g, ne, g1.mono (fun q m ho => ?_), ?_⟩
  · have b := okE_b hW ho
    unfold DP
    rw [decide_eq_true_iff]
    omega
  · obtain ⟨G, hG⟩ : ∃ G, FU - 64 = G + 1 := ⟨FU - 64 - 1, by omega⟩
    rw [hl, hG, fX6_solve_L28]
    simp (discharger := omega) only [li_0, li_1, li_2, li_3, li_4, li_5, li_6, li_7, li_8, li_9, li_10, li_11, li_12, li_13, li_14, li_15, li_16, li_17, li_18, li_19, li_20, li_21, li_22, li_23, li_24, li_25, li_26, li_27, li_28, li_29, li_30, li_31, li_32, li_33, li_34, li_35, li_36, li_37, li_38, li_39, li_40, li_41, li_42, li_43, li_44, li_45, li_46, li_47, li_48, li_49, li_50, li_51, li_52, li_53, li_54, li_55, li_56, li_57, li_58, li_59, li_60, li_61, li_62, li_63, li_64, li_65, li_66, li_67, li_68, li_69, li_70, li_71, li_72, li_73, li_74, li_75, li_76, li_77, li_78, li_79, li_80, li_81, li_82, li_83, li_84, li_85, li_86, li_87, li_88, li_89, li_90, li_91, li_92, li_93, li_94, li_95, li_96, li_97, li_98, li_99, li_100, li_101, li_102, li_103, li_104, li_105, li_106, li_107, li_108, li_109, li_110, li_111, li_112, li_113, li_114, li_115, li_116, li_117, li_118, li_119, li_120, li_121, li_122, li_123, li_124, li_125, li_126, li_127, li_128, li_144, li_150, li_200, li_255, li_384, li_512, li_999, li_1000, li_1024, li_1152, li_1920, li_3776, li_4096, li_9216, li_10000, li_100000, li_1073741824, li_m, w_lt, w_le, w_eq, w_mlt, w_mle, w_ltm, w_lem, w_meq, w_eqm, w_mm, w_mmlt, w_mmle, nI_add, w_sub, pk_mul, w_div, w_rem, w_and, w_or, w_shr, w_shl1, w_a31, w_andn, ↓reduceIte, Nat.reduceAdd, Nat.reduceEqDiff, Nat.zero_lt_one, Nat.not_lt_zero, Nat.one_ne_zero, Nat.zero_ne_one, not_true_eq_false, not_false_eq_true, Bool.false_eq_true, Bool.true_eq_false, Nat.le_refl]
end Links
