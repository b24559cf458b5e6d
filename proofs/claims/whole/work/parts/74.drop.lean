/-! the class: a way less -/
section Drop
variable {FU c : Nat} {P : Pln} {I J : Nat → Nat → Int32} {pl nm hd rd : Option Nat}
/-- neighbours by the first w ways -/
def nearW (P : Pln) (w x : Nat) : Nat := mk (fun y => bsA P x y w) 8
theorem nearW_lt (w x : Nat) : nearW P w x < 256 := mk_lt _ 8
theorem nearW_0 (x : Nat) : nearW P 0 x = 0 := by
  apply Nat.eq_of_testBit_eq
  intro y
  unfold nearW
  rw [tb_mk]
  simp [bsA, anyB]
theorem nearW_s {w x : Nat} (ha : Pa P w < 8) (hb : Pb P w < 8) (hab : Pa P w ≠ Pb P w) : nearW P (w + 1) x = nearW P w x ||| (if x = Pa P w then 2 ^ Pb P w else if x = Pb P w then 2 ^ Pa P w else 0) := by
  apply Nat.eq_of_testBit_eq
  intro y
  unfold nearW
  rw [Nat.testBit_or, tb_mk, tb_mk]
  have s : bsA P x y (w + 1) = (bsA P x y w || ((Pa P w == x && Pb P w == y) || (Pa P w == y && Pb P w == x))) := rfl
  rw [s]
  have e : (if x = Pa P w then 2 ^ Pb P w else if x = Pb P w then 2 ^ Pa P w else 0).testBit y = (decide (y < 8) && ((Pa P w == x && Pb P w == y) || (Pa P w == y && Pb P w == x))) := by
    generalize Pa P w = a at *
    generalize Pb P w = b at *
    by_cases z1 : x = a
    · subst z1
      rw [if_pos rfl, Nat.testBit_two_pow]
      by_cases z2 : b = y
      · subst z2; simp [hb]
      · by_cases z3 : b = x
        · omega
        · have e1 : (b == y) = false := by simpa using z2
          have e2 : (b == x) = false := by simpa using z3
          simp [z2, e1, e2]
    · have e0 : (a == x) = false := by simp; omega
      rw [if_neg z1]
      by_cases z2 : x = b
      · subst z2
        rw [if_pos rfl, Nat.testBit_two_pow]
        by_cases z3 : a = y
        · subst z3; simp [ha]
        · have e1 : (a == y) = false := by simpa using z3
          simp [e0, e1, z3]
      · have e2 : (b == x) = false := by simp; omega
        rw [if_neg z2, Nat.zero_testBit]
        simp [e0, e2]
  rw [e]
  cases decide (y < 8) <;> simp
theorem wf_del (hW : WfP P) : WfP (delW P) := by
  refine ⟨hW.1, hW.2.1, ?_, hW.2.2.2.1, hW.2.2.2.2.1, fun w hw => ?_, hW.2.2.2.2.2.2.1, ?_⟩
  · have := wf_n hW; show Pn P - 1 ≤ 16; omega
  · have hw : w < Pn P - 1 := hw
    exact wf_w hW (by omega)
  · have h1 : shN (delW P) (Pn P - 1) ≤ shN P (Pn P) := cnt_mono (fun w => isSh (Pk P w)) (by omega)
    have h2 := wf_sh hW
    show shN (delW P) (Pn P - 1) ≤ 2
    omega
/-- rows 7 of a plan, places below i cleared -/
theorem c_drop (hF : 99999999 ≤ FU) (hc : c = 1 ∨ c = 9) (hP : PlC c P I) (hW : WfP P) (h0 : 0 < Pn P) : ∃ J, fX3_dropLatest FU c (I, R0 pl nm hd rd) = some (J, R0 pl nm hd rd) ∧ PlC c (delW P) J ∧ J c 12 = I c 12 + nI 1 ∧ (∀ j, j < c ∨ c + 7 < j → J j = I j) := by
  have hp := wf_p hW
  have hn := wf_n hW
  have h2 := wf_sh hW
  obtain ⟨p0, p8, p9, p10, p11, pk, pa, pb, po, pf, pg, pN⟩ := hP
  have o1 := po (Pn P - 1) (by omega)
  -- behind the first writes: T0
  have main : ∀ T0 : Nat → Nat → Int32, T0 c 0 = I c 0 → T0 c 8 = nI (Pn P - 1) → T0 c 9 = nI (shN P (Pn P - 1)) → (∀ i, i ≠ 8 → i ≠ 9 → T0 c i = I c i) → (∀ j, j ≠ c → T0 j = I j) → ∃ J, fX3_dropLatest_b40 FU c (T0, R0 pl nm hd rd) = some (J, R0 pl nm hd rd) ∧ PlC c (delW P) J ∧ J c 12 = I c 12 + nI 1 ∧ (∀ j, j < c ∨ c + 7 < j → J j = I j) := by
    intro T0 t0 t8 t9 tc tj
    have s1 : ∀ i, i < Pp P → ∀ F, fX3_dropLatest_L42 FU c (F + 1) (nI i) (va_up T0 (c + 7) (pre (fun _ => nI 0) (T0 (c + 7)) i), R0 pl nm hd rd) = fX3_dropLatest_L42 FU c F (nI (i + 1)) (va_up T0 (c + 7) (pre (fun _ => nI 0) (T0 (c + 7)) (i + 1)), R0 pl nm hd rd) := by
      intro i hi F
      have e0 : ∀ A, va_up T0 (c + 7) A c 0 = nI (Pp P) := by intro A; rw [va_o (by omega), t0, p0]
      rw [fX3_dropLatest_L42, ← pre_s (fun _ => nI 0) (T0 (c + 7)) i rfl]
      simp (discharger := omega) only [li_0, li_1, li_2, li_3, li_4, li_5, li_6, li_7, li_8, li_9, li_10, li_11, li_12, li_13, li_14, li_15, li_16, li_17, li_18, li_19, li_20, li_21, li_22, li_23, li_24, li_25, li_26, li_27, li_28, li_29, li_30, li_31, li_32, li_33, li_34, li_35, li_36, li_37, li_38, li_39, li_40, li_41, li_42, li_43, li_44, li_45, li_46, li_47, li_48, li_49, li_50, li_51, li_52, li_53, li_54, li_55, li_56, li_57, li_58, li_59, li_60, li_61, li_62, li_63, li_64, li_65, li_66, li_67, li_68, li_69, li_70, li_71, li_72, li_73, li_74, li_75, li_76, li_77, li_78, li_79, li_80, li_81, li_82, li_83, li_84, li_85, li_86, li_87, li_88, li_89, li_90, li_91, li_92, li_93, li_94, li_95, li_96, li_97, li_98, li_99, li_100, li_101, li_102, li_103, li_104, li_105, li_106, li_107, li_108, li_109, li_110, li_111, li_112, li_113, li_114, li_115, li_116, li_117, li_118, li_119, li_120, li_121, li_122, li_123, li_124, li_125, li_126, li_127, li_128, li_144, li_150, li_200, li_255, li_384, li_512, li_999, li_1000, li_1024, li_1152, li_1920, li_3776, li_4096, li_9216, li_10000, li_100000, li_1073741824, li_m, ↓rcb_P hc, ↓fIb_P hc, ↓pIb_P hc, ↓fRb_P1 hc, ↓aIb_P1 hc, ↓sIb_P1 hc, ↓fRb_P2 hc, ↓aIb_P2 hc, ↓sIb_P2 hc, ↓fRb_P3 hc, ↓aIb_P3 hc, ↓sIb_P3 hc, ↓fRb_P4 hc, ↓aIb_P4 hc, ↓sIb_P4 hc, ↓fRb_P5 hc, ↓aIb_P5 hc, ↓sIb_P5 hc, ↓fRb_P6 hc, ↓aIb_P6 hc, ↓sIb_P6 hc, ↓fRb_P7 hc, ↓aIb_P7 hc, ↓sIb_P7 hc, rc_P hc, fI_P hc, fR_P hc, pI_P hc, r0_P1 hc, aI_P1 hc, sI_P1 hc, r0_P2 hc, aI_P2 hc, sI_P2 hc, r0_P3 hc, aI_P3 hc, sI_P3 hc, r0_P4 hc, aI_P4 hc, sI_P4 hc, r0_P5 hc, aI_P5 hc, sI_P5 hc, r0_P6 hc, aI_P6 hc, sI_P6 hc, r0_P7 hc, aI_P7 hc, sI_P7 hc, w_bind, w_bd2, b01_eq0, b01_ok, b01_ok2, w_lt, w_le, w_eq, w_mlt, w_mle, w_ltm, w_lem, w_meq, w_eqm, w_mm, w_mmlt, w_mmle, nI_add, w_sub, pk_mul, w_div, w_rem, w_and, w_or, w_shr, w_shl1, w_a31, w_andn, ↓reduceIte, Nat.reduceAdd, Nat.reduceEqDiff, Nat.zero_lt_one, Nat.not_lt_zero, Nat.one_ne_zero, Nat.zero_ne_one, not_true_eq_false, not_false_eq_true, Bool.false_eq_true, Bool.true_eq_false, n_leT, n_leF, n_ltT, n_ltF, n_eqT, n_eqF, and_true, true_and, and_false, false_and, or_true, true_or, or_false, false_or, not_true_eq_false, not_false_eq_true, e0, up2_va]
    have l1 := lpU (fun F (q : Int32 × Mem) => fX3_dropLatest_L42 FU c F q.1 q.2) (fun i => (nI i, (va_up T0 (c + 7) (pre (fun _ => nI 0) (T0 (c + 7)) i), R0 pl nm hd rd))) (Pp P) s1 (Pp P) 0 FU (by omega) (by omega)
    simp only [pre_0, va_same] at l1
    obtain ⟨G, hG⟩ : ∃ G, FU - Pp P = G + 1 := ⟨FU - Pp P - 1, by omega⟩
    have e0 : ∀ A, va_up T0 (c + 7) A c 0 = nI (Pp P) := by intro A; rw [va_o (by omega), t0, p0]
    -- the neighbours anew
    have st : ∀ w (s : Int32 × Mem), w < Pn P - 1 → (∃ T, s = (nI w, (T, R0 pl nm hd rd)) ∧ (∀ j, j ≠ c + 7 → T j = T0 j) ∧ (∀ x, x < Pp P → T (c + 7) x = nI (nearW P w x))) → ∃ s', (∃ T, s' = (nI (w + 1), (T, R0 pl nm hd rd)) ∧ (∀ j, j ≠ c + 7 → T j = T0 j) ∧ (∀ x, x < Pp P → T (c + 7) x = nI (nearW P (w + 1) x))) ∧ ∀ F, fX3_dropLatest_L65 FU c (F + 1) s.1 s.2 = fX3_dropLatest_L65 FU c F s'.1 s'.2 := by
      rintro w _ hw ⟨T, rfl, f1, f2⟩
      have hww := wf_w hW (w := w) (by omega)
      have T8 : T c 8 = nI (Pn P - 1) := by rw [f1 c (by omega), t8]
      have T2 : T (c + 2) w = nI (Pa P w) := by rw [f1 (c + 2) (by omega), tj (c + 2) (by omega), pa w (by omega)]
      have T3 : T (c + 3) w = nI (Pb P w) := by rw [f1 (c + 3) (by omega), tj (c + 3) (by omega), pb w (by omega)]
      have Na := f2 (Pa P w) hww.2.1
      have Nb := f2 (Pb P w) hww.2.2.1
      have la := nearW_lt (P := P) w (Pa P w)
      have lb := nearW_lt (P := P) w (Pb P w)
      have pwa : 2 ^ Pa P w < 256 := pw_lt (by omega)
      have pwb : 2 ^ Pb P w < 256 := pw_lt (by omega)
      refine ⟨(nI (w + 1), (up2 (up2 T (c + 7) (Pa P w) (nI (nearW P w (Pa P w) ||| 2 ^ Pb P w))) (c + 7) (Pb P w) (nI (nearW P w (Pb P w) ||| 2 ^ Pa P w)), R0 pl nm hd rd)), ⟨_, rfl, fun j hj => by rw [up2_ne hj, up2_ne hj, f1 j hj], fun x hx => ?_⟩, fun F => ?_⟩
      · rw [nearW_s (by omega) (by omega) hww.2.2.2]
        by_cases z1 : x = Pa P w
        · subst z1
          rw [up2_i (by omega), up2_s, if_pos rfl]
        · rw [if_neg z1]
          by_cases z2 : x = Pb P w
          · subst z2
            rw [up2_s, if_pos rfl]
          · rw [up2_i z2, up2_i z1, f2 x hx, if_neg z2, Nat.or_zero]
      · have x1 : (Pa P w = Pb P w) = False := eq_false hww.2.2.2
        simp only
        rw [fX3_dropLatest_L65]
        simp (discharger := omega) only [li_0, li_1, li_2, li_3, li_4, li_5, li_6, li_7, li_8, li_9, li_10, li_11, li_12, li_13, li_14, li_15, li_16, li_17, li_18, li_19, li_20, li_21, li_22, li_23, li_24, li_25, li_26, li_27, li_28, li_29, li_30, li_31, li_32, li_33, li_34, li_35, li_36, li_37, li_38, li_39, li_40, li_41, li_42, li_43, li_44, li_45, li_46, li_47, li_48, li_49, li_50, li_51, li_52, li_53, li_54, li_55, li_56, li_57, li_58, li_59, li_60, li_61, li_62, li_63, li_64, li_65, li_66, li_67, li_68, li_69, li_70, li_71, li_72, li_73, li_74, li_75, li_76, li_77, li_78, li_79, li_80, li_81, li_82, li_83, li_84, li_85, li_86, li_87, li_88, li_89, li_90, li_91, li_92, li_93, li_94, li_95, li_96, li_97, li_98, li_99, li_100, li_101, li_102, li_103, li_104, li_105, li_106, li_107, li_108, li_109, li_110, li_111, li_112, li_113, li_114, li_115, li_116, li_117, li_118, li_119, li_120, li_121, li_122, li_123, li_124, li_125, li_126, li_127, li_128, li_144, li_150, li_200, li_255, li_384, li_512, li_999, li_1000, li_1024, li_1152, li_1920, li_3776, li_4096, li_9216, li_10000, li_100000, li_1073741824, li_m, ↓rcb_P hc, ↓fIb_P hc, ↓pIb_P hc, ↓fRb_P1 hc, ↓aIb_P1 hc, ↓sIb_P1 hc, ↓fRb_P2 hc, ↓aIb_P2 hc, ↓sIb_P2 hc, ↓fRb_P3 hc, ↓aIb_P3 hc, ↓sIb_P3 hc, ↓fRb_P4 hc, ↓aIb_P4 hc, ↓sIb_P4 hc, ↓fRb_P5 hc, ↓aIb_P5 hc, ↓sIb_P5 hc, ↓fRb_P6 hc, ↓aIb_P6 hc, ↓sIb_P6 hc, ↓fRb_P7 hc, ↓aIb_P7 hc, ↓sIb_P7 hc, rc_P hc, fI_P hc, fR_P hc, pI_P hc, r0_P1 hc, aI_P1 hc, sI_P1 hc, r0_P2 hc, aI_P2 hc, sI_P2 hc, r0_P3 hc, aI_P3 hc, sI_P3 hc, r0_P4 hc, aI_P4 hc, sI_P4 hc, r0_P5 hc, aI_P5 hc, sI_P5 hc, r0_P6 hc, aI_P6 hc, sI_P6 hc, r0_P7 hc, aI_P7 hc, sI_P7 hc, w_bind, w_bd2, b01_eq0, b01_ok, b01_ok2, w_lt, w_le, w_eq, w_mlt, w_mle, w_ltm, w_lem, w_meq, w_eqm, w_mm, w_mmlt, w_mmle, nI_add, w_sub, pk_mul, w_div, w_rem, w_and, w_or, w_shr, w_shl1, w_a31, w_andn, ↓reduceIte, Nat.reduceAdd, Nat.reduceEqDiff, Nat.zero_lt_one, Nat.not_lt_zero, Nat.one_ne_zero, Nat.zero_ne_one, not_true_eq_false, not_false_eq_true, Bool.false_eq_true, Bool.true_eq_false, n_leT, n_leF, n_ltT, n_ltF, n_eqT, n_eqF, and_true, true_and, and_false, false_and, or_true, true_or, or_false, false_or, not_true_eq_false, not_false_eq_true, T8, T2, T3, Na, Nb, up2_k (show c + 3 ≠ c + 7 by omega), up2_k (show c + 2 ≠ c + 7 by omega), up2_i (show Pb P w ≠ Pa P w from fun e => hww.2.2.2 e.symm)]
    have b1 : ∃ T, ((nI 0, (va_up T0 (c + 7) (pre (fun _ => nI 0) (T0 (c + 7)) (Pp P)), R0 pl nm hd rd)) : Int32 × Mem) = (nI 0, (T, R0 pl nm hd rd)) ∧ (∀ j, j ≠ c + 7 → T j = T0 j) ∧ (∀ x, x < Pp P → T (c + 7) x = nI (nearW P 0 x)) := by
      refine ⟨_, rfl, fun j hj => va_o hj, fun x hx => ?_⟩
      rw [va_1, nearW_0]
      unfold pre
      rw [if_pos hx]
    obtain ⟨s', ⟨T, rfl, g1, g2⟩, hl⟩ := lpI (fun F (s : Int32 × Mem) => fX3_dropLatest_L65 FU c F s.1 s.2) _ (Pn P - 1) st (Pn P - 1) 0 _ FU (by omega) (by omega) b1
    simp only at hl
    obtain ⟨G', hG'⟩ : ∃ G, FU - (Pn P - 1) = G + 1 := ⟨FU - (Pn P - 1) - 1, by omega⟩
    have T8 : T c 8 = nI (Pn P - 1) := by rw [g1 c (by omega), t8]
    have T12 : T c 12 = I c 12 := by rw [g1 c (by omega), tc 12 (by decide) (by decide)]
    refine ⟨up2 T c 12 (I c 12 + nI 1), ?_, ⟨?_, ?_, ?_, ?_, ?_, fun w hw => ?_, fun w hw => ?_, fun w hw => ?_, fun w hw => ?_, fun w k hw e => ?_, fun x hx => ?_, fun x hx => ?_⟩, by rw [up2_s], fun j hj => ?_⟩
    · unfold fX3_dropLatest_b40
      simp (discharger := omega) only [li_0, li_1, li_2, li_3, li_4, li_5, li_6, li_7, li_8, li_9, li_10, li_11, li_12, li_13, li_14, li_15, li_16, li_17, li_18, li_19, li_20, li_21, li_22, li_23, li_24, li_25, li_26, li_27, li_28, li_29, li_30, li_31, li_32, li_33, li_34, li_35, li_36, li_37, li_38, li_39, li_40, li_41, li_42, li_43, li_44, li_45, li_46, li_47, li_48, li_49, li_50, li_51, li_52, li_53, li_54, li_55, li_56, li_57, li_58, li_59, li_60, li_61, li_62, li_63, li_64, li_65, li_66, li_67, li_68, li_69, li_70, li_71, li_72, li_73, li_74, li_75, li_76, li_77, li_78, li_79, li_80, li_81, li_82, li_83, li_84, li_85, li_86, li_87, li_88, li_89, li_90, li_91, li_92, li_93, li_94, li_95, li_96, li_97, li_98, li_99, li_100, li_101, li_102, li_103, li_104, li_105, li_106, li_107, li_108, li_109, li_110, li_111, li_112, li_113, li_114, li_115, li_116, li_117, li_118, li_119, li_120, li_121, li_122, li_123, li_124, li_125, li_126, li_127, li_128, li_144, li_150, li_200, li_255, li_384, li_512, li_999, li_1000, li_1024, li_1152, li_1920, li_3776, li_4096, li_9216, li_10000, li_100000, li_1073741824, li_m]
      rw [l1, hG, fX3_dropLatest_L42]
      simp (discharger := omega) only [li_0, li_1, li_2, li_3, li_4, li_5, li_6, li_7, li_8, li_9, li_10, li_11, li_12, li_13, li_14, li_15, li_16, li_17, li_18, li_19, li_20, li_21, li_22, li_23, li_24, li_25, li_26, li_27, li_28, li_29, li_30, li_31, li_32, li_33, li_34, li_35, li_36, li_37, li_38, li_39, li_40, li_41, li_42, li_43, li_44, li_45, li_46, li_47, li_48, li_49, li_50, li_51, li_52, li_53, li_54, li_55, li_56, li_57, li_58, li_59, li_60, li_61, li_62, li_63, li_64, li_65, li_66, li_67, li_68, li_69, li_70, li_71, li_72, li_73, li_74, li_75, li_76, li_77, li_78, li_79, li_80, li_81, li_82, li_83, li_84, li_85, li_86, li_87, li_88, li_89, li_90, li_91, li_92, li_93, li_94, li_95, li_96, li_97, li_98, li_99, li_100, li_101, li_102, li_103, li_104, li_105, li_106, li_107, li_108, li_109, li_110, li_111, li_112, li_113, li_114, li_115, li_116, li_117, li_118, li_119, li_120, li_121, li_122, li_123, li_124, li_125, li_126, li_127, li_128, li_144, li_150, li_200, li_255, li_384, li_512, li_999, li_1000, li_1024, li_1152, li_1920, li_3776, li_4096, li_9216, li_10000, li_100000, li_1073741824, li_m, ↓rcb_P hc, ↓fIb_P hc, ↓pIb_P hc, ↓fRb_P1 hc, ↓aIb_P1 hc, ↓sIb_P1 hc, ↓fRb_P2 hc, ↓aIb_P2 hc, ↓sIb_P2 hc, ↓fRb_P3 hc, ↓aIb_P3 hc, ↓sIb_P3 hc, ↓fRb_P4 hc, ↓aIb_P4 hc, ↓sIb_P4 hc, ↓fRb_P5 hc, ↓aIb_P5 hc, ↓sIb_P5 hc, ↓fRb_P6 hc, ↓aIb_P6 hc, ↓sIb_P6 hc, ↓fRb_P7 hc, ↓aIb_P7 hc, ↓sIb_P7 hc, rc_P hc, fI_P hc, fR_P hc, pI_P hc, r0_P1 hc, aI_P1 hc, sI_P1 hc, r0_P2 hc, aI_P2 hc, sI_P2 hc, r0_P3 hc, aI_P3 hc, sI_P3 hc, r0_P4 hc, aI_P4 hc, sI_P4 hc, r0_P5 hc, aI_P5 hc, sI_P5 hc, r0_P6 hc, aI_P6 hc, sI_P6 hc, r0_P7 hc, aI_P7 hc, sI_P7 hc, w_bind, w_bd2, b01_eq0, b01_ok, b01_ok2, w_lt, w_le, w_eq, w_mlt, w_mle, w_ltm, w_lem, w_meq, w_eqm, w_mm, w_mmlt, w_mmle, nI_add, w_sub, pk_mul, w_div, w_rem, w_and, w_or, w_shr, w_shl1, w_a31, w_andn, ↓reduceIte, Nat.reduceAdd, Nat.reduceEqDiff, Nat.zero_lt_one, Nat.not_lt_zero, Nat.one_ne_zero, Nat.zero_ne_one, not_true_eq_false, not_false_eq_true, Bool.false_eq_true, Bool.true_eq_false, n_leT, n_leF, n_ltT, n_ltF, n_eqT, n_eqF, and_true, true_and, and_false, false_and, or_true, true_or, or_false, false_or, not_true_eq_false, not_false_eq_true, e0]
      rw [hl, hG', fX3_dropLatest_L65]
      simp (discharger := omega) only [li_0, li_1, li_2, li_3, li_4, li_5, li_6, li_7, li_8, li_9, li_10, li_11, li_12, li_13, li_14, li_15, li_16, li_17, li_18, li_19, li_20, li_21, li_22, li_23, li_24, li_25, li_26, li_27, li_28, li_29, li_30, li_31, li_32, li_33, li_34, li_35, li_36, li_37, li_38, li_39, li_40, li_41, li_42, li_43, li_44, li_45, li_46, li_47, li_48, li_49, li_50, li_51, li_52, li_53, li_54, li_55, li_56, li_57, li_58, li_59, li_60, li_61, li_62, li_63, li_64, li_65, li_66, li_67, li_68, li_69, li_70, li_71, li_72, li_73, li_74, li_75, li_76, li_77, li_78, li_79, li_80, li_81, li_82, li_83, li_84, li_85, li_86, li_87, li_88, li_89, li_90, li_91, li_92, li_93, li_94, li_95, li_96, li_97, li_98, li_99, li_100, li_101, li_102, li_103, li_104, li_105, li_106, li_107, li_108, li_109, li_110, li_111, li_112, li_113, li_114, li_115, li_116, li_117, li_118, li_119, li_120, li_121, li_122, li_123, li_124, li_125, li_126, li_127, li_128, li_144, li_150, li_200, li_255, li_384, li_512, li_999, li_1000, li_1024, li_1152, li_1920, li_3776, li_4096, li_9216, li_10000, li_100000, li_1073741824, li_m, ↓rcb_P hc, ↓fIb_P hc, ↓pIb_P hc, ↓fRb_P1 hc, ↓aIb_P1 hc, ↓sIb_P1 hc, ↓fRb_P2 hc, ↓aIb_P2 hc, ↓sIb_P2 hc, ↓fRb_P3 hc, ↓aIb_P3 hc, ↓sIb_P3 hc, ↓fRb_P4 hc, ↓aIb_P4 hc, ↓sIb_P4 hc, ↓fRb_P5 hc, ↓aIb_P5 hc, ↓sIb_P5 hc, ↓fRb_P6 hc, ↓aIb_P6 hc, ↓sIb_P6 hc, ↓fRb_P7 hc, ↓aIb_P7 hc, ↓sIb_P7 hc, rc_P hc, fI_P hc, fR_P hc, pI_P hc, r0_P1 hc, aI_P1 hc, sI_P1 hc, r0_P2 hc, aI_P2 hc, sI_P2 hc, r0_P3 hc, aI_P3 hc, sI_P3 hc, r0_P4 hc, aI_P4 hc, sI_P4 hc, r0_P5 hc, aI_P5 hc, sI_P5 hc, r0_P6 hc, aI_P6 hc, sI_P6 hc, r0_P7 hc, aI_P7 hc, sI_P7 hc, w_bind, w_bd2, b01_eq0, b01_ok, b01_ok2, w_lt, w_le, w_eq, w_mlt, w_mle, w_ltm, w_lem, w_meq, w_eqm, w_mm, w_mmlt, w_mmle, nI_add, w_sub, pk_mul, w_div, w_rem, w_and, w_or, w_shr, w_shl1, w_a31, w_andn, ↓reduceIte, Nat.reduceAdd, Nat.reduceEqDiff, Nat.zero_lt_one, Nat.not_lt_zero, Nat.one_ne_zero, Nat.zero_ne_one, not_true_eq_false, not_false_eq_true, Bool.false_eq_true, Bool.true_eq_false, n_leT, n_leF, n_ltT, n_ltF, n_eqT, n_eqF, and_true, true_and, and_false, false_and, or_true, true_or, or_false, false_or, not_true_eq_false, not_false_eq_true, T8, T12]
    · rw [up2_i (by decide), g1 c (by omega), t0, p0]; rfl
    · rw [up2_i (by decide), T8]; rfl
    · rw [up2_i (by decide), g1 c (by omega), t9]; rfl
    · rw [up2_i (by decide), g1 c (by omega), tc 10 (by decide) (by decide), p10]; rfl
    · rw [up2_i (by decide), g1 c (by omega), tc 11 (by decide) (by decide), p11]; rfl
    · have hw : w < Pn P - 1 := hw
      rw [up2_k (by omega), g1 _ (by omega), tj _ (by omega), pk w (by omega)]; rfl
    · have hw : w < Pn P - 1 := hw
      rw [up2_k (by omega), g1 _ (by omega), tj _ (by omega), pa w (by omega)]; rfl
    · have hw : w < Pn P - 1 := hw
      rw [up2_k (by omega), g1 _ (by omega), tj _ (by omega), pb w (by omega)]; rfl
    · have hw : w < Pn P - 1 := hw
      rw [up2_k (by omega), g1 _ (by omega), tj _ (by omega), po w (by omega)]; rfl
    · have hw : w < Pn P - 1 := hw
      rw [up2_k (by omega), g1 _ (by omega), tj _ (by omega), pf w k (by omega) e]; rfl
    · rw [up2_k (by omega), g1 _ (by omega), tj _ (by omega), pg x hx]; rfl
    · rw [up2_k (by omega), g2 x hx]; rfl
    · rw [up2_ne (by omega), g1 j (by omega), tj j (by omega)]
  unfold fX3_dropLatest
  have sn : shN P (Pn P) = shN P (Pn P - 1) + if isSh (Pk P (Pn P - 1)) = true then 1 else 0 := by
    obtain ⟨m, hm⟩ : ∃ m, Pn P = m + 1 := ⟨Pn P - 1, by omega⟩
    rw [hm]
    rfl
  cases e : shO P (Pn P - 1) with
  | none =>
    have ns : ¬ isSh (Pk P (Pn P - 1)) = true := by
      intro y
      unfold shO at e
      rw [if_pos y] at e
      cases e
    rw [if_neg ns] at sn
    rw [e] at o1
    obtain ⟨J, j1, j2⟩ := main (up2 I c 8 (nI (Pn P - 1))) (by rw [up2_i (by decide)]) (by rw [up2_s]) (by rw [up2_i (by decide), p9, sn]; rfl) (fun i i1 i2 => by rw [up2_i i1]) (fun j hj => up2_ne hj)
    refine ⟨J, ?_, j2⟩
    simp (discharger := omega) only [li_0, li_1, li_2, li_3, li_4, li_5, li_6, li_7, li_8, li_9, li_10, li_11, li_12, li_13, li_14, li_15, li_16, li_17, li_18, li_19, li_20, li_21, li_22, li_23, li_24, li_25, li_26, li_27, li_28, li_29, li_30, li_31, li_32, li_33, li_34, li_35, li_36, li_37, li_38, li_39, li_40, li_41, li_42, li_43, li_44, li_45, li_46, li_47, li_48, li_49, li_50, li_51, li_52, li_53, li_54, li_55, li_56, li_57, li_58, li_59, li_60, li_61, li_62, li_63, li_64, li_65, li_66, li_67, li_68, li_69, li_70, li_71, li_72, li_73, li_74, li_75, li_76, li_77, li_78, li_79, li_80, li_81, li_82, li_83, li_84, li_85, li_86, li_87, li_88, li_89, li_90, li_91, li_92, li_93, li_94, li_95, li_96, li_97, li_98, li_99, li_100, li_101, li_102, li_103, li_104, li_105, li_106, li_107, li_108, li_109, li_110, li_111, li_112, li_113, li_114, li_115, li_116, li_117, li_118, li_119, li_120, li_121, li_122, li_123, li_124, li_125, li_126, li_127, li_128, li_144, li_150, li_200, li_255, li_384, li_512, li_999, li_1000, li_1024, li_1152, li_1920, li_3776, li_4096, li_9216, li_10000, li_100000, li_1073741824, li_m, ↓rcb_P hc, ↓fIb_P hc, ↓pIb_P hc, ↓fRb_P1 hc, ↓aIb_P1 hc, ↓sIb_P1 hc, ↓fRb_P2 hc, ↓aIb_P2 hc, ↓sIb_P2 hc, ↓fRb_P3 hc, ↓aIb_P3 hc, ↓sIb_P3 hc, ↓fRb_P4 hc, ↓aIb_P4 hc, ↓sIb_P4 hc, ↓fRb_P5 hc, ↓aIb_P5 hc, ↓sIb_P5 hc, ↓fRb_P6 hc, ↓aIb_P6 hc, ↓sIb_P6 hc, ↓fRb_P7 hc, ↓aIb_P7 hc, ↓sIb_P7 hc, rc_P hc, fI_P hc, fR_P hc, pI_P hc, r0_P1 hc, aI_P1 hc, sI_P1 hc, r0_P2 hc, aI_P2 hc, sI_P2 hc, r0_P3 hc, aI_P3 hc, sI_P3 hc, r0_P4 hc, aI_P4 hc, sI_P4 hc, r0_P5 hc, aI_P5 hc, sI_P5 hc, r0_P6 hc, aI_P6 hc, sI_P6 hc, r0_P7 hc, aI_P7 hc, sI_P7 hc, w_bind, w_bd2, b01_eq0, b01_ok, b01_ok2, w_lt, w_le, w_eq, w_mlt, w_mle, w_ltm, w_lem, w_meq, w_eqm, w_mm, w_mmlt, w_mmle, nI_add, w_sub, pk_mul, w_div, w_rem, w_and, w_or, w_shr, w_shl1, w_a31, w_andn, ↓reduceIte, Nat.reduceAdd, Nat.reduceEqDiff, Nat.zero_lt_one, Nat.not_lt_zero, Nat.one_ne_zero, Nat.zero_ne_one, not_true_eq_false, not_false_eq_true, Bool.false_eq_true, Bool.true_eq_false, n_leT, n_leF, n_ltT, n_ltF, n_eqT, n_eqF, and_true, true_and, and_false, false_and, or_true, true_or, or_false, false_or, not_true_eq_false, not_false_eq_true, p8, up2_s, up2_k (show c + 4 ≠ c by omega), o1, oI]
    exact j1
  | some k =>
    have ys : isSh (Pk P (Pn P - 1)) = true := by
      apply Classical.byContradiction
      intro y
      unfold shO at e
      rw [if_neg y] at e
      cases e
    rw [if_pos ys] at sn
    rw [e] at o1
    have hk := shO_lt (by omega) e
    have p9' : up2 I c 8 (nI (Pn P - 1)) c 9 = nI (shN P (Pn P)) := by rw [up2_i (by decide), p9]
    obtain ⟨J, j1, j2⟩ := main (up2 (up2 I c 8 (nI (Pn P - 1))) c 9 (nI (shN P (Pn P) - 1))) (by rw [up2_i (by decide), up2_i (by decide)]) (by rw [up2_i (by decide), up2_s]) (by rw [up2_s, sn]; rfl) (fun i i1 i2 => by rw [up2_i i2, up2_i i1]) (fun j hj => by rw [up2_ne hj, up2_ne hj])
    refine ⟨J, ?_, j2⟩
    simp (discharger := omega) only [li_0, li_1, li_2, li_3, li_4, li_5, li_6, li_7, li_8, li_9, li_10, li_11, li_12, li_13, li_14, li_15, li_16, li_17, li_18, li_19, li_20, li_21, li_22, li_23, li_24, li_25, li_26, li_27, li_28, li_29, li_30, li_31, li_32, li_33, li_34, li_35, li_36, li_37, li_38, li_39, li_40, li_41, li_42, li_43, li_44, li_45, li_46, li_47, li_48, li_49, li_50, li_51, li_52, li_53, li_54, li_55, li_56, li_57, li_58, li_59, li_60, li_61, li_62, li_63, li_64, li_65, li_66, li_67, li_68, li_69, li_70, li_71, li_72, li_73, li_74, li_75, li_76, li_77, li_78, li_79, li_80, li_81, li_82, li_83, li_84, li_85, li_86, li_87, li_88, li_89, li_90, li_91, li_92, li_93, li_94, li_95, li_96, li_97, li_98, li_99, li_100, li_101, li_102, li_103, li_104, li_105, li_106, li_107, li_108, li_109, li_110, li_111, li_112, li_113, li_114, li_115, li_116, li_117, li_118, li_119, li_120, li_121, li_122, li_123, li_124, li_125, li_126, li_127, li_128, li_144, li_150, li_200, li_255, li_384, li_512, li_999, li_1000, li_1024, li_1152, li_1920, li_3776, li_4096, li_9216, li_10000, li_100000, li_1073741824, li_m, ↓rcb_P hc, ↓fIb_P hc, ↓pIb_P hc, ↓fRb_P1 hc, ↓aIb_P1 hc, ↓sIb_P1 hc, ↓fRb_P2 hc, ↓aIb_P2 hc, ↓sIb_P2 hc, ↓fRb_P3 hc, ↓aIb_P3 hc, ↓sIb_P3 hc, ↓fRb_P4 hc, ↓aIb_P4 hc, ↓sIb_P4 hc, ↓fRb_P5 hc, ↓aIb_P5 hc, ↓sIb_P5 hc, ↓fRb_P6 hc, ↓aIb_P6 hc, ↓sIb_P6 hc, ↓fRb_P7 hc, ↓aIb_P7 hc, ↓sIb_P7 hc, rc_P hc, fI_P hc, fR_P hc, pI_P hc, r0_P1 hc, aI_P1 hc, sI_P1 hc, r0_P2 hc, aI_P2 hc, sI_P2 hc, r0_P3 hc, aI_P3 hc, sI_P3 hc, r0_P4 hc, aI_P4 hc, sI_P4 hc, r0_P5 hc, aI_P5 hc, sI_P5 hc, r0_P6 hc, aI_P6 hc, sI_P6 hc, r0_P7 hc, aI_P7 hc, sI_P7 hc, w_bind, w_bd2, b01_eq0, b01_ok, b01_ok2, w_lt, w_le, w_eq, w_mlt, w_mle, w_ltm, w_lem, w_meq, w_eqm, w_mm, w_mmlt, w_mmle, nI_add, w_sub, pk_mul, w_div, w_rem, w_and, w_or, w_shr, w_shl1, w_a31, w_andn, ↓reduceIte, Nat.reduceAdd, Nat.reduceEqDiff, Nat.zero_lt_one, Nat.not_lt_zero, Nat.one_ne_zero, Nat.zero_ne_one, not_true_eq_false, not_false_eq_true, Bool.false_eq_true, Bool.true_eq_false, n_leT, n_leF, n_ltT, n_ltF, n_eqT, n_eqF, and_true, true_and, and_false, false_and, or_true, true_or, or_false, false_or, not_true_eq_false, not_false_eq_true, p8, up2_s, up2_k (show c + 4 ≠ c by omega), o1, oI, p9']
    exact j1
end Drop
