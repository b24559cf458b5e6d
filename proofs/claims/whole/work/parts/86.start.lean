/-! calls: start -/
section Start
variable {FU ver : Nat} {P : Pln} {I J : Nat → Nat → Int32} {pl nm hd rd : Option Nat}
/-- known behind a look -/
def lookK (P : Pln) (s : Sd) (kn : Nat) : Nat := if (seeH P s.1 s.2.1).testBit s.2.2.1 = true then 2 ^ s.2.2.1 else andn kn (seeH P s.1 s.2.1)
theorem seeH_lt (hW : WfP P) {h i : Nat} (hh : h < Pp P) (hi : i < Pp P) : seeH P h i < 256 := Nat.or_lt_two_pow (n := 8) (seeP_lt hW hh) (seeP_lt hW hi)
theorem lookK_lt (hW : WfP P) {s : Sd} {kn : Nat} (hs : Vd P s) (hk : kn < 256) : lookK P s kn < 256 := by
  have hin := Vd_in hW hs
  unfold lookK
  split
  · exact pw_lt hin.2.2.1
  · exact Nat.lt_of_le_of_lt (andn_le _ _) hk
theorem c_look (hF : 99999999 ≤ FU) (hC : PlC 1 P I) (hW : WfP P) {s : Sd} {kn : Nat} (hs : Vd P s) (hk : kn < 256) (h1 : I 35 1 = nI (cC s)) (h2 : I 35 2 = nI kn) : fX0_look FU 35 (some 1) (I, R0 pl nm hd rd) = some (up2 I 35 2 (nI (lookK P s kn)), R0 pl nm hd rd) := by
  have hc : (1 : Nat) = 1 ∨ (1 : Nat) = 9 := Or.inl rfl
  have hin := Vd_in hW hs
  have hpr := isPr_iff.mp hs.1
  have cl := cC_lt hin
  have d1 := c_seenFrom (FU := FU) (pl := pl) (nm := nm) (hd := hd) (rd := rd) hF hc hC hW hpr.1 hpr.2.1
  have sl := seeH_lt hW hpr.1 hpr.2.1
  obtain ⟨a1, a2, a3, a4, a5⟩ := hin
  have e1 : (cC s >>> 3) % 64 = s.1 * 8 + s.2.1 := by unfold cC; exact k_1 a1 a2 a3 a4
  have e2 : cC s % 8 = s.2.2.1 := by unfold cC; exact k_2 a3
  unfold fX0_look lookK
  simp (discharger := omega) only [li_0, li_1, li_2, li_3, li_4, li_5, li_6, li_7, li_8, li_9, li_10, li_11, li_12, li_13, li_14, li_15, li_16, li_17, li_18, li_19, li_20, li_21, li_22, li_23, li_24, li_25, li_26, li_27, li_28, li_29, li_30, li_31, li_32, li_33, li_34, li_35, li_36, li_37, li_38, li_39, li_40, li_41, li_42, li_43, li_44, li_45, li_46, li_47, li_48, li_49, li_50, li_51, li_52, li_53, li_54, li_55, li_56, li_57, li_58, li_59, li_60, li_61, li_62, li_63, li_64, li_65, li_66, li_67, li_68, li_69, li_70, li_71, li_72, li_73, li_74, li_75, li_76, li_77, li_78, li_79, li_80, li_81, li_82, li_83, li_84, li_85, li_86, li_87, li_88, li_89, li_90, li_91, li_92, li_93, li_94, li_95, li_96, li_97, li_98, li_99, li_100, li_101, li_102, li_103, li_104, li_105, li_106, li_107, li_108, li_109, li_110, li_111, li_112, li_113, li_114, li_115, li_116, li_117, li_118, li_119, li_120, li_121, li_122, li_123, li_124, li_125, li_126, li_127, li_128, li_144, li_150, li_200, li_255, li_384, li_512, li_999, li_1000, li_1024, li_1152, li_1920, li_3776, li_4096, li_9216, li_10000, li_100000, li_1073741824, li_m, ↓rcb_35, ↓fIb_35, ↓pIb_35, ↓fRb_35_5, ↓fRb_35_6, ↓aIb_36, ↓sIb_36, ↓aIb_37, ↓sIb_37, r0_35_5, r0_35_6, rc_35, fI_35, fR_35, pI_35, aI_36, sI_36, aI_37, sI_37, ↓rcb_1, w_lt, w_le, w_eq, w_mlt, w_mle, w_ltm, w_lem, w_meq, w_eqm, w_mm, w_mmlt, w_mmle, nI_add, w_sub, pk_mul, w_div, w_rem, w_and, w_or, w_shr, w_shl1, w_a31, w_andn, w_a63, w_a7, h1, e1, e2, dn d1, w_bind, w_bd2, b01_eq0, b01_ok, b01_ok2, ↓reduceIte, Nat.reduceAdd, Nat.reduceEqDiff, Nat.zero_lt_one, Nat.not_lt_zero, Nat.one_ne_zero, Nat.zero_ne_one, not_true_eq_false, not_false_eq_true, Bool.false_eq_true, Bool.true_eq_false, w_a1, w_bit0, h2]
  by_cases z : (seeH P s.1 s.2.1).testBit s.2.2.1 = true
  · simp only [z, Bool.true_eq_false, if_false, if_true]
  · have z2 : (seeH P s.1 s.2.1).testBit s.2.2.1 = false := by simpa using z
    simp only [z2, Bool.false_eq_true, if_false, if_true]
theorem r_look (hF : 99999999 ≤ FU) (hR : PlR P J) (hW : WfP P) {s : Sd} {kn : Nat} (hs : Vd P s) (hk : kn < 256) (h1 : J 60 20 = nI (cR s)) (h2 : J 60 21 = nI kn) : fX9_look FU 60 (J, R0 pl nm hd rd) = some (up2 J 60 21 (nI (lookK P s kn)), R0 pl nm hd rd) := by
  have hin := Vd_in hW hs
  have hpr := isPr_iff.mp hs.1
  have d1 := r_seenBy (FU := FU) (pl := pl) (nm := nm) (hd := hd) (rd := rd) hF hR hW hpr.1 hpr.2.1
  have sl := seeH_lt hW hpr.1 hpr.2.1
  have g1 := r_first (FU := FU) (pl := pl) (nm := nm) (hd := hd) (rd := rd) (I := J) hin
  have g2 := r_second (FU := FU) (pl := pl) (nm := nm) (hd := hd) (rd := rd) (I := J) hin
  have g3 := r_runner (FU := FU) (pl := pl) (nm := nm) (hd := hd) (rd := rd) (I := J) hin
  have a3 := hin.2.2.1
  rw [← h1] at g1 g2 g3
  unfold fX9_look lookK
  simp (discharger := omega) only [li_0, li_1, li_2, li_3, li_4, li_5, li_6, li_7, li_8, li_9, li_10, li_11, li_12, li_13, li_14, li_15, li_16, li_17, li_18, li_19, li_20, li_21, li_22, li_23, li_24, li_25, li_26, li_27, li_28, li_29, li_30, li_31, li_32, li_33, li_34, li_35, li_36, li_37, li_38, li_39, li_40, li_41, li_42, li_43, li_44, li_45, li_46, li_47, li_48, li_49, li_50, li_51, li_52, li_53, li_54, li_55, li_56, li_57, li_58, li_59, li_60, li_61, li_62, li_63, li_64, li_65, li_66, li_67, li_68, li_69, li_70, li_71, li_72, li_73, li_74, li_75, li_76, li_77, li_78, li_79, li_80, li_81, li_82, li_83, li_84, li_85, li_86, li_87, li_88, li_89, li_90, li_91, li_92, li_93, li_94, li_95, li_96, li_97, li_98, li_99, li_100, li_101, li_102, li_103, li_104, li_105, li_106, li_107, li_108, li_109, li_110, li_111, li_112, li_113, li_114, li_115, li_116, li_117, li_118, li_119, li_120, li_121, li_122, li_123, li_124, li_125, li_126, li_127, li_128, li_144, li_150, li_200, li_255, li_384, li_512, li_999, li_1000, li_1024, li_1152, li_1920, li_3776, li_4096, li_9216, li_10000, li_100000, li_1073741824, li_m, ↓rcb_60, ↓fIb_60, ↓pIb_60, ↓fRb_60_4, ↓fRb_60_5, ↓fRb_60_6, ↓fRb_60_7, ↓fRb_60_8, ↓fRb_60_10, ↓fRb_60_11, ↓fRb_60_12, ↓fRb_60_13, ↓fRb_60_14, ↓fRb_60_16, ↓fRb_60_17, ↓fRb_60_18, ↓fRb_60_24, ↓fRb_60_25, ↓fRb_60_26, ↓fRb_60_30, ↓fRb_60_31, ↓fRb_60_36, ↓fRb_60_37, ↓fRb_60_42, ↓fRb_60_43, ↓fRb_60_44, ↓fRb_60_45, ↓aIb_61, ↓sIb_61, ↓aIb_62, ↓sIb_62, ↓aIb_63, ↓sIb_63, ↓aIb_64, ↓sIb_64, ↓aIb_65, ↓sIb_65, ↓aIb_66, ↓sIb_66, ↓aIb_67, ↓sIb_67, ↓aIb_68, ↓sIb_68, ↓aIb_69, ↓sIb_69, ↓aIb_70, ↓sIb_70, ↓aIb_71, ↓sIb_71, ↓aIb_72, ↓sIb_72, ↓aIb_73, ↓sIb_73, ↓aIb_74, ↓sIb_74, ↓aIb_75, ↓sIb_75, ↓aIb_76, ↓sIb_76, ↓aIb_77, ↓sIb_77, ↓aIb_78, ↓sIb_78, ↓aIb_79, ↓sIb_79, ↓aIb_80, ↓sIb_80, ↓aIb_81, ↓sIb_81, ↓aIb_82, ↓sIb_82, ↓aIb_83, ↓sIb_83, ↓aIb_84, ↓sIb_84, r0_60_4, r0_60_5, r0_60_6, r0_60_7, r0_60_8, r0_60_10, r0_60_11, r0_60_12, r0_60_13, r0_60_14, r0_60_16, r0_60_17, r0_60_18, r0_60_24, r0_60_25, r0_60_26, r0_60_30, r0_60_31, r0_60_36, r0_60_37, r0_60_42, r0_60_43, r0_60_44, r0_60_45, rc_60, fI_60, fR_60, pI_60, aI_61, sI_61, aI_62, sI_62, aI_63, sI_63, aI_64, sI_64, aI_65, sI_65, aI_66, sI_66, aI_67, sI_67, aI_68, sI_68, aI_69, sI_69, aI_70, sI_70, aI_71, sI_71, aI_72, sI_72, aI_73, sI_73, aI_74, sI_74, aI_75, sI_75, aI_76, sI_76, aI_77, sI_77, aI_78, sI_78, aI_79, sI_79, aI_80, sI_80, aI_81, sI_81, aI_82, sI_82, aI_83, sI_83, aI_84, sI_84, ↓dn g1, ↓dn g2, ↓dn g3, ↓dn d1, w_lt, w_le, w_eq, w_mlt, w_mle, w_ltm, w_lem, w_meq, w_eqm, w_mm, w_mmlt, w_mmle, nI_add, w_sub, pk_mul, w_div, w_rem, w_and, w_or, w_shr, w_shl1, w_a31, w_andn, w_bind, w_bd2, b01_eq0, b01_ok, b01_ok2, ↓reduceIte, Nat.reduceAdd, Nat.reduceEqDiff, Nat.zero_lt_one, Nat.not_lt_zero, Nat.one_ne_zero, Nat.zero_ne_one, not_true_eq_false, not_false_eq_true, Bool.false_eq_true, Bool.true_eq_false, w_a1, w_bit1, h2]
  by_cases z : (seeH P s.1 s.2.1).testBit s.2.2.1 = true
  · simp only [z, not_true_eq_false, if_false, if_true]
  · have z2 : (seeH P s.1 s.2.1).testBit s.2.2.1 = false := by simpa using z
    simp only [z2, Bool.false_eq_true, not_false_eq_true, if_false, if_true]
end Start
