/-! the class: behind a move, what is seen -/
section After
variable {FU c : Nat} {P : Pln} {I : Nat → Nat → Int32} {pl nm hd rd : Option Nat}
theorem w_m1a : mI 1 + nI 1 = nI 0 := by decide
theorem w_a512 {x : Nat} : (x &&& 512 = 0) = (x / 512 % 2 = 0) := by
  rw [show (512 : Nat) = 2 ^ 9 from rfl, w_and2 (by decide), ← w_bit0, Nat.shiftRight_eq_div_pow]
theorem w_a512' {x : Nat} : (nI (x &&& 512) = nI 0) = (x / 512 % 2 = 0) := by
  have h : x &&& 512 ≤ 512 := Nat.and_le_right
  rw [w_eq (by omega) (by omega), w_a512]
theorem k_1 {h i r t sh : Nat} (hh : h < 8) (hi : i < 8) (hr : r < 8) (ht : t < 2) : ((sh * 1024 + (t * 512 + ((h * 8 + i) * 8 + r))) >>> 3) % 64 = h * 8 + i := by
  rw [Nat.shiftRight_eq_div_pow]
  omega
theorem k_2 {h i r t sh : Nat} (hr : r < 8) : (sh * 1024 + (t * 512 + ((h * 8 + i) * 8 + r))) % 8 = r := by omega
theorem k_3 {h i r t sh : Nat} (hh : h < 8) (hi : i < 8) (hr : r < 8) (ht : t < 2) : (sh * 1024 + (t * 512 + ((h * 8 + i) * 8 + r))) / 1024 = sh := by omega
theorem k_4 {h i r t sh : Nat} (hh : h < 8) (hi : i < 8) (hr : r < 8) (ht : t < 2) : (sh * 1024 + (t * 512 + ((h * 8 + i) * 8 + r))) / 512 % 2 = t := by omega
theorem c_isRunnersTurn {s : Sd} (h : inS s) : fX6_isRunnersTurn FU (nI (cC s)) (I, R0 pl nm hd rd) = some (nI s.2.2.2.1, (I, R0 pl nm hd rd)) := by
  obtain ⟨h1, h2, h3, h4, h5⟩ := h
  unfold fX6_isRunnersTurn cC
  simp (discharger := omega) only [li_0, li_1, li_2, li_3, li_4, li_5, li_6, li_7, li_8, li_9, li_10, li_11, li_12, li_13, li_14, li_15, li_16, li_17, li_18, li_19, li_20, li_21, li_22, li_23, li_24, li_25, li_26, li_27, li_28, li_29, li_30, li_31, li_32, li_33, li_34, li_35, li_36, li_37, li_38, li_39, li_40, li_41, li_42, li_43, li_44, li_45, li_46, li_47, li_48, li_49, li_50, li_51, li_52, li_53, li_54, li_55, li_56, li_57, li_58, li_59, li_60, li_61, li_62, li_63, li_64, li_65, li_66, li_67, li_68, li_69, li_70, li_71, li_72, li_73, li_74, li_75, li_76, li_77, li_78, li_79, li_80, li_81, li_82, li_83, li_84, li_85, li_86, li_87, li_88, li_89, li_90, li_91, li_92, li_93, li_94, li_95, li_96, li_97, li_98, li_99, li_100, li_101, li_102, li_103, li_104, li_105, li_106, li_107, li_108, li_109, li_110, li_111, li_112, li_113, li_114, li_115, li_116, li_117, li_118, li_119, li_120, li_121, li_122, li_123, li_124, li_125, li_126, li_127, li_128, li_144, li_150, li_200, li_255, li_384, li_512, li_999, li_1000, li_1024, li_1152, li_1920, li_3776, li_4096, li_9216, li_10000, li_100000, li_1073741824, li_m, w_lt, w_le, w_eq, w_mlt, w_mle, w_ltm, w_lem, w_meq, w_eqm, w_mm, w_mmlt, w_mmle, nI_add, w_sub, pk_mul, w_div, w_rem, w_and, w_or, w_shr, w_shl1, w_a31, w_andn, w_a512', k_4]
  obtain e | e : s.2.2.2.1 = 0 ∨ s.2.2.2.1 = 1 := by omega
  · simp [e]
  · simp [e]
/-- the class's rows: what is shut behind a turn -/
def ShT (P : Pln) (I : Nat → Nat → Int32) : Prop := (∀ sh, sh < shS P → I 25 sh = nI (shB sh none 0)) ∧ (∀ w k sh, w < Pn P → shO P w = some k → sh < shS P → I 25 ((k + 1) * 9 + sh) = if opn P w sh = true then nI (shB sh (some k) (shF (Pk P w))) else mI 1)
theorem shS_le (P : Pln) : shS P ≤ 9 := by
  unfold shS
  split
  · omega
  · split <;> omega
theorem c_after (hc : c = 1 ∨ c = 9) (hP : PlC c P I) (hW : WfP P) (hT : ShT P I) {h i r t sh m : Nat} (hh : h < Pp P) (hi : i < Pp P) (hr : r < Pp P) (ht : t < 2) (hs : sh < shS P) (hm : m ≤ 32) : fX6_after FU 17 (nI (cC (h, i, r, t, sh))) (nI m) (I, R0 (some c) nm hd rd) = some (oI ((bhd P (h, i, r, t, sh) m).map cC), (I, R0 (some c) nm hd rd)) := by
  have hn := wf_n hW
  have hp := wf_p hW
  have hs9 := shS_le P
  have hin : inS (h, i, r, t, sh) := ⟨by show h < 8; omega, by show i < 8; omega, by show r < 8; omega, ht, by show sh < 9; omega⟩
  have b1 := c_isRunnersTurn (FU := FU) (pl := some c) (nm := nm) (hd := hd) (rd := rd) (I := I) hin
  simp only at b1
  have b2 := c_pairAfter (FU := FU) (pl := some c) (nm := nm) (hd := hd) (rd := rd) hc hP hW hh hi hm
  have b3 := c_runnerAfter (FU := FU) (pl := some c) (nm := nm) (hd := hd) (rd := rd) hc hP hW (h := h) (i := i) (by omega) (by omega) hr hm
  -- the second half, whoever moves
  have key : ∀ (to : Nat) (res : Nat → Nat), to < 64 → (m ≠ 0 → (m - 1) % 16 < Pn P) → (∀ th, th < 9 → (if t = 0 then th * 1024 + (512 + to * 8 + r) else th * 1024 + ((h * 8 + i) * 8 + to)) = res th) → fX6_after_b56 FU 17 (nI m) (nI sh) (nI (h * 8 + i)) (nI r) (nI t) (nI to) (I, R0 (some c) nm hd rd) = some (oI (if opnM P m sh = true then some (res (shM P m sh)) else none), (I, R0 (some c) nm hd rd)) := by
    intro to res hto hw hres
    have d1 := c_shutterPassed (FU := FU) (pl := some c) (nm := nm) (hd := hd) (rd := rd) hc hP hW hm hw
    have d9 : t = 0 ∨ t = 1 := by omega
    unfold fX6_after_b56
    by_cases m0 : m = 0
    · subst m0
      have d2 := hT.1 sh hs
      have d3 : shB sh none 0 < 9 := shB_lt (by omega) (by omega)
      have d4 := hres _ d3
      simp only [if_true] at d1
      simp (discharger := omega) only [li_0, li_1, li_2, li_3, li_4, li_5, li_6, li_7, li_8, li_9, li_10, li_11, li_12, li_13, li_14, li_15, li_16, li_17, li_18, li_19, li_20, li_21, li_22, li_23, li_24, li_25, li_26, li_27, li_28, li_29, li_30, li_31, li_32, li_33, li_34, li_35, li_36, li_37, li_38, li_39, li_40, li_41, li_42, li_43, li_44, li_45, li_46, li_47, li_48, li_49, li_50, li_51, li_52, li_53, li_54, li_55, li_56, li_57, li_58, li_59, li_60, li_61, li_62, li_63, li_64, li_65, li_66, li_67, li_68, li_69, li_70, li_71, li_72, li_73, li_74, li_75, li_76, li_77, li_78, li_79, li_80, li_81, li_82, li_83, li_84, li_85, li_86, li_87, li_88, li_89, li_90, li_91, li_92, li_93, li_94, li_95, li_96, li_97, li_98, li_99, li_100, li_101, li_102, li_103, li_104, li_105, li_106, li_107, li_108, li_109, li_110, li_111, li_112, li_113, li_114, li_115, li_116, li_117, li_118, li_119, li_120, li_121, li_122, li_123, li_124, li_125, li_126, li_127, li_128, li_144, li_150, li_200, li_255, li_384, li_512, li_999, li_1000, li_1024, li_1152, li_1920, li_3776, li_4096, li_9216, li_10000, li_100000, li_1073741824, li_m, ↓rcb_17, ↓fIb_17, ↓pIb_17, ↓fRb_17_5, ↓fRb_17_6, ↓fRb_17_7, ↓fRb_17_9, ↓fRb_17_10, ↓fRb_17_11, ↓fRb_17_12, ↓fRb_17_15, ↓fRb_17_16, ↓fRb_17_17, ↓fRb_17_0, ↓aIb_18, ↓sIb_18, ↓aIb_19, ↓sIb_19, ↓aIb_20, ↓sIb_20, ↓aIb_21, ↓sIb_21, ↓aIb_22, ↓sIb_22, ↓aIb_23, ↓sIb_23, ↓aIb_24, ↓sIb_24, ↓aIb_25, ↓sIb_25, ↓aIb_26, ↓sIb_26, ↓aIb_27, ↓sIb_27, r0_17_5, r0_17_6, r0_17_7, r0_17_9, r0_17_10, r0_17_11, r0_17_12, r0_17_15, r0_17_16, r0_17_17, r0_17_0, rc_17, fI_17, fR_17, pI_17, pR_17, aI_18, sI_18, aI_19, sI_19, aI_20, sI_20, aI_21, sI_21, aI_22, sI_22, aI_23, sI_23, aI_24, sI_24, aI_25, sI_25, aI_26, sI_26, aI_27, sI_27, ↓rcb_P hc, ↓fIb_P hc, ↓pIb_P hc, ↓fRb_P1 hc, ↓aIb_P1 hc, ↓sIb_P1 hc, ↓fRb_P2 hc, ↓aIb_P2 hc, ↓sIb_P2 hc, ↓fRb_P3 hc, ↓aIb_P3 hc, ↓sIb_P3 hc, ↓fRb_P4 hc, ↓aIb_P4 hc, ↓sIb_P4 hc, ↓fRb_P5 hc, ↓aIb_P5 hc, ↓sIb_P5 hc, ↓fRb_P6 hc, ↓aIb_P6 hc, ↓sIb_P6 hc, ↓fRb_P7 hc, ↓aIb_P7 hc, ↓sIb_P7 hc, rc_P hc, fI_P hc, fR_P hc, pI_P hc, r0_P1 hc, aI_P1 hc, sI_P1 hc, r0_P2 hc, aI_P2 hc, sI_P2 hc, r0_P3 hc, aI_P3 hc, sI_P3 hc, r0_P4 hc, aI_P4 hc, sI_P4 hc, r0_P5 hc, aI_P5 hc, sI_P5 hc, r0_P6 hc, aI_P6 hc, sI_P6 hc, r0_P7 hc, aI_P7 hc, sI_P7 hc, ↓dn d1, w_bind, w_bd2, b01_eq0, b01_ok, b01_ok2, w_lt, w_le, w_eq, w_mlt, w_mle, w_ltm, w_lem, w_meq, w_eqm, w_mm, w_mmlt, w_mmle, nI_add, w_sub, pk_mul, w_div, w_rem, w_and, w_or, w_shr, w_shl1, w_a31, w_andn, oI, w_m1a, Nat.zero_mul, Nat.zero_add, d2]
      rcases d9 with z | z
      · subst z
        simp [opnM, shM, oI, ← d4]
      · subst z
        simp [opnM, shM, oI, ← d4]
    · have hw' := hw m0
      rw [if_neg m0] at d1
      cases e : shO P ((m - 1) % 16) with
      | none =>
        have d2 := hT.1 sh hs
        have d3 : shB sh none (shF (Pk P ((m - 1) % 16))) < 9 := shB_lt (by omega) (shF_le _)
        have d5 : shB sh none (shF (Pk P ((m - 1) % 16))) = shB sh none 0 := rfl
        have d4 := hres _ d3
        rw [e] at d1
        rw [d5] at d3 d4
        simp (discharger := omega) only [li_0, li_1, li_2, li_3, li_4, li_5, li_6, li_7, li_8, li_9, li_10, li_11, li_12, li_13, li_14, li_15, li_16, li_17, li_18, li_19, li_20, li_21, li_22, li_23, li_24, li_25, li_26, li_27, li_28, li_29, li_30, li_31, li_32, li_33, li_34, li_35, li_36, li_37, li_38, li_39, li_40, li_41, li_42, li_43, li_44, li_45, li_46, li_47, li_48, li_49, li_50, li_51, li_52, li_53, li_54, li_55, li_56, li_57, li_58, li_59, li_60, li_61, li_62, li_63, li_64, li_65, li_66, li_67, li_68, li_69, li_70, li_71, li_72, li_73, li_74, li_75, li_76, li_77, li_78, li_79, li_80, li_81, li_82, li_83, li_84, li_85, li_86, li_87, li_88, li_89, li_90, li_91, li_92, li_93, li_94, li_95, li_96, li_97, li_98, li_99, li_100, li_101, li_102, li_103, li_104, li_105, li_106, li_107, li_108, li_109, li_110, li_111, li_112, li_113, li_114, li_115, li_116, li_117, li_118, li_119, li_120, li_121, li_122, li_123, li_124, li_125, li_126, li_127, li_128, li_144, li_150, li_200, li_255, li_384, li_512, li_999, li_1000, li_1024, li_1152, li_1920, li_3776, li_4096, li_9216, li_10000, li_100000, li_1073741824, li_m, ↓rcb_17, ↓fIb_17, ↓pIb_17, ↓fRb_17_5, ↓fRb_17_6, ↓fRb_17_7, ↓fRb_17_9, ↓fRb_17_10, ↓fRb_17_11, ↓fRb_17_12, ↓fRb_17_15, ↓fRb_17_16, ↓fRb_17_17, ↓fRb_17_0, ↓aIb_18, ↓sIb_18, ↓aIb_19, ↓sIb_19, ↓aIb_20, ↓sIb_20, ↓aIb_21, ↓sIb_21, ↓aIb_22, ↓sIb_22, ↓aIb_23, ↓sIb_23, ↓aIb_24, ↓sIb_24, ↓aIb_25, ↓sIb_25, ↓aIb_26, ↓sIb_26, ↓aIb_27, ↓sIb_27, r0_17_5, r0_17_6, r0_17_7, r0_17_9, r0_17_10, r0_17_11, r0_17_12, r0_17_15, r0_17_16, r0_17_17, r0_17_0, rc_17, fI_17, fR_17, pI_17, pR_17, aI_18, sI_18, aI_19, sI_19, aI_20, sI_20, aI_21, sI_21, aI_22, sI_22, aI_23, sI_23, aI_24, sI_24, aI_25, sI_25, aI_26, sI_26, aI_27, sI_27, ↓rcb_P hc, ↓fIb_P hc, ↓pIb_P hc, ↓fRb_P1 hc, ↓aIb_P1 hc, ↓sIb_P1 hc, ↓fRb_P2 hc, ↓aIb_P2 hc, ↓sIb_P2 hc, ↓fRb_P3 hc, ↓aIb_P3 hc, ↓sIb_P3 hc, ↓fRb_P4 hc, ↓aIb_P4 hc, ↓sIb_P4 hc, ↓fRb_P5 hc, ↓aIb_P5 hc, ↓sIb_P5 hc, ↓fRb_P6 hc, ↓aIb_P6 hc, ↓sIb_P6 hc, ↓fRb_P7 hc, ↓aIb_P7 hc, ↓sIb_P7 hc, rc_P hc, fI_P hc, fR_P hc, pI_P hc, r0_P1 hc, aI_P1 hc, sI_P1 hc, r0_P2 hc, aI_P2 hc, sI_P2 hc, r0_P3 hc, aI_P3 hc, sI_P3 hc, r0_P4 hc, aI_P4 hc, sI_P4 hc, r0_P5 hc, aI_P5 hc, sI_P5 hc, r0_P6 hc, aI_P6 hc, sI_P6 hc, r0_P7 hc, aI_P7 hc, sI_P7 hc, ↓dn d1, w_bind, w_bd2, b01_eq0, b01_ok, b01_ok2, w_lt, w_le, w_eq, w_mlt, w_mle, w_ltm, w_lem, w_meq, w_eqm, w_mm, w_mmlt, w_mmle, nI_add, w_sub, pk_mul, w_div, w_rem, w_and, w_or, w_shr, w_shl1, w_a31, w_andn, oI, w_m1a, Nat.zero_mul, Nat.zero_add, d2]
        have d6 : opn P ((m - 1) % 16) sh = true := by unfold opn; rw [e]
        rcases d9 with z | z
        · subst z
          simp [opnM, shM, oI, m0, e, d6, d5, ← d4]
        · subst z
          simp [opnM, shM, oI, m0, e, d6, d5, ← d4]
      | some k =>
        have d2 := hT.2 _ k sh hw' e hs
        have d7 := shO_lt hw' e
        have d8 := wf_sh hW
        have d3 : shB sh (some k) (shF (Pk P ((m - 1) % 16))) < 9 := shB_lt (by omega) (shF_le _)
        have d4 := hres _ d3
        rw [e] at d1
        by_cases d6 : opn P ((m - 1) % 16) sh = true
        · rw [if_pos d6] at d2
          simp (discharger := omega) only [li_0, li_1, li_2, li_3, li_4, li_5, li_6, li_7, li_8, li_9, li_10, li_11, li_12, li_13, li_14, li_15, li_16, li_17, li_18, li_19, li_20, li_21, li_22, li_23, li_24, li_25, li_26, li_27, li_28, li_29, li_30, li_31, li_32, li_33, li_34, li_35, li_36, li_37, li_38, li_39, li_40, li_41, li_42, li_43, li_44, li_45, li_46, li_47, li_48, li_49, li_50, li_51, li_52, li_53, li_54, li_55, li_56, li_57, li_58, li_59, li_60, li_61, li_62, li_63, li_64, li_65, li_66, li_67, li_68, li_69, li_70, li_71, li_72, li_73, li_74, li_75, li_76, li_77, li_78, li_79, li_80, li_81, li_82, li_83, li_84, li_85, li_86, li_87, li_88, li_89, li_90, li_91, li_92, li_93, li_94, li_95, li_96, li_97, li_98, li_99, li_100, li_101, li_102, li_103, li_104, li_105, li_106, li_107, li_108, li_109, li_110, li_111, li_112, li_113, li_114, li_115, li_116, li_117, li_118, li_119, li_120, li_121, li_122, li_123, li_124, li_125, li_126, li_127, li_128, li_144, li_150, li_200, li_255, li_384, li_512, li_999, li_1000, li_1024, li_1152, li_1920, li_3776, li_4096, li_9216, li_10000, li_100000, li_1073741824, li_m, ↓rcb_17, ↓fIb_17, ↓pIb_17, ↓fRb_17_5, ↓fRb_17_6, ↓fRb_17_7, ↓fRb_17_9, ↓fRb_17_10, ↓fRb_17_11, ↓fRb_17_12, ↓fRb_17_15, ↓fRb_17_16, ↓fRb_17_17, ↓fRb_17_0, ↓aIb_18, ↓sIb_18, ↓aIb_19, ↓sIb_19, ↓aIb_20, ↓sIb_20, ↓aIb_21, ↓sIb_21, ↓aIb_22, ↓sIb_22, ↓aIb_23, ↓sIb_23, ↓aIb_24, ↓sIb_24, ↓aIb_25, ↓sIb_25, ↓aIb_26, ↓sIb_26, ↓aIb_27, ↓sIb_27, r0_17_5, r0_17_6, r0_17_7, r0_17_9, r0_17_10, r0_17_11, r0_17_12, r0_17_15, r0_17_16, r0_17_17, r0_17_0, rc_17, fI_17, fR_17, pI_17, pR_17, aI_18, sI_18, aI_19, sI_19, aI_20, sI_20, aI_21, sI_21, aI_22, sI_22, aI_23, sI_23, aI_24, sI_24, aI_25, sI_25, aI_26, sI_26, aI_27, sI_27, ↓rcb_P hc, ↓fIb_P hc, ↓pIb_P hc, ↓fRb_P1 hc, ↓aIb_P1 hc, ↓sIb_P1 hc, ↓fRb_P2 hc, ↓aIb_P2 hc, ↓sIb_P2 hc, ↓fRb_P3 hc, ↓aIb_P3 hc, ↓sIb_P3 hc, ↓fRb_P4 hc, ↓aIb_P4 hc, ↓sIb_P4 hc, ↓fRb_P5 hc, ↓aIb_P5 hc, ↓sIb_P5 hc, ↓fRb_P6 hc, ↓aIb_P6 hc, ↓sIb_P6 hc, ↓fRb_P7 hc, ↓aIb_P7 hc, ↓sIb_P7 hc, rc_P hc, fI_P hc, fR_P hc, pI_P hc, r0_P1 hc, aI_P1 hc, sI_P1 hc, r0_P2 hc, aI_P2 hc, sI_P2 hc, r0_P3 hc, aI_P3 hc, sI_P3 hc, r0_P4 hc, aI_P4 hc, sI_P4 hc, r0_P5 hc, aI_P5 hc, sI_P5 hc, r0_P6 hc, aI_P6 hc, sI_P6 hc, r0_P7 hc, aI_P7 hc, sI_P7 hc, ↓dn d1, w_bind, w_bd2, b01_eq0, b01_ok, b01_ok2, w_lt, w_le, w_eq, w_mlt, w_mle, w_ltm, w_lem, w_meq, w_eqm, w_mm, w_mmlt, w_mmle, nI_add, w_sub, pk_mul, w_div, w_rem, w_and, w_or, w_shr, w_shl1, w_a31, w_andn, oI, d2]
          rcases d9 with z | z
          · subst z
            simp [opnM, shM, oI, m0, e, d6, ← d4]
          · subst z
            simp [opnM, shM, oI, m0, e, d6, ← d4]
        · rw [if_neg d6] at d2
          simp (discharger := omega) only [li_0, li_1, li_2, li_3, li_4, li_5, li_6, li_7, li_8, li_9, li_10, li_11, li_12, li_13, li_14, li_15, li_16, li_17, li_18, li_19, li_20, li_21, li_22, li_23, li_24, li_25, li_26, li_27, li_28, li_29, li_30, li_31, li_32, li_33, li_34, li_35, li_36, li_37, li_38, li_39, li_40, li_41, li_42, li_43, li_44, li_45, li_46, li_47, li_48, li_49, li_50, li_51, li_52, li_53, li_54, li_55, li_56, li_57, li_58, li_59, li_60, li_61, li_62, li_63, li_64, li_65, li_66, li_67, li_68, li_69, li_70, li_71, li_72, li_73, li_74, li_75, li_76, li_77, li_78, li_79, li_80, li_81, li_82, li_83, li_84, li_85, li_86, li_87, li_88, li_89, li_90, li_91, li_92, li_93, li_94, li_95, li_96, li_97, li_98, li_99, li_100, li_101, li_102, li_103, li_104, li_105, li_106, li_107, li_108, li_109, li_110, li_111, li_112, li_113, li_114, li_115, li_116, li_117, li_118, li_119, li_120, li_121, li_122, li_123, li_124, li_125, li_126, li_127, li_128, li_144, li_150, li_200, li_255, li_384, li_512, li_999, li_1000, li_1024, li_1152, li_1920, li_3776, li_4096, li_9216, li_10000, li_100000, li_1073741824, li_m, ↓rcb_17, ↓fIb_17, ↓pIb_17, ↓fRb_17_5, ↓fRb_17_6, ↓fRb_17_7, ↓fRb_17_9, ↓fRb_17_10, ↓fRb_17_11, ↓fRb_17_12, ↓fRb_17_15, ↓fRb_17_16, ↓fRb_17_17, ↓fRb_17_0, ↓aIb_18, ↓sIb_18, ↓aIb_19, ↓sIb_19, ↓aIb_20, ↓sIb_20, ↓aIb_21, ↓sIb_21, ↓aIb_22, ↓sIb_22, ↓aIb_23, ↓sIb_23, ↓aIb_24, ↓sIb_24, ↓aIb_25, ↓sIb_25, ↓aIb_26, ↓sIb_26, ↓aIb_27, ↓sIb_27, r0_17_5, r0_17_6, r0_17_7, r0_17_9, r0_17_10, r0_17_11, r0_17_12, r0_17_15, r0_17_16, r0_17_17, r0_17_0, rc_17, fI_17, fR_17, pI_17, pR_17, aI_18, sI_18, aI_19, sI_19, aI_20, sI_20, aI_21, sI_21, aI_22, sI_22, aI_23, sI_23, aI_24, sI_24, aI_25, sI_25, aI_26, sI_26, aI_27, sI_27, ↓rcb_P hc, ↓fIb_P hc, ↓pIb_P hc, ↓fRb_P1 hc, ↓aIb_P1 hc, ↓sIb_P1 hc, ↓fRb_P2 hc, ↓aIb_P2 hc, ↓sIb_P2 hc, ↓fRb_P3 hc, ↓aIb_P3 hc, ↓sIb_P3 hc, ↓fRb_P4 hc, ↓aIb_P4 hc, ↓sIb_P4 hc, ↓fRb_P5 hc, ↓aIb_P5 hc, ↓sIb_P5 hc, ↓fRb_P6 hc, ↓aIb_P6 hc, ↓sIb_P6 hc, ↓fRb_P7 hc, ↓aIb_P7 hc, ↓sIb_P7 hc, rc_P hc, fI_P hc, fR_P hc, pI_P hc, r0_P1 hc, aI_P1 hc, sI_P1 hc, r0_P2 hc, aI_P2 hc, sI_P2 hc, r0_P3 hc, aI_P3 hc, sI_P3 hc, r0_P4 hc, aI_P4 hc, sI_P4 hc, r0_P5 hc, aI_P5 hc, sI_P5 hc, r0_P6 hc, aI_P6 hc, sI_P6 hc, r0_P7 hc, aI_P7 hc, sI_P7 hc, ↓dn d1, w_bind, w_bd2, b01_eq0, b01_ok, b01_ok2, w_lt, w_le, w_eq, w_mlt, w_mle, w_ltm, w_lem, w_meq, w_eqm, w_mm, w_mmlt, w_mmle, nI_add, w_sub, pk_mul, w_div, w_rem, w_and, w_or, w_shr, w_shl1, w_a31, w_andn, oI, d2]
          simp [opnM, shM, oI, m0, e, d6]
  unfold fX6_after
  unfold cC at b1 ⊢
  simp only at b1 ⊢
  simp (discharger := omega) only [li_0, li_1, li_2, li_3, li_4, li_5, li_6, li_7, li_8, li_9, li_10, li_11, li_12, li_13, li_14, li_15, li_16, li_17, li_18, li_19, li_20, li_21, li_22, li_23, li_24, li_25, li_26, li_27, li_28, li_29, li_30, li_31, li_32, li_33, li_34, li_35, li_36, li_37, li_38, li_39, li_40, li_41, li_42, li_43, li_44, li_45, li_46, li_47, li_48, li_49, li_50, li_51, li_52, li_53, li_54, li_55, li_56, li_57, li_58, li_59, li_60, li_61, li_62, li_63, li_64, li_65, li_66, li_67, li_68, li_69, li_70, li_71, li_72, li_73, li_74, li_75, li_76, li_77, li_78, li_79, li_80, li_81, li_82, li_83, li_84, li_85, li_86, li_87, li_88, li_89, li_90, li_91, li_92, li_93, li_94, li_95, li_96, li_97, li_98, li_99, li_100, li_101, li_102, li_103, li_104, li_105, li_106, li_107, li_108, li_109, li_110, li_111, li_112, li_113, li_114, li_115, li_116, li_117, li_118, li_119, li_120, li_121, li_122, li_123, li_124, li_125, li_126, li_127, li_128, li_144, li_150, li_200, li_255, li_384, li_512, li_999, li_1000, li_1024, li_1152, li_1920, li_3776, li_4096, li_9216, li_10000, li_100000, li_1073741824, li_m, ↓rcb_17, ↓fIb_17, ↓pIb_17, ↓fRb_17_5, ↓fRb_17_6, ↓fRb_17_7, ↓fRb_17_9, ↓fRb_17_10, ↓fRb_17_11, ↓fRb_17_12, ↓fRb_17_15, ↓fRb_17_16, ↓fRb_17_17, ↓fRb_17_0, ↓aIb_18, ↓sIb_18, ↓aIb_19, ↓sIb_19, ↓aIb_20, ↓sIb_20, ↓aIb_21, ↓sIb_21, ↓aIb_22, ↓sIb_22, ↓aIb_23, ↓sIb_23, ↓aIb_24, ↓sIb_24, ↓aIb_25, ↓sIb_25, ↓aIb_26, ↓sIb_26, ↓aIb_27, ↓sIb_27, r0_17_5, r0_17_6, r0_17_7, r0_17_9, r0_17_10, r0_17_11, r0_17_12, r0_17_15, r0_17_16, r0_17_17, r0_17_0, rc_17, fI_17, fR_17, pI_17, pR_17, aI_18, sI_18, aI_19, sI_19, aI_20, sI_20, aI_21, sI_21, aI_22, sI_22, aI_23, sI_23, aI_24, sI_24, aI_25, sI_25, aI_26, sI_26, aI_27, sI_27, ↓rcb_P hc, ↓fIb_P hc, ↓pIb_P hc, ↓fRb_P1 hc, ↓aIb_P1 hc, ↓sIb_P1 hc, ↓fRb_P2 hc, ↓aIb_P2 hc, ↓sIb_P2 hc, ↓fRb_P3 hc, ↓aIb_P3 hc, ↓sIb_P3 hc, ↓fRb_P4 hc, ↓aIb_P4 hc, ↓sIb_P4 hc, ↓fRb_P5 hc, ↓aIb_P5 hc, ↓sIb_P5 hc, ↓fRb_P6 hc, ↓aIb_P6 hc, ↓sIb_P6 hc, ↓fRb_P7 hc, ↓aIb_P7 hc, ↓sIb_P7 hc, rc_P hc, fI_P hc, fR_P hc, pI_P hc, r0_P1 hc, aI_P1 hc, sI_P1 hc, r0_P2 hc, aI_P2 hc, sI_P2 hc, r0_P3 hc, aI_P3 hc, sI_P3 hc, r0_P4 hc, aI_P4 hc, sI_P4 hc, r0_P5 hc, aI_P5 hc, sI_P5 hc, r0_P6 hc, aI_P6 hc, sI_P6 hc, r0_P7 hc, aI_P7 hc, sI_P7 hc, ↓dn b1, w_bind, w_bd2, b01_eq0, b01_ok, b01_ok2, w_lt, w_le, w_eq, w_mlt, w_mle, w_ltm, w_lem, w_meq, w_eqm, w_mm, w_mmlt, w_mmle, nI_add, w_sub, pk_mul, w_div, w_rem, w_and, w_or, w_shr, w_shl1, w_a31, w_andn, w_a63, w_a7, k_1, k_2, k_3, b2, b3]
  obtain rfl | rfl : t = 0 ∨ t = 1 := by omega
  · simp only [if_true]
    cases e : pAft P h i m with
    | none =>
      unfold fX6_after_b56
      simp (discharger := omega) only [li_0, li_1, li_2, li_3, li_4, li_5, li_6, li_7, li_8, li_9, li_10, li_11, li_12, li_13, li_14, li_15, li_16, li_17, li_18, li_19, li_20, li_21, li_22, li_23, li_24, li_25, li_26, li_27, li_28, li_29, li_30, li_31, li_32, li_33, li_34, li_35, li_36, li_37, li_38, li_39, li_40, li_41, li_42, li_43, li_44, li_45, li_46, li_47, li_48, li_49, li_50, li_51, li_52, li_53, li_54, li_55, li_56, li_57, li_58, li_59, li_60, li_61, li_62, li_63, li_64, li_65, li_66, li_67, li_68, li_69, li_70, li_71, li_72, li_73, li_74, li_75, li_76, li_77, li_78, li_79, li_80, li_81, li_82, li_83, li_84, li_85, li_86, li_87, li_88, li_89, li_90, li_91, li_92, li_93, li_94, li_95, li_96, li_97, li_98, li_99, li_100, li_101, li_102, li_103, li_104, li_105, li_106, li_107, li_108, li_109, li_110, li_111, li_112, li_113, li_114, li_115, li_116, li_117, li_118, li_119, li_120, li_121, li_122, li_123, li_124, li_125, li_126, li_127, li_128, li_144, li_150, li_200, li_255, li_384, li_512, li_999, li_1000, li_1024, li_1152, li_1920, li_3776, li_4096, li_9216, li_10000, li_100000, li_1073741824, li_m, w_bind, w_bd2, b01_eq0, b01_ok, b01_ok2, w_lt, w_le, w_eq, w_mlt, w_mle, w_ltm, w_lem, w_meq, w_eqm, w_mm, w_mmlt, w_mmle, nI_add, w_sub, pk_mul, w_div, w_rem, w_and, w_or, w_shr, w_shl1, w_a31, w_andn, pI2]
      simp [bhd, e, oI]
    | some q =>
      have q1 : q.1 < Pp P ∧ q.2 < Pp P ∧ (m ≠ 0 → (m - 1) % 16 < Pn P) := by
        unfold pAft at e
        by_cases m0 : m = 0
        · rw [if_pos m0] at e
          cases e
          exact ⟨hh, hi, fun z => absurd m0 z⟩
        · rw [if_neg m0] at e
          by_cases g : Pn P ≤ (m - 1) % 16 ∨ (16 < m ∧ h = i)
          · rw [if_pos g] at e; cases e
          · rw [if_neg g] at e
            obtain ⟨to, e1, e2⟩ := Option.map_eq_some_iff.mp e
            have e3 := hunE_lt hW (by omega) e1
            have e4 := srt_lt (x := to) (y := if 16 < m then h else i) (p := Pp P) e3 (by split <;> assumption)
            split at e2
            · subst e2; exact ⟨e3, e3, fun _ => by omega⟩
            · subst e2; exact ⟨e4.1, e4.2.1, fun _ => by omega⟩
      have := key (q.1 * 8 + q.2) (fun th => cC (q.1, q.2, r, 1, th)) (by omega) q1.2.2 (by intro th _; unfold cC; simp only [if_true]; omega)
      unfold pI2
      simp only
      rw [this]
      unfold bhd
      simp only [e]
      by_cases z : opnM P m sh = true <;> simp [z, cC]
  · simp only [Nat.one_ne_zero, if_false]
    cases e : rAft P h i r m with
    | none =>
      unfold fX6_after_b56
      simp (discharger := omega) only [li_0, li_1, li_2, li_3, li_4, li_5, li_6, li_7, li_8, li_9, li_10, li_11, li_12, li_13, li_14, li_15, li_16, li_17, li_18, li_19, li_20, li_21, li_22, li_23, li_24, li_25, li_26, li_27, li_28, li_29, li_30, li_31, li_32, li_33, li_34, li_35, li_36, li_37, li_38, li_39, li_40, li_41, li_42, li_43, li_44, li_45, li_46, li_47, li_48, li_49, li_50, li_51, li_52, li_53, li_54, li_55, li_56, li_57, li_58, li_59, li_60, li_61, li_62, li_63, li_64, li_65, li_66, li_67, li_68, li_69, li_70, li_71, li_72, li_73, li_74, li_75, li_76, li_77, li_78, li_79, li_80, li_81, li_82, li_83, li_84, li_85, li_86, li_87, li_88, li_89, li_90, li_91, li_92, li_93, li_94, li_95, li_96, li_97, li_98, li_99, li_100, li_101, li_102, li_103, li_104, li_105, li_106, li_107, li_108, li_109, li_110, li_111, li_112, li_113, li_114, li_115, li_116, li_117, li_118, li_119, li_120, li_121, li_122, li_123, li_124, li_125, li_126, li_127, li_128, li_144, li_150, li_200, li_255, li_384, li_512, li_999, li_1000, li_1024, li_1152, li_1920, li_3776, li_4096, li_9216, li_10000, li_100000, li_1073741824, li_m, w_bind, w_bd2, b01_eq0, b01_ok, b01_ok2, w_lt, w_le, w_eq, w_mlt, w_mle, w_ltm, w_lem, w_meq, w_eqm, w_mm, w_mmlt, w_mmle, nI_add, w_sub, pk_mul, w_div, w_rem, w_and, w_or, w_shr, w_shl1, w_a31, w_andn, oI]
      simp [bhd, e, oI]
    | some y =>
      have q1 : y < Pp P ∧ (m ≠ 0 → (m - 1) % 16 < Pn P) := by
        unfold rAft at e
        by_cases m0 : m = 0
        · rw [if_pos m0] at e
          split at e
          · cases e; exact ⟨hr, fun z => absurd m0 z⟩
          · cases e
        · rw [if_neg m0] at e
          by_cases g : Pn P < m
          · rw [if_pos g] at e; cases e
          · rw [if_neg g] at e
            exact ⟨runE_lt hW (by omega) e, fun _ => by omega⟩
      have := key y (fun th => cC (h, i, y, 0, th)) (by omega) q1.2 (by intro th _; unfold cC; simp only [Nat.one_ne_zero, if_false]; omega)
      unfold oI
      simp only
      rw [this]
      unfold bhd
      simp only [e]
      by_cases z : opnM P m sh = true <;> simp [z, oI, cC]
end After
