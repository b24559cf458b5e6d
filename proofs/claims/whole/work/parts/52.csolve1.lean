/-! the class's solve: cleared rows, what is shut then and before -/
section CS1
variable {FU c : Nat} {P : Pln} {I : Nat → Nat → Int32} {pl nm hd rd : Option Nat}
/-- two rows anew -/
def M2 (k1 k2 : Nat) (I : Nat → Nat → Int32) (A B : Nat → Int32) : Nat → Nat → Int32 := va_up (va_up I k1 A) k2 B
theorem M2_1 {k1 k2 : Nat} {A B : Nat → Int32} (h : k1 ≠ k2) : M2 k1 k2 I A B k1 = A := by
  unfold M2 va_up
  rw [if_neg h, if_pos rfl]
theorem M2_2 {k1 k2 : Nat} {A B : Nat → Int32} : M2 k1 k2 I A B k2 = B := by
  unfold M2 va_up
  rw [if_pos rfl]
theorem M2_o {k1 k2 k : Nat} {A B : Nat → Int32} (h1 : k ≠ k1) (h2 : k ≠ k2) : M2 k1 k2 I A B k = I k := by
  unfold M2 va_up
  rw [if_neg h2, if_neg h1]
theorem M2_same {k1 k2 : Nat} : M2 k1 k2 I (I k1) (I k2) = I := by
  funext k
  unfold M2 va_up
  split
  · rename_i e; rw [e]
  · split
    · rename_i e; rw [e]
    · rfl
theorem M2_a {k1 k2 : Nat} {A B : Nat → Int32} {i : Nat} {x : Int32} (h : k1 ≠ k2) : up2 (M2 k1 k2 I A B) k1 i x = M2 k1 k2 I (va_up A i x) B := by
  funext k
  by_cases e : k = k1
  · subst e
    rw [up2_eq, M2_1 h, M2_1 h]
  · rw [up2_ne e]
    by_cases e2 : k = k2
    · subst e2; rw [M2_2, M2_2]
    · rw [M2_o e e2, M2_o e e2]
theorem M2_b {k1 k2 : Nat} {A B : Nat → Int32} {i : Nat} {x : Int32} (h : k1 ≠ k2) : up2 (M2 k1 k2 I A B) k2 i x = M2 k1 k2 I A (va_up B i x) := by
  funext k
  by_cases e : k = k2
  · subst e
    rw [up2_eq, M2_2, M2_2]
  · rw [up2_ne e]
    by_cases e2 : k = k1
    · subst e2; rw [M2_1 h, M2_1 h]
    · rw [M2_o e2 e, M2_o e2 e]
theorem va_same {f : Nat → Nat → Int32} {k : Nat} : va_up f k (f k) = f := by
  funext j
  unfold va_up
  split
  · rename_i e; rw [e]
  · rfl
theorem va_1 {α : Type} {f : Nat → α} {k : Nat} {x : α} : va_up f k x k = x := if_pos rfl
theorem va_o {α : Type} {f : Nat → α} {k j : Nat} {x : α} (h : j ≠ k) : va_up f k x j = f j := if_neg h
theorem up2_va {f : Nat → Nat → Int32} {k i : Nat} {A : Nat → Int32} {x : Int32} : up2 (va_up f k A) k i x = va_up f k (va_up A i x) := by
  funext j
  by_cases e : j = k
  · subst e; rw [up2_eq, va_1, va_1]
  · rw [up2_ne e, va_o e, va_o e]
theorem c_clearRows (hF : 99999999 ≤ FU) (hc : c = 1 ∨ c = 9) (hP : PlC c P I) (hW : WfP P) : ∃ J, fX6_clearRows FU 17 (I, R0 (some c) nm hd rd) = some (J, R0 (some c) nm hd rd) ∧ (∀ k, k ≠ 17 → k ≠ 18 → k ≠ 19 → k ≠ 21 → J k = I k) ∧ (∀ i, i ≠ 8 → i ≠ 13 → i ≠ 14 → J 17 i = I 17 i) ∧ J 17 8 = nI 0 ∧ J 17 13 = nI 0 ∧ J 17 14 = nI (shS P) ∧ (∀ k, k < shS P * 1024 → J 18 k = mI 1) ∧ (∀ k, k < shS P * 1024 → J 19 k = nI 0) ∧ (∀ p, p < 1024 → J 21 p = mI 1) := by
  have d1 := c_shutStates (FU := FU) (pl := some c) (nm := nm) (hd := hd) (rd := rd) hc hP hW
  have d2 := shS_le P
  unfold fX6_clearRows
  simp (discharger := omega) only [li_0, li_1, li_2, li_3, li_4, li_5, li_6, li_7, li_8, li_9, li_10, li_11, li_12, li_13, li_14, li_15, li_16, li_17, li_18, li_19, li_20, li_21, li_22, li_23, li_24, li_25, li_26, li_27, li_28, li_29, li_30, li_31, li_32, li_33, li_34, li_35, li_36, li_37, li_38, li_39, li_40, li_41, li_42, li_43, li_44, li_45, li_46, li_47, li_48, li_49, li_50, li_51, li_52, li_53, li_54, li_55, li_56, li_57, li_58, li_59, li_60, li_61, li_62, li_63, li_64, li_65, li_66, li_67, li_68, li_69, li_70, li_71, li_72, li_73, li_74, li_75, li_76, li_77, li_78, li_79, li_80, li_81, li_82, li_83, li_84, li_85, li_86, li_87, li_88, li_89, li_90, li_91, li_92, li_93, li_94, li_95, li_96, li_97, li_98, li_99, li_100, li_101, li_102, li_103, li_104, li_105, li_106, li_107, li_108, li_109, li_110, li_111, li_112, li_113, li_114, li_115, li_116, li_117, li_118, li_119, li_120, li_121, li_122, li_123, li_124, li_125, li_126, li_127, li_128, li_144, li_150, li_200, li_255, li_384, li_512, li_999, li_1000, li_1024, li_1152, li_1920, li_3776, li_4096, li_9216, li_10000, li_100000, li_1073741824, li_m, ↓rcb_17, ↓fIb_17, ↓pIb_17, ↓fRb_17_5, ↓fRb_17_6, ↓fRb_17_7, ↓fRb_17_9, ↓fRb_17_10, ↓fRb_17_11, ↓fRb_17_12, ↓fRb_17_15, ↓fRb_17_16, ↓fRb_17_17, ↓fRb_17_0, ↓aIb_18, ↓sIb_18, ↓aIb_19, ↓sIb_19, ↓aIb_20, ↓sIb_20, ↓aIb_21, ↓sIb_21, ↓aIb_22, ↓sIb_22, ↓aIb_23, ↓sIb_23, ↓aIb_24, ↓sIb_24, ↓aIb_25, ↓sIb_25, ↓aIb_26, ↓sIb_26, ↓aIb_27, ↓sIb_27, r0_17_5, r0_17_6, r0_17_7, r0_17_9, r0_17_10, r0_17_11, r0_17_12, r0_17_15, r0_17_16, r0_17_17, r0_17_0, rc_17, fI_17, fR_17, pI_17, pR_17, aI_18, sI_18, aI_19, sI_19, aI_20, sI_20, aI_21, sI_21, aI_22, sI_22, aI_23, sI_23, aI_24, sI_24, aI_25, sI_25, aI_26, sI_26, aI_27, sI_27, ↓rcb_P hc, ↓fIb_P hc, ↓pIb_P hc, ↓fRb_P1 hc, ↓aIb_P1 hc, ↓sIb_P1 hc, ↓fRb_P2 hc, ↓aIb_P2 hc, ↓sIb_P2 hc, ↓fRb_P3 hc, ↓aIb_P3 hc, ↓sIb_P3 hc, ↓fRb_P4 hc, ↓aIb_P4 hc, ↓sIb_P4 hc, ↓fRb_P5 hc, ↓aIb_P5 hc, ↓sIb_P5 hc, ↓fRb_P6 hc, ↓aIb_P6 hc, ↓sIb_P6 hc, ↓fRb_P7 hc, ↓aIb_P7 hc, ↓sIb_P7 hc, rc_P hc, fI_P hc, fR_P hc, pI_P hc, r0_P1 hc, aI_P1 hc, sI_P1 hc, r0_P2 hc, aI_P2 hc, sI_P2 hc, r0_P3 hc, aI_P3 hc, sI_P3 hc, r0_P4 hc, aI_P4 hc, sI_P4 hc, r0_P5 hc, aI_P5 hc, sI_P5 hc, r0_P6 hc, aI_P6 hc, sI_P6 hc, r0_P7 hc, aI_P7 hc, sI_P7 hc, ↓dn d1, w_bind, w_bd2, b01_eq0, b01_ok, b01_ok2]
  generalize hI : up2 (up2 (up2 I 17 14 (nI (shS P))) 17 8 (nI 0)) 17 13 (nI 0) = I1
  have a1 : ∀ k, k ≠ 17 → I1 k = I k := by
    intro k hk
    rw [← hI, up2_ne hk, up2_ne hk, up2_ne hk]
  have a2 : I1 17 14 = nI (shS P) := by rw [← hI, up2_i (by decide), up2_i (by decide), up2_s]
  have a3 : I1 17 8 = nI 0 := by rw [← hI, up2_i (by decide), up2_s]
  have a4 : I1 17 13 = nI 0 := by rw [← hI, up2_s]
  have a5 : ∀ i, i ≠ 8 → i ≠ 13 → i ≠ 14 → I1 17 i = I 17 i := by
    intro i h1 h2 h3
    rw [← hI, up2_i h2, up2_i h1, up2_i h3]
  have s1 : ∀ i, i < shS P * 1024 → ∀ F, fX6_clearRows_L23 FU 17 (F + 1) (nI i) (M2 18 19 I1 (pre (fun _ => mI 1) (I1 18) i) (pre (fun _ => nI 0) (I1 19) i), R0 (some c) nm hd rd) = fX6_clearRows_L23 FU 17 F (nI (i + 1)) (M2 18 19 I1 (pre (fun _ => mI 1) (I1 18) (i + 1)) (pre (fun _ => nI 0) (I1 19) (i + 1)), R0 (some c) nm hd rd) := by
    intro i hi F
    have e1 := pre_s (fun _ => mI 1) (I1 18) i rfl
    have e2 := pre_s (fun _ => nI 0) (I1 19) i rfl
    rw [fX6_clearRows_L23, ← e1, ← e2]
    have e3 : ∀ A B, M2 18 19 I1 A B 17 14 = nI (shS P) := by intro A B; rw [M2_o (by decide) (by decide), a2]
    simp (discharger := omega) only [li_0, li_1, li_2, li_3, li_4, li_5, li_6, li_7, li_8, li_9, li_10, li_11, li_12, li_13, li_14, li_15, li_16, li_17, li_18, li_19, li_20, li_21, li_22, li_23, li_24, li_25, li_26, li_27, li_28, li_29, li_30, li_31, li_32, li_33, li_34, li_35, li_36, li_37, li_38, li_39, li_40, li_41, li_42, li_43, li_44, li_45, li_46, li_47, li_48, li_49, li_50, li_51, li_52, li_53, li_54, li_55, li_56, li_57, li_58, li_59, li_60, li_61, li_62, li_63, li_64, li_65, li_66, li_67, li_68, li_69, li_70, li_71, li_72, li_73, li_74, li_75, li_76, li_77, li_78, li_79, li_80, li_81, li_82, li_83, li_84, li_85, li_86, li_87, li_88, li_89, li_90, li_91, li_92, li_93, li_94, li_95, li_96, li_97, li_98, li_99, li_100, li_101, li_102, li_103, li_104, li_105, li_106, li_107, li_108, li_109, li_110, li_111, li_112, li_113, li_114, li_115, li_116, li_117, li_118, li_119, li_120, li_121, li_122, li_123, li_124, li_125, li_126, li_127, li_128, li_144, li_150, li_200, li_255, li_384, li_512, li_999, li_1000, li_1024, li_1152, li_1920, li_3776, li_4096, li_9216, li_10000, li_100000, li_1073741824, li_m, ↓rcb_17, ↓fIb_17, ↓pIb_17, ↓fRb_17_5, ↓fRb_17_6, ↓fRb_17_7, ↓fRb_17_9, ↓fRb_17_10, ↓fRb_17_11, ↓fRb_17_12, ↓fRb_17_15, ↓fRb_17_16, ↓fRb_17_17, ↓fRb_17_0, ↓aIb_18, ↓sIb_18, ↓aIb_19, ↓sIb_19, ↓aIb_20, ↓sIb_20, ↓aIb_21, ↓sIb_21, ↓aIb_22, ↓sIb_22, ↓aIb_23, ↓sIb_23, ↓aIb_24, ↓sIb_24, ↓aIb_25, ↓sIb_25, ↓aIb_26, ↓sIb_26, ↓aIb_27, ↓sIb_27, r0_17_5, r0_17_6, r0_17_7, r0_17_9, r0_17_10, r0_17_11, r0_17_12, r0_17_15, r0_17_16, r0_17_17, r0_17_0, rc_17, fI_17, fR_17, pI_17, pR_17, aI_18, sI_18, aI_19, sI_19, aI_20, sI_20, aI_21, sI_21, aI_22, sI_22, aI_23, sI_23, aI_24, sI_24, aI_25, sI_25, aI_26, sI_26, aI_27, sI_27, w_bind, w_bd2, b01_eq0, b01_ok, b01_ok2, w_lt, w_le, w_eq, w_mlt, w_mle, w_ltm, w_lem, w_meq, w_eqm, w_mm, w_mmlt, w_mmle, nI_add, w_sub, pk_mul, w_div, w_rem, w_and, w_or, w_shr, w_shl1, w_a31, w_andn, e3, Nat.not_le.mpr hi, if_false, M2_a (show (18 : Nat) ≠ 19 by decide), M2_b (show (18 : Nat) ≠ 19 by decide)]
  have l1 := lpU (fun F (q : Int32 × Mem) => fX6_clearRows_L23 FU 17 F q.1 q.2) (fun i => (nI i, (M2 18 19 I1 (pre (fun _ => mI 1) (I1 18) i) (pre (fun _ => nI 0) (I1 19) i), R0 (some c) nm hd rd))) (shS P * 1024) s1 (shS P * 1024) 0 FU (by omega) (by omega)
  simp only [pre_0, M2_same] at l1
  obtain ⟨G, hG⟩ : ∃ G, FU - shS P * 1024 = G + 1 := ⟨FU - shS P * 1024 - 1, by omega⟩
  have e3 : ∀ A B, M2 18 19 I1 A B 17 14 = nI (shS P) := by intro A B; rw [M2_o (by decide) (by decide), a2]
  rw [l1, hG, fX6_clearRows_L23]
  simp (discharger := omega) only [li_0, li_1, li_2, li_3, li_4, li_5, li_6, li_7, li_8, li_9, li_10, li_11, li_12, li_13, li_14, li_15, li_16, li_17, li_18, li_19, li_20, li_21, li_22, li_23, li_24, li_25, li_26, li_27, li_28, li_29, li_30, li_31, li_32, li_33, li_34, li_35, li_36, li_37, li_38, li_39, li_40, li_41, li_42, li_43, li_44, li_45, li_46, li_47, li_48, li_49, li_50, li_51, li_52, li_53, li_54, li_55, li_56, li_57, li_58, li_59, li_60, li_61, li_62, li_63, li_64, li_65, li_66, li_67, li_68, li_69, li_70, li_71, li_72, li_73, li_74, li_75, li_76, li_77, li_78, li_79, li_80, li_81, li_82, li_83, li_84, li_85, li_86, li_87, li_88, li_89, li_90, li_91, li_92, li_93, li_94, li_95, li_96, li_97, li_98, li_99, li_100, li_101, li_102, li_103, li_104, li_105, li_106, li_107, li_108, li_109, li_110, li_111, li_112, li_113, li_114, li_115, li_116, li_117, li_118, li_119, li_120, li_121, li_122, li_123, li_124, li_125, li_126, li_127, li_128, li_144, li_150, li_200, li_255, li_384, li_512, li_999, li_1000, li_1024, li_1152, li_1920, li_3776, li_4096, li_9216, li_10000, li_100000, li_1073741824, li_m, ↓rcb_17, ↓fIb_17, ↓pIb_17, ↓fRb_17_5, ↓fRb_17_6, ↓fRb_17_7, ↓fRb_17_9, ↓fRb_17_10, ↓fRb_17_11, ↓fRb_17_12, ↓fRb_17_15, ↓fRb_17_16, ↓fRb_17_17, ↓fRb_17_0, ↓aIb_18, ↓sIb_18, ↓aIb_19, ↓sIb_19, ↓aIb_20, ↓sIb_20, ↓aIb_21, ↓sIb_21, ↓aIb_22, ↓sIb_22, ↓aIb_23, ↓sIb_23, ↓aIb_24, ↓sIb_24, ↓aIb_25, ↓sIb_25, ↓aIb_26, ↓sIb_26, ↓aIb_27, ↓sIb_27, r0_17_5, r0_17_6, r0_17_7, r0_17_9, r0_17_10, r0_17_11, r0_17_12, r0_17_15, r0_17_16, r0_17_17, r0_17_0, rc_17, fI_17, fR_17, pI_17, pR_17, aI_18, sI_18, aI_19, sI_19, aI_20, sI_20, aI_21, sI_21, aI_22, sI_22, aI_23, sI_23, aI_24, sI_24, aI_25, sI_25, aI_26, sI_26, aI_27, sI_27, w_bind, w_bd2, b01_eq0, b01_ok, b01_ok2, w_lt, w_le, w_eq, w_mlt, w_mle, w_ltm, w_lem, w_meq, w_eqm, w_mm, w_mmlt, w_mmle, nI_add, w_sub, pk_mul, w_div, w_rem, w_and, w_or, w_shr, w_shl1, w_a31, w_andn, e3, Nat.le_refl, if_true]
  generalize hI2 : M2 18 19 I1 (pre (fun _ => mI 1) (I1 18) (shS P * 1024)) (pre (fun _ => nI 0) (I1 19) (shS P * 1024)) = I2
  have b1 : ∀ k, k ≠ 18 → k ≠ 19 → I2 k = I1 k := fun k h1 h2 => by rw [← hI2, M2_o h1 h2]
  have b2 : ∀ k, k < shS P * 1024 → I2 18 k = mI 1 := fun k hk => by rw [← hI2, M2_1 (by decide)]; unfold pre; rw [if_pos hk]
  have b3 : ∀ k, k < shS P * 1024 → I2 19 k = nI 0 := fun k hk => by rw [← hI2, M2_2]; unfold pre; rw [if_pos hk]
  have s2 : ∀ i, i < 1024 → ∀ F, fX6_clearRows_L57 FU 17 (F + 1) (nI i) (va_up I2 21 (pre (fun _ => mI 1) (I2 21) i), R0 (some c) nm hd rd) = fX6_clearRows_L57 FU 17 F (nI (i + 1)) (va_up I2 21 (pre (fun _ => mI 1) (I2 21) (i + 1)), R0 (some c) nm hd rd) := by
    intro i hi F
    rw [fX6_clearRows_L57, ← pre_s (fun _ => mI 1) (I2 21) i rfl]
    simp (discharger := omega) only [li_0, li_1, li_2, li_3, li_4, li_5, li_6, li_7, li_8, li_9, li_10, li_11, li_12, li_13, li_14, li_15, li_16, li_17, li_18, li_19, li_20, li_21, li_22, li_23, li_24, li_25, li_26, li_27, li_28, li_29, li_30, li_31, li_32, li_33, li_34, li_35, li_36, li_37, li_38, li_39, li_40, li_41, li_42, li_43, li_44, li_45, li_46, li_47, li_48, li_49, li_50, li_51, li_52, li_53, li_54, li_55, li_56, li_57, li_58, li_59, li_60, li_61, li_62, li_63, li_64, li_65, li_66, li_67, li_68, li_69, li_70, li_71, li_72, li_73, li_74, li_75, li_76, li_77, li_78, li_79, li_80, li_81, li_82, li_83, li_84, li_85, li_86, li_87, li_88, li_89, li_90, li_91, li_92, li_93, li_94, li_95, li_96, li_97, li_98, li_99, li_100, li_101, li_102, li_103, li_104, li_105, li_106, li_107, li_108, li_109, li_110, li_111, li_112, li_113, li_114, li_115, li_116, li_117, li_118, li_119, li_120, li_121, li_122, li_123, li_124, li_125, li_126, li_127, li_128, li_144, li_150, li_200, li_255, li_384, li_512, li_999, li_1000, li_1024, li_1152, li_1920, li_3776, li_4096, li_9216, li_10000, li_100000, li_1073741824, li_m, ↓rcb_17, ↓fIb_17, ↓pIb_17, ↓fRb_17_5, ↓fRb_17_6, ↓fRb_17_7, ↓fRb_17_9, ↓fRb_17_10, ↓fRb_17_11, ↓fRb_17_12, ↓fRb_17_15, ↓fRb_17_16, ↓fRb_17_17, ↓fRb_17_0, ↓aIb_18, ↓sIb_18, ↓aIb_19, ↓sIb_19, ↓aIb_20, ↓sIb_20, ↓aIb_21, ↓sIb_21, ↓aIb_22, ↓sIb_22, ↓aIb_23, ↓sIb_23, ↓aIb_24, ↓sIb_24, ↓aIb_25, ↓sIb_25, ↓aIb_26, ↓sIb_26, ↓aIb_27, ↓sIb_27, r0_17_5, r0_17_6, r0_17_7, r0_17_9, r0_17_10, r0_17_11, r0_17_12, r0_17_15, r0_17_16, r0_17_17, r0_17_0, rc_17, fI_17, fR_17, pI_17, pR_17, aI_18, sI_18, aI_19, sI_19, aI_20, sI_20, aI_21, sI_21, aI_22, sI_22, aI_23, sI_23, aI_24, sI_24, aI_25, sI_25, aI_26, sI_26, aI_27, sI_27, w_bind, w_bd2, b01_eq0, b01_ok, b01_ok2, w_lt, w_le, w_eq, w_mlt, w_mle, w_ltm, w_lem, w_meq, w_eqm, w_mm, w_mmlt, w_mmle, nI_add, w_sub, pk_mul, w_div, w_rem, w_and, w_or, w_shr, w_shl1, w_a31, w_andn, show ¬ 1024 ≤ i by omega, if_false, up2_va]
  have l2 := lpU (fun F (q : Int32 × Mem) => fX6_clearRows_L57 FU 17 F q.1 q.2) (fun i => (nI i, (va_up I2 21 (pre (fun _ => mI 1) (I2 21) i), R0 (some c) nm hd rd))) 1024 s2 1024 0 FU (by omega) (by omega)
  simp only [pre_0, va_same] at l2
  obtain ⟨G, hG⟩ : ∃ G, FU - 1024 = G + 1 := ⟨FU - 1024 - 1, by omega⟩
  rw [l2, hG, fX6_clearRows_L57]
  simp (discharger := omega) only [li_0, li_1, li_2, li_3, li_4, li_5, li_6, li_7, li_8, li_9, li_10, li_11, li_12, li_13, li_14, li_15, li_16, li_17, li_18, li_19, li_20, li_21, li_22, li_23, li_24, li_25, li_26, li_27, li_28, li_29, li_30, li_31, li_32, li_33, li_34, li_35, li_36, li_37, li_38, li_39, li_40, li_41, li_42, li_43, li_44, li_45, li_46, li_47, li_48, li_49, li_50, li_51, li_52, li_53, li_54, li_55, li_56, li_57, li_58, li_59, li_60, li_61, li_62, li_63, li_64, li_65, li_66, li_67, li_68, li_69, li_70, li_71, li_72, li_73, li_74, li_75, li_76, li_77, li_78, li_79, li_80, li_81, li_82, li_83, li_84, li_85, li_86, li_87, li_88, li_89, li_90, li_91, li_92, li_93, li_94, li_95, li_96, li_97, li_98, li_99, li_100, li_101, li_102, li_103, li_104, li_105, li_106, li_107, li_108, li_109, li_110, li_111, li_112, li_113, li_114, li_115, li_116, li_117, li_118, li_119, li_120, li_121, li_122, li_123, li_124, li_125, li_126, li_127, li_128, li_144, li_150, li_200, li_255, li_384, li_512, li_999, li_1000, li_1024, li_1152, li_1920, li_3776, li_4096, li_9216, li_10000, li_100000, li_1073741824, li_m, w_lt, w_le, w_eq, w_mlt, w_mle, w_ltm, w_lem, w_meq, w_eqm, w_mm, w_mmlt, w_mmle, nI_add, w_sub, pk_mul, w_div, w_rem, w_and, w_or, w_shr, w_shl1, w_a31, w_andn, Nat.le_refl, if_true]
  refine ⟨_, rfl, ?_, ?_, ?_, ?_, ?_, ?_, ?_, ?_⟩
  · intro k h1 h2 h3 h4
    rw [va_o h4, b1 k h2 h3, a1 k h1]
  · intro i h1 h2 h3
    rw [va_o (by decide), b1 17 (by decide) (by decide), a5 i h1 h2 h3]
  · rw [va_o (by decide), b1 17 (by decide) (by decide), a3]
  · rw [va_o (by decide), b1 17 (by decide) (by decide), a4]
  · rw [va_o (by decide), b1 17 (by decide) (by decide), a2]
  · intro k hk
    rw [va_o (by decide), b2 k hk]
  · intro k hk
    rw [va_o (by decide), b3 k hk]
  · intro p hp
    rw [va_1]
    unfold pre
    rw [if_pos hp]
/-- for how long shutter k is shut -/
def sFn (P : Pln) (k : Nat) : Nat → Nat
  | 0 => 0
  | n + 1 => if shO P n = some k then shF (Pk P n) else sFn P k n
theorem shO_inj {w v k : Nat} (h1 : shO P w = some k) (h2 : shO P v = some k) : w = v := by
  have key : ∀ w v, w < v → shO P w = some k → shO P v = some k → False := by
    intro w v h a b
    unfold shO at a b
    split at a
    · rename_i q
      split at b
      · have := shN_lt h q
        have a := Option.some.inj a
        have b := Option.some.inj b
        omega
      · cases b
    · cases a
  rcases Nat.lt_trichotomy w v with h | h | h
  · exact (key w v h h1 h2).elim
  · exact h
  · exact (key v w h h2 h1).elim
theorem sFn_of {w k n : Nat} (hw : w < n) (h : shO P w = some k) : sFn P k n = shF (Pk P w) := by
  induction n with
  | zero => omega
  | succ n ih =>
    unfold sFn
    by_cases e : shO P n = some k
    · rw [if_pos e, shO_inj e h]
    · rw [if_neg e]
      apply ih
      have : w ≠ n := fun z => e (z ▸ h)
      omega
theorem shO_ex {k n : Nat} (h : k < shN P n) : ∃ w, w < n ∧ shO P w = some k := by
  induction n with
  | zero => exact absurd h (Nat.not_lt_zero _)
  | succ n ih =>
    have e : shN P (n + 1) = shN P n + if isSh (Pk P n) = true then 1 else 0 := rfl
    by_cases z : k < shN P n
    · obtain ⟨w, h1, h2⟩ := ih z
      exact ⟨w, by omega, h2⟩
    · by_cases q : isSh (Pk P n) = true
      · rw [if_pos q] at e
        refine ⟨n, by omega, ?_⟩
        unfold shO
        rw [if_pos q]
        congr 1
        omega
      · rw [if_neg q] at e
        omega
/-- what is shut behind a turn in which shutter q - 1 was passed (q = 0: none); none: it may not be -/
def tT (P : Pln) (q b : Nat) : Option Nat := if q = 0 then some (shB b none 0) else if (if q = 1 then b % 3 else b / 3) = 0 then some (shB b (some (q - 1)) (sFn P (q - 1) (Pn P))) else none
def pq (q : Nat) : Int32 := if q = 0 then mI 1 else nI (q - 1)
theorem pq_s (q : Nat) : pq q + nI 1 = nI q := by
  unfold pq
  by_cases h : q = 0
  · rw [if_pos h, h]; decide
  · rw [if_neg h, nI_add]; congr 1; omega
theorem pq_s' (q : Nat) : nI q = pq (q + 1) := by
  unfold pq
  rw [if_neg (by omega)]
  rfl
theorem sFn_le (k n : Nat) : sFn P k n ≤ 2 := by
  induction n with
  | zero => exact Nat.zero_le _
  | succ n ih =>
    unfold sFn
    split
    · exact shF_le _
    · exact ih
theorem tT_lt {q b v : Nat} (hb : b < 9) (h : tT P q b = some v) : v < 9 := by
  unfold tT at h
  by_cases h1 : q = 0
  · rw [if_pos h1] at h
    rw [← Option.some.inj h]
    exact shB_lt hb (by omega)
  · rw [if_neg h1] at h
    by_cases h2 : (if q = 1 then b % 3 else b / 3) = 0
    · rw [if_pos h2] at h
      rw [← Option.some.inj h]
      exact shB_lt hb (sFn_le _ _)
    · rw [if_neg h2] at h
      cases h
theorem c_one (hc : c = 1 ∨ c = 9) (hP : PlC c P I) (hW : WfP P) {q k b : Nat} (hk : k < 2) (hq : q ≤ shN P (Pn P)) (hb : b < 3) : fX6_oneShutThen FU 17 (nI k) (pq q) (nI b) (I, R0 (some c) nm hd rd) = some (oI (if k + 1 = q then (if b = 0 then some (sFn P k (Pn P)) else none) else some (b - 1)), (I, R0 (some c) nm hd rd)) := by
  have h2 := wf_sh hW
  have e1 : (nI k = pq q) = (k + 1 = q) := by
    unfold pq
    by_cases z : q = 0
    · rw [if_pos z, w_eqm (by omega) (by omega)]
      apply propext
      omega
    · rw [if_neg z, w_eq (by omega) (by omega)]
      apply propext
      omega
  have e2 : (if (0 : Int32) < nI b - 1 then nI b - 1 else (0 : Int32)) = nI (b - 1) := by
    obtain rfl | rfl | rfl : b = 0 ∨ b = 1 ∨ b = 2 := by omega
    all_goals decide
  unfold fX6_oneShutThen
  rw [e2]
  by_cases z : k + 1 = q
  · have e3 : I (c + 5) k = nI (sFn P k (Pn P)) := by
      obtain ⟨w, h3, h4⟩ := shO_ex (P := P) (k := k) (n := Pn P) (by omega)
      rw [hP.2.2.2.2.2.2.2.2.2.1 w k h3 h4, sFn_of h3 h4]
    simp (discharger := omega) only [li_0, li_1, li_2, li_3, li_4, li_5, li_6, li_7, li_8, li_9, li_10, li_11, li_12, li_13, li_14, li_15, li_16, li_17, li_18, li_19, li_20, li_21, li_22, li_23, li_24, li_25, li_26, li_27, li_28, li_29, li_30, li_31, li_32, li_33, li_34, li_35, li_36, li_37, li_38, li_39, li_40, li_41, li_42, li_43, li_44, li_45, li_46, li_47, li_48, li_49, li_50, li_51, li_52, li_53, li_54, li_55, li_56, li_57, li_58, li_59, li_60, li_61, li_62, li_63, li_64, li_65, li_66, li_67, li_68, li_69, li_70, li_71, li_72, li_73, li_74, li_75, li_76, li_77, li_78, li_79, li_80, li_81, li_82, li_83, li_84, li_85, li_86, li_87, li_88, li_89, li_90, li_91, li_92, li_93, li_94, li_95, li_96, li_97, li_98, li_99, li_100, li_101, li_102, li_103, li_104, li_105, li_106, li_107, li_108, li_109, li_110, li_111, li_112, li_113, li_114, li_115, li_116, li_117, li_118, li_119, li_120, li_121, li_122, li_123, li_124, li_125, li_126, li_127, li_128, li_144, li_150, li_200, li_255, li_384, li_512, li_999, li_1000, li_1024, li_1152, li_1920, li_3776, li_4096, li_9216, li_10000, li_100000, li_1073741824, li_m, ↓rcb_17, ↓fIb_17, ↓pIb_17, ↓fRb_17_5, ↓fRb_17_6, ↓fRb_17_7, ↓fRb_17_9, ↓fRb_17_10, ↓fRb_17_11, ↓fRb_17_12, ↓fRb_17_15, ↓fRb_17_16, ↓fRb_17_17, ↓fRb_17_0, ↓aIb_18, ↓sIb_18, ↓aIb_19, ↓sIb_19, ↓aIb_20, ↓sIb_20, ↓aIb_21, ↓sIb_21, ↓aIb_22, ↓sIb_22, ↓aIb_23, ↓sIb_23, ↓aIb_24, ↓sIb_24, ↓aIb_25, ↓sIb_25, ↓aIb_26, ↓sIb_26, ↓aIb_27, ↓sIb_27, r0_17_5, r0_17_6, r0_17_7, r0_17_9, r0_17_10, r0_17_11, r0_17_12, r0_17_15, r0_17_16, r0_17_17, r0_17_0, rc_17, fI_17, fR_17, pI_17, pR_17, aI_18, sI_18, aI_19, sI_19, aI_20, sI_20, aI_21, sI_21, aI_22, sI_22, aI_23, sI_23, aI_24, sI_24, aI_25, sI_25, aI_26, sI_26, aI_27, sI_27, ↓rcb_P hc, ↓fIb_P hc, ↓pIb_P hc, ↓fRb_P1 hc, ↓aIb_P1 hc, ↓sIb_P1 hc, ↓fRb_P2 hc, ↓aIb_P2 hc, ↓sIb_P2 hc, ↓fRb_P3 hc, ↓aIb_P3 hc, ↓sIb_P3 hc, ↓fRb_P4 hc, ↓aIb_P4 hc, ↓sIb_P4 hc, ↓fRb_P5 hc, ↓aIb_P5 hc, ↓sIb_P5 hc, ↓fRb_P6 hc, ↓aIb_P6 hc, ↓sIb_P6 hc, ↓fRb_P7 hc, ↓aIb_P7 hc, ↓sIb_P7 hc, rc_P hc, fI_P hc, fR_P hc, pI_P hc, r0_P1 hc, aI_P1 hc, sI_P1 hc, r0_P2 hc, aI_P2 hc, sI_P2 hc, r0_P3 hc, aI_P3 hc, sI_P3 hc, r0_P4 hc, aI_P4 hc, sI_P4 hc, r0_P5 hc, aI_P5 hc, sI_P5 hc, r0_P6 hc, aI_P6 hc, sI_P6 hc, r0_P7 hc, aI_P7 hc, sI_P7 hc, w_bind, w_bd2, b01_eq0, b01_ok, b01_ok2, w_lt, w_le, w_eq, w_mlt, w_mle, w_ltm, w_lem, w_meq, w_eqm, w_mm, w_mmlt, w_mmle, nI_add, w_sub, pk_mul, w_div, w_rem, w_and, w_or, w_shr, w_shl1, w_a31, w_andn, e1, z, e3]
    by_cases y : b = 0 <;> simp [y, oI]
  · simp (discharger := omega) only [li_0, li_1, li_2, li_3, li_4, li_5, li_6, li_7, li_8, li_9, li_10, li_11, li_12, li_13, li_14, li_15, li_16, li_17, li_18, li_19, li_20, li_21, li_22, li_23, li_24, li_25, li_26, li_27, li_28, li_29, li_30, li_31, li_32, li_33, li_34, li_35, li_36, li_37, li_38, li_39, li_40, li_41, li_42, li_43, li_44, li_45, li_46, li_47, li_48, li_49, li_50, li_51, li_52, li_53, li_54, li_55, li_56, li_57, li_58, li_59, li_60, li_61, li_62, li_63, li_64, li_65, li_66, li_67, li_68, li_69, li_70, li_71, li_72, li_73, li_74, li_75, li_76, li_77, li_78, li_79, li_80, li_81, li_82, li_83, li_84, li_85, li_86, li_87, li_88, li_89, li_90, li_91, li_92, li_93, li_94, li_95, li_96, li_97, li_98, li_99, li_100, li_101, li_102, li_103, li_104, li_105, li_106, li_107, li_108, li_109, li_110, li_111, li_112, li_113, li_114, li_115, li_116, li_117, li_118, li_119, li_120, li_121, li_122, li_123, li_124, li_125, li_126, li_127, li_128, li_144, li_150, li_200, li_255, li_384, li_512, li_999, li_1000, li_1024, li_1152, li_1920, li_3776, li_4096, li_9216, li_10000, li_100000, li_1073741824, li_m, ↓rcb_17, ↓fIb_17, ↓pIb_17, ↓fRb_17_5, ↓fRb_17_6, ↓fRb_17_7, ↓fRb_17_9, ↓fRb_17_10, ↓fRb_17_11, ↓fRb_17_12, ↓fRb_17_15, ↓fRb_17_16, ↓fRb_17_17, ↓fRb_17_0, ↓aIb_18, ↓sIb_18, ↓aIb_19, ↓sIb_19, ↓aIb_20, ↓sIb_20, ↓aIb_21, ↓sIb_21, ↓aIb_22, ↓sIb_22, ↓aIb_23, ↓sIb_23, ↓aIb_24, ↓sIb_24, ↓aIb_25, ↓sIb_25, ↓aIb_26, ↓sIb_26, ↓aIb_27, ↓sIb_27, r0_17_5, r0_17_6, r0_17_7, r0_17_9, r0_17_10, r0_17_11, r0_17_12, r0_17_15, r0_17_16, r0_17_17, r0_17_0, rc_17, fI_17, fR_17, pI_17, pR_17, aI_18, sI_18, aI_19, sI_19, aI_20, sI_20, aI_21, sI_21, aI_22, sI_22, aI_23, sI_23, aI_24, sI_24, aI_25, sI_25, aI_26, sI_26, aI_27, sI_27, ↓rcb_P hc, ↓fIb_P hc, ↓pIb_P hc, ↓fRb_P1 hc, ↓aIb_P1 hc, ↓sIb_P1 hc, ↓fRb_P2 hc, ↓aIb_P2 hc, ↓sIb_P2 hc, ↓fRb_P3 hc, ↓aIb_P3 hc, ↓sIb_P3 hc, ↓fRb_P4 hc, ↓aIb_P4 hc, ↓sIb_P4 hc, ↓fRb_P5 hc, ↓aIb_P5 hc, ↓sIb_P5 hc, ↓fRb_P6 hc, ↓aIb_P6 hc, ↓sIb_P6 hc, ↓fRb_P7 hc, ↓aIb_P7 hc, ↓sIb_P7 hc, rc_P hc, fI_P hc, fR_P hc, pI_P hc, r0_P1 hc, aI_P1 hc, sI_P1 hc, r0_P2 hc, aI_P2 hc, sI_P2 hc, r0_P3 hc, aI_P3 hc, sI_P3 hc, r0_P4 hc, aI_P4 hc, sI_P4 hc, r0_P5 hc, aI_P5 hc, sI_P5 hc, r0_P6 hc, aI_P6 hc, sI_P6 hc, r0_P7 hc, aI_P7 hc, sI_P7 hc, w_bind, w_bd2, b01_eq0, b01_ok, b01_ok2, w_lt, w_le, w_eq, w_mlt, w_mle, w_ltm, w_lem, w_meq, w_eqm, w_mm, w_mmlt, w_mmle, nI_add, w_sub, pk_mul, w_div, w_rem, w_and, w_or, w_shr, w_shl1, w_a31, w_andn, e1, z]
    simp [oI]
theorem tT_of {q b : Nat} (hq : q ≤ 2) (hb : b < 9) : tT P q b = (match (if 0 + 1 = q then (if b % 3 = 0 then some (sFn P 0 (Pn P)) else none) else some (b % 3 - 1)), (if 1 + 1 = q then (if b / 3 = 0 then some (sFn P 1 (Pn P)) else none) else some (b / 3 - 1)) with
    | some x, some y => some (3 * y + x)
    | _, _ => none) := by
  unfold tT shB
  obtain rfl | rfl | rfl : q = 0 ∨ q = 1 ∨ q = 2 := by omega
  · simp
  · by_cases z : b % 3 = 0
    · simp [z]
    · simp [z]
  · by_cases z : b / 3 = 0
    · have z2 : b < 3 := by omega
      simp [z2]
    · have z2 : ¬ b < 3 := by omega
      simp [z2]
end CS1
