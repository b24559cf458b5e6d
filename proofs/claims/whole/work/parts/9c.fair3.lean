/-! fairer: the reference -/
section Fair3
variable {FU ver : Nat} {P : Pln} {I J : Nat → Nat → Int32} {pl nm hd rd : Option Nat} {L : Sd → Option Nat}
theorem SRs.fr {J' : Nat → Nat → Int32} (h : SRs P J J') (hK : K60 P J) : K60 P J' ∧ (∀ k, k ≠ 60 → k ≠ 66 → k ≠ 67 → J' k = J k) ∧ (∀ i, i ≠ 9 → J' 60 i = J 60 i) := by
  rcases h with e | ⟨h1, h2, h3, h4⟩
  · rw [e]
    exact ⟨hK, fun _ _ _ _ => rfl, fun _ _ => rfl⟩
  · exact ⟨Or.inr ⟨h1, h2⟩, h3, h4⟩
theorem r_unfair (hF : 99999999 ≤ FU) (hR : PlR P J) (hW : WfP P) : ∃ J', fX9_unfair FU 60 (J, R0 pl nm hd rd) = some (nI (uO P), (J', R0 pl nm hd rd)) ∧ J' 60 9 = nI 0 ∧ (∀ k, k ≠ 60 → k ≠ 66 → k ≠ 67 → J' k = J k) ∧ (∀ i, i ≠ 9 → J' 60 i = J 60 i) := by
  generalize hT : up2 J 60 9 (nI 0) = T
  have t9 : T 60 9 = nI 0 := by rw [← hT, up2_s]
  have tk : ∀ k, k ≠ 60 → T k = J k := fun k hk => by rw [← hT, up2_ne hk]
  have ti : ∀ i, i ≠ 9 → T 60 i = J 60 i := fun i hi => by rw [← hT, up2_i hi]
  have TR : PlR P T := hR.congr (fun i hi => ti i (by omega)) (fun k _ _ => tk k (by omega))
  obtain ⟨J1, K1, a1, a2, a3⟩ := r_solvedOf (FU := FU) (pl := pl) (nm := nm) (hd := hd) (rd := rd) hF TR hW (Or.inl t9) (w := 0) (by decide)
  obtain ⟨a4, a5, a6⟩ := a3.fr (Or.inl t9)
  have R1 : PlR P J1 := a3.keep TR
  obtain ⟨J2, K2, b1, b2, b3⟩ := r_solvedOf (FU := FU) (pl := pl) (nm := nm) (hd := hd) (rd := rd) hF R1 hW a4 (w := 1) (by decide)
  obtain ⟨b4, b5, b6⟩ := b3.fr a4
  have e1 := lenO_eq hW a1.1 a1.2.1
  have v1 : wal P K1 0 512 = wonP P (lenO P) 512 := by
    rw [e1]
    unfold wal
    rw [if_neg (by decide), if_neg (by decide)]
  have v2 : wal P K2 1 512 = allP P 512 := by
    unfold wal
    rw [if_pos rfl]
  rw [v1] at a2
  rw [v2] at b2
  have h1 : wonP P (lenO P) 512 ≤ 512 := cnt_le _ _
  have h2 : allP P 512 ≤ 512 := cnt_le _ _
  refine ⟨up2 J2 60 9 (nI 0), ?_, by rw [up2_s], fun k k1 k2 k3 => by rw [up2_ne k1, b5 k k1 k2 k3, a5 k k1 k2 k3, tk k k1], fun i hi => by rw [up2_i hi, b6 i hi, a6 i hi, ti i hi]⟩
  unfold fX9_unfair uO unf
  rw [li_0, pIb_60, hT, show rc 9 (some 60) = some 60 from rfl, w_bind, dn a2, w_bind, li_1, dn b2, pIb_60]
  generalize wonP P (lenO P) 512 = w at h1 ⊢
  generalize allP P 512 = a at h2 ⊢
  by_cases z : a ≤ 2 * w
  · have e1 : (2 : Int32) * nI w - nI a = nI (2 * w - a) := by simp (discharger := omega) only [li_0, li_1, li_2, li_3, li_4, li_5, li_6, li_7, li_8, li_9, li_10, li_11, li_12, li_13, li_14, li_15, li_16, li_17, li_18, li_19, li_20, li_21, li_22, li_23, li_24, li_25, li_26, li_27, li_28, li_29, li_30, li_31, li_32, li_33, li_34, li_35, li_36, li_37, li_38, li_39, li_40, li_41, li_42, li_43, li_44, li_45, li_46, li_47, li_48, li_49, li_50, li_51, li_52, li_53, li_54, li_55, li_56, li_57, li_58, li_59, li_60, li_61, li_62, li_63, li_64, li_65, li_66, li_67, li_68, li_69, li_70, li_71, li_72, li_73, li_74, li_75, li_76, li_77, li_78, li_79, li_80, li_81, li_82, li_83, li_84, li_85, li_86, li_87, li_88, li_89, li_90, li_91, li_92, li_93, li_94, li_95, li_96, li_97, li_98, li_99, li_100, li_101, li_102, li_103, li_104, li_105, li_106, li_107, li_108, li_109, li_110, li_111, li_112, li_113, li_114, li_115, li_116, li_117, li_118, li_119, li_120, li_121, li_122, li_123, li_124, li_125, li_126, li_127, li_128, li_144, li_150, li_200, li_255, li_384, li_512, li_999, li_1000, li_1024, li_1152, li_1920, li_3776, li_4096, li_9216, li_10000, li_100000, li_1073741824, li_m, w_lt, w_le, w_eq, w_mlt, w_mle, w_ltm, w_lem, w_meq, w_eqm, w_mm, w_mmlt, w_mmle, nI_add, w_sub, pk_mul, w_div, w_rem, w_and, w_or, w_shr, w_shl1, w_a31, w_andn]
    rw [e1, if_pos (by rw [w_le (by omega) (by omega)]; omega), if_pos z]
  · have e1 : (2 : Int32) * nI w - nI a = mI (a - 2 * w) := by
      rw [li_2, pk_mul, w_subm (by omega)]
    have e2 : ¬ nI 0 ≤ mI (a - 2 * w) := by simp (discharger := omega) only [li_0, li_1, li_2, li_3, li_4, li_5, li_6, li_7, li_8, li_9, li_10, li_11, li_12, li_13, li_14, li_15, li_16, li_17, li_18, li_19, li_20, li_21, li_22, li_23, li_24, li_25, li_26, li_27, li_28, li_29, li_30, li_31, li_32, li_33, li_34, li_35, li_36, li_37, li_38, li_39, li_40, li_41, li_42, li_43, li_44, li_45, li_46, li_47, li_48, li_49, li_50, li_51, li_52, li_53, li_54, li_55, li_56, li_57, li_58, li_59, li_60, li_61, li_62, li_63, li_64, li_65, li_66, li_67, li_68, li_69, li_70, li_71, li_72, li_73, li_74, li_75, li_76, li_77, li_78, li_79, li_80, li_81, li_82, li_83, li_84, li_85, li_86, li_87, li_88, li_89, li_90, li_91, li_92, li_93, li_94, li_95, li_96, li_97, li_98, li_99, li_100, li_101, li_102, li_103, li_104, li_105, li_106, li_107, li_108, li_109, li_110, li_111, li_112, li_113, li_114, li_115, li_116, li_117, li_118, li_119, li_120, li_121, li_122, li_123, li_124, li_125, li_126, li_127, li_128, li_144, li_150, li_200, li_255, li_384, li_512, li_999, li_1000, li_1024, li_1152, li_1920, li_3776, li_4096, li_9216, li_10000, li_100000, li_1073741824, li_m, w_lt, w_le, w_eq, w_mlt, w_mle, w_ltm, w_lem, w_meq, w_eqm, w_mm, w_mmlt, w_mmle, nI_add, w_sub, pk_mul, w_div, w_rem, w_and, w_or, w_shr, w_shl1, w_a31, w_andn, n_leT, n_leF, n_ltT, n_ltF, n_eqT, n_eqF, and_true, true_and, and_false, false_and, or_true, true_or, or_false, false_or, not_true_eq_false, not_false_eq_true, ↓reduceIte, Nat.reduceAdd, Nat.reduceEqDiff, Nat.zero_lt_one, Nat.not_lt_zero, Nat.one_ne_zero, Nat.zero_ne_one, not_true_eq_false, not_false_eq_true, Bool.false_eq_true, Bool.true_eq_false]
    have e3 : -mI (a - 2 * w) = nI (a - 2 * w) := by
      unfold mI
      rw [Int32.neg_neg]
    rw [e1, if_neg e2, e3, if_neg z]
def M61 (I : Nat → Nat → Int32) (A B C : Nat → Int32) : Nat → Nat → Int32 := va_up (va_up (va_up I 61 A) 62 B) 63 C
theorem M61_61 {A B C : Nat → Int32} : M61 I A B C 61 = A := rfl
theorem M61_62 {A B C : Nat → Int32} : M61 I A B C 62 = B := rfl
theorem M61_63 {A B C : Nat → Int32} : M61 I A B C 63 = C := rfl
theorem M61_o {A B C : Nat → Int32} {k : Nat} (h1 : k ≠ 61) (h2 : k ≠ 62) (h3 : k ≠ 63) : M61 I A B C k = I k := by
  unfold M61 va_up
  rw [if_neg h3, if_neg h2, if_neg h1]
theorem M61_same : M61 I (I 61) (I 62) (I 63) = I := by
  funext k
  unfold M61 va_up
  split
  · next h => rw [h]
  · split
    · next h => rw [h]
    · split
      · next h => rw [h]
      · rfl
theorem M61_up {A B C A' B' C' : Nat → Int32} {i j l : Nat} {x y z : Int32} (h1 : va_up A i x = A') (h2 : va_up B j y = B') (h3 : va_up C l z = C') : up2 (up2 (up2 (M61 I A B C) 61 i x) 62 j y) 63 l z = M61 I A' B' C' := by
  funext k
  by_cases z3 : k = 63
  · subst z3
    rw [up2_eq, up2_ne (by decide), up2_ne (by decide), M61_63, M61_63, h3]
  · rw [up2_ne z3]
    by_cases z2 : k = 62
    · subst z2
      rw [up2_eq, up2_ne (by decide), M61_62, M61_62, h2]
    · rw [up2_ne z2]
      by_cases z1 : k = 61
      · subst z1
        rw [up2_eq, M61_61, M61_61, h1]
      · rw [up2_ne z1, M61_o z1 z2 z3, M61_o z1 z2 z3]
/-- moved down from w on, n places -/
def shD (f : Nat → Int32) (w n : Nat) : Nat → Int32 := fun j => if w ≤ j ∧ j < w + n then f (j + 1) else f j
/-- moved up below m, n places -/
def shU (f : Nat → Int32) (m n : Nat) : Nat → Int32 := fun j => if m < j + n ∧ j ≤ m then f (j - 1) else f j
theorem shD_0 (f : Nat → Int32) (w : Nat) : shD f w 0 = f := by
  funext j
  unfold shD
  rw [if_neg (by omega)]
theorem shU_0 (f : Nat → Int32) (m : Nat) : shU f m 0 = f := by
  funext j
  unfold shU
  rw [if_neg (by omega)]
theorem shD_s (f : Nat → Int32) (w n : Nat) : va_up (shD f w n) (w + n) (shD f w n (w + n + 1)) = shD f w (n + 1) := by
  funext j
  unfold va_up shD
  by_cases h : j = w + n
  · rw [if_pos h, h, if_neg (by omega), if_pos (by omega)]
  · rw [if_neg h]
    by_cases z : w ≤ j ∧ j < w + n
    · rw [if_pos z, if_pos (by omega)]
    · rw [if_neg z, if_neg (by omega)]
theorem shU_s (f : Nat → Int32) {m n : Nat} (h : n < m) : va_up (shU f m n) (m - n) (shU f m n (m - n - 1)) = shU f m (n + 1) := by
  funext j
  unfold va_up shU
  by_cases h : j = m - n
  · rw [if_pos h, h, if_neg (by omega), if_pos (by omega)]
  · rw [if_neg h]
    by_cases z : m < j + n ∧ j ≤ m
    · rw [if_pos z, if_pos (by omega)]
    · rw [if_neg z, if_neg (by omega)]
theorem r_shiftD (hF : 99999999 ≤ FU) {A B C : Nat → Int32} {m w : Nat} (hm : m ≤ 16) (hw : w < m) (h1 : J 60 1 = nI m) : fX9_shift FU 60 (nI w) (nI 1) (M61 J A B C, R0 pl nm hd rd) = some (M61 J (shD A w (m - 1 - w)) (shD B w (m - 1 - w)) (shD C w (m - 1 - w)), R0 pl nm hd rd) := by
  have j1 : ∀ A B C, M61 J A B C 60 1 = nI m := fun A B C => by rw [M61_o (by decide) (by decide) (by decide), h1]
  have e0 : (nI m - (1 : Int32)) - nI w = nI (m - 1 - w) := by simp (discharger := omega) only [li_0, li_1, li_2, li_3, li_4, li_5, li_6, li_7, li_8, li_9, li_10, li_11, li_12, li_13, li_14, li_15, li_16, li_17, li_18, li_19, li_20, li_21, li_22, li_23, li_24, li_25, li_26, li_27, li_28, li_29, li_30, li_31, li_32, li_33, li_34, li_35, li_36, li_37, li_38, li_39, li_40, li_41, li_42, li_43, li_44, li_45, li_46, li_47, li_48, li_49, li_50, li_51, li_52, li_53, li_54, li_55, li_56, li_57, li_58, li_59, li_60, li_61, li_62, li_63, li_64, li_65, li_66, li_67, li_68, li_69, li_70, li_71, li_72, li_73, li_74, li_75, li_76, li_77, li_78, li_79, li_80, li_81, li_82, li_83, li_84, li_85, li_86, li_87, li_88, li_89, li_90, li_91, li_92, li_93, li_94, li_95, li_96, li_97, li_98, li_99, li_100, li_101, li_102, li_103, li_104, li_105, li_106, li_107, li_108, li_109, li_110, li_111, li_112, li_113, li_114, li_115, li_116, li_117, li_118, li_119, li_120, li_121, li_122, li_123, li_124, li_125, li_126, li_127, li_128, li_144, li_150, li_200, li_255, li_384, li_512, li_999, li_1000, li_1024, li_1152, li_1920, li_3776, li_4096, li_9216, li_10000, li_100000, li_1073741824, li_m, w_lt, w_le, w_eq, w_mlt, w_mle, w_ltm, w_lem, w_meq, w_eqm, w_mm, w_mmlt, w_mmle, nI_add, w_sub, pk_mul, w_div, w_rem, w_and, w_or, w_shr, w_shl1, w_a31, w_andn]
  have f1 : ¬ nI 1 ≤ (0 : Int32) := by decide
  have step : ∀ k, k < m - 1 - w → ∀ F, fX9_shift_L2 FU 60 (nI w) (nI 1) (F + 1) (nI k) (M61 J (shD A w k) (shD B w k) (shD C w k), R0 pl nm hd rd) = fX9_shift_L2 FU 60 (nI w) (nI 1) F (nI (k + 1)) (M61 J (shD A w (k + 1)) (shD B w (k + 1)) (shD C w (k + 1)), R0 pl nm hd rd) := by
    intro k hk F
    have f0 : ¬ nI (m - 1 - w) ≤ nI k := by rw [w_le (by omega) (by omega)]; omega
    rw [fX9_shift_L2, fIb_60, j1, e0, if_neg f0, if_neg f1]
    unfold fX9_shift_b32
    rw [nI_add, nI_add, fRb_60_4, fRb_60_4, aIb_61 (by omega), M61_61, sIb_61 (by omega), fRb_60_5, fRb_60_5, aIb_62 (by omega), up2_k (by decide), M61_62, sIb_62 (by omega), fRb_60_6, fRb_60_6, aIb_63 (by omega), up2_k (by decide), up2_k (by decide), M61_63, sIb_63 (by omega), M61_up (shD_s A w k) (shD_s B w k) (shD_s C w k), li_1, nI_add]
  have lp := lpU (fun F (q : Int32 × Mem) => fX9_shift_L2 FU 60 (nI w) (nI 1) F q.1 q.2) (fun k => (nI k, (M61 J (shD A w k) (shD B w k) (shD C w k), R0 pl nm hd rd))) (m - 1 - w) step (m - 1 - w) 0 FU (by omega) (by omega)
  simp only at lp
  obtain ⟨G, hG⟩ : ∃ G, FU - (m - 1 - w) = G + 1 := ⟨FU - (m - 1 - w) - 1, by omega⟩
  rw [shD_0, shD_0, shD_0] at lp
  unfold fX9_shift
  rw [li_0, lp, hG, fX9_shift_L2, fIb_60, j1, e0, if_pos (by rw [w_le (by omega) (by omega)]; omega)]
theorem w_am {a : Nat} (h : 1 ≤ a) : nI a + mI 1 = nI (a - 1) := by
  unfold mI
  rw [← Int32.sub_eq_add_neg, w_sub h]
theorem r_shiftU (hF : 99999999 ≤ FU) {A B C : Nat → Int32} {m w : Nat} (hm : m ≤ 16) (hw : w < m) (h1 : J 60 1 = nI m) : fX9_shift FU 60 (nI w) (mI 1) (M61 J A B C, R0 pl nm hd rd) = some (M61 J (shU A (m - 1) (m - 1 - w)) (shU B (m - 1) (m - 1 - w)) (shU C (m - 1) (m - 1 - w)), R0 pl nm hd rd) := by
  have j1 : ∀ A B C, M61 J A B C 60 1 = nI m := fun A B C => by rw [M61_o (by decide) (by decide) (by decide), h1]
  have e0 : (nI m - (1 : Int32)) - nI w = nI (m - 1 - w) := by simp (discharger := omega) only [li_0, li_1, li_2, li_3, li_4, li_5, li_6, li_7, li_8, li_9, li_10, li_11, li_12, li_13, li_14, li_15, li_16, li_17, li_18, li_19, li_20, li_21, li_22, li_23, li_24, li_25, li_26, li_27, li_28, li_29, li_30, li_31, li_32, li_33, li_34, li_35, li_36, li_37, li_38, li_39, li_40, li_41, li_42, li_43, li_44, li_45, li_46, li_47, li_48, li_49, li_50, li_51, li_52, li_53, li_54, li_55, li_56, li_57, li_58, li_59, li_60, li_61, li_62, li_63, li_64, li_65, li_66, li_67, li_68, li_69, li_70, li_71, li_72, li_73, li_74, li_75, li_76, li_77, li_78, li_79, li_80, li_81, li_82, li_83, li_84, li_85, li_86, li_87, li_88, li_89, li_90, li_91, li_92, li_93, li_94, li_95, li_96, li_97, li_98, li_99, li_100, li_101, li_102, li_103, li_104, li_105, li_106, li_107, li_108, li_109, li_110, li_111, li_112, li_113, li_114, li_115, li_116, li_117, li_118, li_119, li_120, li_121, li_122, li_123, li_124, li_125, li_126, li_127, li_128, li_144, li_150, li_200, li_255, li_384, li_512, li_999, li_1000, li_1024, li_1152, li_1920, li_3776, li_4096, li_9216, li_10000, li_100000, li_1073741824, li_m, w_lt, w_le, w_eq, w_mlt, w_mle, w_ltm, w_lem, w_meq, w_eqm, w_mm, w_mmlt, w_mmle, nI_add, w_sub, pk_mul, w_div, w_rem, w_and, w_or, w_shr, w_shl1, w_a31, w_andn]
  have f1 : mI 1 ≤ (0 : Int32) := by decide
  have step : ∀ k, k < m - 1 - w → ∀ F, fX9_shift_L2 FU 60 (nI w) (mI 1) (F + 1) (nI k) (M61 J (shU A (m - 1) k) (shU B (m - 1) k) (shU C (m - 1) k), R0 pl nm hd rd) = fX9_shift_L2 FU 60 (nI w) (mI 1) F (nI (k + 1)) (M61 J (shU A (m - 1) (k + 1)) (shU B (m - 1) (k + 1)) (shU C (m - 1) (k + 1)), R0 pl nm hd rd) := by
    intro k hk F
    have f0 : ¬ nI (m - 1 - w) ≤ nI k := by rw [w_le (by omega) (by omega)]; omega
    have e1 : (nI m - (1 : Int32)) - nI k = nI (m - 1 - k) := by simp (discharger := omega) only [li_0, li_1, li_2, li_3, li_4, li_5, li_6, li_7, li_8, li_9, li_10, li_11, li_12, li_13, li_14, li_15, li_16, li_17, li_18, li_19, li_20, li_21, li_22, li_23, li_24, li_25, li_26, li_27, li_28, li_29, li_30, li_31, li_32, li_33, li_34, li_35, li_36, li_37, li_38, li_39, li_40, li_41, li_42, li_43, li_44, li_45, li_46, li_47, li_48, li_49, li_50, li_51, li_52, li_53, li_54, li_55, li_56, li_57, li_58, li_59, li_60, li_61, li_62, li_63, li_64, li_65, li_66, li_67, li_68, li_69, li_70, li_71, li_72, li_73, li_74, li_75, li_76, li_77, li_78, li_79, li_80, li_81, li_82, li_83, li_84, li_85, li_86, li_87, li_88, li_89, li_90, li_91, li_92, li_93, li_94, li_95, li_96, li_97, li_98, li_99, li_100, li_101, li_102, li_103, li_104, li_105, li_106, li_107, li_108, li_109, li_110, li_111, li_112, li_113, li_114, li_115, li_116, li_117, li_118, li_119, li_120, li_121, li_122, li_123, li_124, li_125, li_126, li_127, li_128, li_144, li_150, li_200, li_255, li_384, li_512, li_999, li_1000, li_1024, li_1152, li_1920, li_3776, li_4096, li_9216, li_10000, li_100000, li_1073741824, li_m, w_lt, w_le, w_eq, w_mlt, w_mle, w_ltm, w_lem, w_meq, w_eqm, w_mm, w_mmlt, w_mmle, nI_add, w_sub, pk_mul, w_div, w_rem, w_and, w_or, w_shr, w_shl1, w_a31, w_andn]
    have hkm : k < m - 1 := by omega
    rw [fX9_shift_L2, fIb_60, j1, e0, if_neg f0, if_pos f1, fIb_60, j1, e1]
    unfold fX9_shift_b32
    rw [w_am (by omega), fRb_60_4, fRb_60_4, aIb_61 (by omega), M61_61, sIb_61 (by omega), fRb_60_5, fRb_60_5, aIb_62 (by omega), up2_k (by decide), M61_62, sIb_62 (by omega), fRb_60_6, fRb_60_6, aIb_63 (by omega), up2_k (by decide), up2_k (by decide), M61_63, sIb_63 (by omega), M61_up (shU_s A hkm) (shU_s B hkm) (shU_s C hkm), li_1, nI_add]
  have lp := lpU (fun F (q : Int32 × Mem) => fX9_shift_L2 FU 60 (nI w) (mI 1) F q.1 q.2) (fun k => (nI k, (M61 J (shU A (m - 1) k) (shU B (m - 1) k) (shU C (m - 1) k), R0 pl nm hd rd))) (m - 1 - w) step (m - 1 - w) 0 FU (by omega) (by omega)
  simp only at lp
  obtain ⟨G, hG⟩ : ∃ G, FU - (m - 1 - w) = G + 1 := ⟨FU - (m - 1 - w) - 1, by omega⟩
  rw [shU_0, shU_0, shU_0] at lp
  unfold fX9_shift
  rw [li_0, lp, hG, fX9_shift_L2, fIb_60, j1, e0, if_pos (by rw [w_le (by omega) (by omega)]; omega)]
/-- the reference's memory behind a change that was tried -/
def FR (J J' : Nat → Nat → Int32) : Prop := (J' = J ∨ J' 60 9 = nI 0) ∧ (∀ k, k ≠ 60 → k ≠ 61 → k ≠ 62 → k ≠ 63 → k ≠ 66 → k ≠ 67 → J' k = J k) ∧ (∀ i, i ≠ 9 → J' 60 i = J 60 i)
theorem FR.refl : FR J J := ⟨Or.inl rfl, fun _ _ _ _ _ _ _ => rfl, fun _ _ => rfl⟩
theorem FR.trans {J1 J2 : Nat → Nat → Int32} (a : FR J J1) (b : FR J1 J2) : FR J J2 := by
  obtain ⟨a1, a2, a3⟩ := a
  obtain ⟨b1, b2, b3⟩ := b
  refine ⟨?_, fun k k1 k2 k3 k4 k5 k6 => (b2 k k1 k2 k3 k4 k5 k6).trans (a2 k k1 k2 k3 k4 k5 k6), fun i hi => (b3 i hi).trans (a3 i hi)⟩
  rcases b1 with e | e
  · rw [e]
    exact a1
  · exact Or.inr e
theorem fin_row {A : Nat → Int32} {m w j : Nat} (hw : w < m) (hj : j < m) : va_up (shU (shD A w (m - 1 - w)) (m - 1) (m - 1 - w)) w (A w) j = A j := by
  unfold va_up shU shD
  by_cases z : j = w
  · rw [if_pos z, z]
  · rw [if_neg z]
    by_cases y : m - 1 < j + (m - 1 - w) ∧ j ≤ m - 1
    · rw [if_pos y, if_pos (by omega)]
      congr 1
      omega
    · rw [if_neg y, if_neg (by omega)]
theorem r_without (hF : 99999999 ≤ FU) (hR : PlR P J) (hW : WfP P) (h0 : shN P (Pn P) = 0) {w : Nat} (hw : w < Pn P) : ∃ J', fX9_withoutWay FU 60 (nI w) (J, R0 pl nm hd rd) = some (nI (uO (woP P w (Pn P))), (J', R0 pl nm hd rd)) ∧ PlR P J' ∧ FR J J' := by
  have hn := wf_n hW
  have wf := (woP_wf hW h0 w (Pn P) (Nat.le_refl _)).1
  have hq := woP_p P w (Pn P)
  have hl : Pn (woP P w (Pn P)) = Pn P - 1 := by rw [woP_n, if_pos hw]
  have hk := woP_k P w (Pn P)
  obtain ⟨r0, r1, r2, r3, rk, ra, rb, rw_, rh⟩ := hR
  have sd := r_shiftD (FU := FU) (pl := pl) (nm := nm) (hd := hd) (rd := rd) (A := J 61) (B := J 62) (C := J 63) hF hn hw r1
  rw [M61_same] at sd
  generalize hT : up2 (M61 J (shD (J 61) w (Pn P - 1 - w)) (shD (J 62) w (Pn P - 1 - w)) (shD (J 63) w (Pn P - 1 - w))) 60 1 (nI (Pn P - 1)) = T
  have t1 : T 60 1 = nI (Pn P - 1) := by rw [← hT, up2_s]
  have ti : ∀ i, i ≠ 1 → T 60 i = J 60 i := fun i hi => by rw [← hT, up2_i hi, M61_o (by decide) (by decide) (by decide)]
  have tk : ∀ k, k ≠ 60 → k ≠ 61 → k ≠ 62 → k ≠ 63 → T k = J k := fun k k1 k2 k3 k4 => by rw [← hT, up2_ne k1, M61_o k2 k3 k4]
  have t61 : T 61 = shD (J 61) w (Pn P - 1 - w) := by rw [← hT, up2_ne (by decide), M61_61]
  have t62 : T 62 = shD (J 62) w (Pn P - 1 - w) := by rw [← hT, up2_ne (by decide), M61_62]
  have t63 : T 63 = shD (J 63) w (Pn P - 1 - w) := by rw [← hT, up2_ne (by decide), M61_63]
  have row : ∀ (f : Nat → Int32) (g : Nat → Nat), (∀ j, j < Pn P → f j = nI (g j)) → ∀ j, j < Pn P - 1 → shD f w (Pn P - 1 - w) j = nI (g (if j < w then j else j + 1)) := by
    intro f g h j hj
    unfold shD
    by_cases z : j < w
    · rw [if_neg (by omega), if_pos z, h j (by omega)]
    · rw [if_pos (by omega), if_neg z, h (j + 1) (by omega)]
  have TR : PlR (woP P w (Pn P)) T := by
    refine ⟨?_, ?_, ?_, ?_, fun j hj => ?_, fun j hj => ?_, fun j hj => ?_, fun y hy => ?_, fun y hy => ?_⟩
    · rw [ti 0 (by decide), r0, hq.1]
    · rw [t1, hl]
    · rw [ti 2 (by decide), r2, hq.2.1]
    · rw [ti 3 (by decide), r3, hq.2.2.1]
    · rw [(hk j hj).1, t61]
      exact row (J 61) (Pk P) rk j (by omega)
    · rw [(hk j hj).2.1, t62]
      exact row (J 62) (Pa P) ra j (by omega)
    · rw [(hk j hj).2.2, t63]
      exact row (J 63) (Pb P) rb j (by omega)
    · rw [hq.1] at hy
      rw [tk 64 (by decide) (by decide) (by decide) (by decide), rw_ y hy]
      unfold isWl
      rw [hq.2.2.2]
    · rw [hq.1] at hy
      rw [tk 65 (by decide) (by decide) (by decide) (by decide), rh y hy]
      unfold isHl
      rw [hq.2.2.2]
  obtain ⟨J2, u1, u2, u3, u4⟩ := r_unfair (FU := FU) (pl := pl) (nm := nm) (hd := hd) (rd := rd) hF TR wf
  generalize hV : up2 J2 60 1 (nI (Pn P)) = V
  have v1 : V 60 1 = nI (Pn P) := by rw [← hV, up2_s]
  have su := r_shiftU (FU := FU) (pl := pl) (nm := nm) (hd := hd) (rd := rd) (A := V 61) (B := V 62) (C := V 63) hF hn hw v1
  rw [M61_same] at su
  have v61 : V 61 = shD (J 61) w (Pn P - 1 - w) := by rw [← hV, up2_ne (by decide), u3 61 (by decide) (by decide) (by decide), t61]
  have v62 : V 62 = shD (J 62) w (Pn P - 1 - w) := by rw [← hV, up2_ne (by decide), u3 62 (by decide) (by decide) (by decide), t62]
  have v63 : V 63 = shD (J 63) w (Pn P - 1 - w) := by rw [← hV, up2_ne (by decide), u3 63 (by decide) (by decide) (by decide), t63]
  rw [v61, v62, v63] at su
  have vk : ∀ k, k ≠ 60 → k ≠ 61 → k ≠ 62 → k ≠ 63 → k ≠ 66 → k ≠ 67 → V k = J k := fun k k1 k2 k3 k4 k5 k6 => by rw [← hV, up2_ne k1, u3 k k1 k5 k6, tk k k1 k2 k3 k4]
  have vi : ∀ i, i ≠ 9 → V 60 i = J 60 i := by
    intro i hi
    by_cases z : i = 1
    · rw [z, v1, r1]
    · rw [← hV, up2_i z, u4 i hi, ti i z]
  have v9 : V 60 9 = nI 0 := by rw [← hV, up2_i (by decide), u2]
  have fin := M61_up (I := V) (A := shU (shD (J 61) w (Pn P - 1 - w)) (Pn P - 1) (Pn P - 1 - w)) (B := shU (shD (J 62) w (Pn P - 1 - w)) (Pn P - 1) (Pn P - 1 - w)) (C := shU (shD (J 63) w (Pn P - 1 - w)) (Pn P - 1) (Pn P - 1 - w)) (i := w) (j := w) (l := w) (x := J 61 w) (y := J 62 w) (z := J 63 w) rfl rfl rfl
  refine ⟨M61 V (va_up (shU (shD (J 61) w (Pn P - 1 - w)) (Pn P - 1) (Pn P - 1 - w)) w (J 61 w)) (va_up (shU (shD (J 62) w (Pn P - 1 - w)) (Pn P - 1) (Pn P - 1 - w)) w (J 62 w)) (va_up (shU (shD (J 63) w (Pn P - 1 - w)) (Pn P - 1) (Pn P - 1 - w)) w (J 63 w)), ?_, ?_, ?_⟩
  · unfold fX9_withoutWay
    have s1 : nI (Pn P) - (1 : Int32) = nI (Pn P - 1) := by simp (discharger := omega) only [li_0, li_1, li_2, li_3, li_4, li_5, li_6, li_7, li_8, li_9, li_10, li_11, li_12, li_13, li_14, li_15, li_16, li_17, li_18, li_19, li_20, li_21, li_22, li_23, li_24, li_25, li_26, li_27, li_28, li_29, li_30, li_31, li_32, li_33, li_34, li_35, li_36, li_37, li_38, li_39, li_40, li_41, li_42, li_43, li_44, li_45, li_46, li_47, li_48, li_49, li_50, li_51, li_52, li_53, li_54, li_55, li_56, li_57, li_58, li_59, li_60, li_61, li_62, li_63, li_64, li_65, li_66, li_67, li_68, li_69, li_70, li_71, li_72, li_73, li_74, li_75, li_76, li_77, li_78, li_79, li_80, li_81, li_82, li_83, li_84, li_85, li_86, li_87, li_88, li_89, li_90, li_91, li_92, li_93, li_94, li_95, li_96, li_97, li_98, li_99, li_100, li_101, li_102, li_103, li_104, li_105, li_106, li_107, li_108, li_109, li_110, li_111, li_112, li_113, li_114, li_115, li_116, li_117, li_118, li_119, li_120, li_121, li_122, li_123, li_124, li_125, li_126, li_127, li_128, li_144, li_150, li_200, li_255, li_384, li_512, li_999, li_1000, li_1024, li_1152, li_1920, li_3776, li_4096, li_9216, li_10000, li_100000, li_1073741824, li_m, w_lt, w_le, w_eq, w_mlt, w_mle, w_ltm, w_lem, w_meq, w_eqm, w_mm, w_mmlt, w_mmle, nI_add, w_sub, pk_mul, w_div, w_rem, w_and, w_or, w_shr, w_shl1, w_a31, w_andn]
    have s2 : nI (Pn P - 1) + (1 : Int32) = nI (Pn P) := by
      rw [li_1, nI_add]
      congr 1
      omega
    have x1 : M61 J (shD (J 61) w (Pn P - 1 - w)) (shD (J 62) w (Pn P - 1 - w)) (shD (J 63) w (Pn P - 1 - w)) 60 1 = nI (Pn P) := by rw [M61_o (by decide) (by decide) (by decide), r1]
    have x2 : J2 60 1 = nI (Pn P - 1) := by rw [u4 1 (by decide), t1]
    rw [fRb_60_4, aIb_61 (by omega), fRb_60_5, aIb_62 (by omega), fRb_60_6, aIb_63 (by omega), show rc 9 (some 60) = some 60 from rfl, w_bind, show fX9_shift FU 60 (nI w) (1 : Int32) (J, R0 pl nm hd rd) = _ from sd, w_bind, fIb_60, x1, s1, pIb_60, hT, w_bind, dn u1, fIb_60, x2, s2, pIb_60, hV, w_bind, show fX9_shift FU 60 (nI w) (-1 : Int32) (V, R0 pl nm hd rd) = _ from su, w_bind, fRb_60_4, sIb_61 (by omega), fRb_60_5, sIb_62 (by omega), fRb_60_6, sIb_63 (by omega), fin]
  · refine ⟨?_, ?_, ?_, ?_, fun j hj => ?_, fun j hj => ?_, fun j hj => ?_, fun y hy => ?_, fun y hy => ?_⟩
    · rw [M61_o (by decide) (by decide) (by decide), vi 0 (by decide), r0]
    · rw [M61_o (by decide) (by decide) (by decide), v1]
    · rw [M61_o (by decide) (by decide) (by decide), vi 2 (by decide), r2]
    · rw [M61_o (by decide) (by decide) (by decide), vi 3 (by decide), r3]
    · rw [M61_61, fin_row hw hj, rk j hj]
    · rw [M61_62, fin_row hw hj, ra j hj]
    · rw [M61_63, fin_row hw hj, rb j hj]
    · rw [M61_o (by decide) (by decide) (by decide), vk 64 (by decide) (by decide) (by decide) (by decide) (by decide) (by decide), rw_ y hy]
    · rw [M61_o (by decide) (by decide) (by decide), vk 65 (by decide) (by decide) (by decide) (by decide) (by decide) (by decide), rh y hy]
  · refine ⟨Or.inr ?_, fun k k1 k2 k3 k4 k5 k6 => ?_, fun i hi => ?_⟩
    · rw [M61_o (by decide) (by decide) (by decide), v9]
    · rw [M61_o k2 k3 k4, vk k k1 k2 k3 k4 k5 k6]
    · rw [M61_o (by decide) (by decide) (by decide), vi i hi]
end Fair3
