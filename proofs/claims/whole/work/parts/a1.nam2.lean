/-! turnings: ways counted, both sides -/
section Nam2
variable {FU ver : Nat} {P : Pln} {I J : Nat → Nat → Int32} {pl nm hd rd : Option Nat}
/-- a way joins a to b -/
def jB (P : Pln) (w a b : Nat) : Bool := (Pa P w == a && Pb P w == b) || (!(Pk P w == 5) && (Pb P w == a && Pa P w == b))
theorem jc_s (k a b w : Nat) : jc P k a b (w + 1) = jc P k a b w + if Pk P w = k ∧ jB P w a b = true then 1 else 0 := by
  show cnt _ w + (if (Pk P w == k && ((Pa P w == a && Pb P w == b) || (!(k == 5) && (Pb P w == a && Pa P w == b)))) = true then 1 else 0) = _
  congr 1
  by_cases z : Pk P w = k
  · subst z
    unfold jB
    simp
  · simp [z]
theorem jv_s (a b w : Nat) (hk : Pk P w < 6) : jv P (w + 1) a b = jv P w a b + if jB P w a b = true then 2 ^ (5 * Pk P w) else 0 := by
  unfold jv
  rw [jc_s, jc_s, jc_s, jc_s, jc_s, jc_s]
  by_cases z : jB P w a b = true
  · obtain y | y | y | y | y | y : Pk P w = 0 ∨ Pk P w = 1 ∨ Pk P w = 2 ∨ Pk P w = 3 ∨ Pk P w = 4 ∨ Pk P w = 5 := by omega
    · simp [z, y]; omega
    · simp [z, y]; omega
    · simp [z, y]; omega
    · simp [z, y]; omega
    · simp [z, y]; omega
    · simp [z, y]; omega
  · simp [z]
theorem jB_iff {w a b : Nat} : jB P w a b = true ↔ (Pa P w = a ∧ Pb P w = b) ∨ (Pk P w ≠ 5 ∧ Pb P w = a ∧ Pa P w = b) := by
  unfold jB
  rw [Bool.or_eq_true, Bool.and_eq_true, Bool.and_eq_true, Bool.and_eq_true]
  simp
/-- ways counted by the reference -/
def RJ (P : Pln) (n : Nat) (J : Nat → Nat → Int32) : Prop := ∀ k a b, k < 6 → a < 8 → b < 8 → J 69 (64 * k + 8 * a + b) = nI (jc P k a b n)
theorem r_cw24 (hF : 99999999 ≤ FU) (hW : WfP P) : ∀ d w J F, d + w = Pn P → d < F → PlR P J → RJ P w J → ∃ J', fX9_countWays_L24 FU 60 F (nI w) (J, R0 pl nm hd rd) = some (J', R0 pl nm hd rd) ∧ RJ P (Pn P) J' ∧ (∀ q, q ≠ 69 → J' q = J q) := by
  have hp := wf_p hW
  have hn := wf_n hW
  intro d
  induction d with
  | zero =>
    intro w J F h1 h2 hR hJ
    obtain ⟨G, rfl⟩ : ∃ G, F = G + 1 := ⟨F - 1, by omega⟩
    have e : w = Pn P := by omega
    subst e
    refine ⟨J, ?_, hJ, fun _ _ => rfl⟩
    rw [fX9_countWays_L24, fIb_60, hR.2.1, if_pos (by rw [w_le (by omega) (by omega)]; omega)]
  | succ d ih =>
    intro w J F h1 h2 hR hJ
    obtain ⟨G, rfl⟩ : ∃ G, F = G + 1 := ⟨F - 1, by omega⟩
    have f0 : ¬ nI (Pn P) ≤ nI w := by rw [w_le (by omega) (by omega)]; omega
    obtain ⟨w1, w2, w3, w4⟩ := wf_w hW (w := w) (by omega)
    have rk := hR.2.2.2.2.1 w (by omega)
    have ra := hR.2.2.2.2.2.1 w (by omega)
    have rb := hR.2.2.2.2.2.2.1 w (by omega)
    have e1 : ((64 : Int32) * nI (Pk P w) + (8 : Int32) * nI (Pa P w)) + nI (Pb P w) = nI (64 * Pk P w + 8 * Pa P w + Pb P w) := by
      clear hJ ih
      simp (discharger := omega) only [li_0, li_1, li_2, li_3, li_4, li_5, li_6, li_7, li_8, li_9, li_10, li_11, li_12, li_13, li_14, li_15, li_16, li_17, li_18, li_19, li_20, li_21, li_22, li_23, li_24, li_25, li_26, li_27, li_28, li_29, li_30, li_31, li_32, li_33, li_34, li_35, li_36, li_37, li_38, li_39, li_40, li_41, li_42, li_43, li_44, li_45, li_46, li_47, li_48, li_49, li_50, li_51, li_52, li_53, li_54, li_55, li_56, li_57, li_58, li_59, li_60, li_61, li_62, li_63, li_64, li_65, li_66, li_67, li_68, li_69, li_70, li_71, li_72, li_73, li_74, li_75, li_76, li_77, li_78, li_79, li_80, li_81, li_82, li_83, li_84, li_85, li_86, li_87, li_88, li_89, li_90, li_91, li_92, li_93, li_94, li_95, li_96, li_97, li_98, li_99, li_100, li_101, li_102, li_103, li_104, li_105, li_106, li_107, li_108, li_109, li_110, li_111, li_112, li_113, li_114, li_115, li_116, li_117, li_118, li_119, li_120, li_121, li_122, li_123, li_124, li_125, li_126, li_127, li_128, li_144, li_150, li_200, li_255, li_384, li_512, li_999, li_1000, li_1024, li_1152, li_1920, li_3776, li_4096, li_9216, li_10000, li_100000, li_1073741824, li_m, w_lt, w_le, w_eq, w_mlt, w_mle, w_ltm, w_lem, w_meq, w_eqm, w_mm, w_mmlt, w_mmle, nI_add, w_sub, pk_mul, w_div, w_rem, w_and, w_or, w_shr, w_shl1, w_a31, w_andn]
    have e2 : ((64 : Int32) * nI (Pk P w) + (8 : Int32) * nI (Pb P w)) + nI (Pa P w) = nI (64 * Pk P w + 8 * Pb P w + Pa P w) := by
      clear hJ ih
      simp (discharger := omega) only [li_0, li_1, li_2, li_3, li_4, li_5, li_6, li_7, li_8, li_9, li_10, li_11, li_12, li_13, li_14, li_15, li_16, li_17, li_18, li_19, li_20, li_21, li_22, li_23, li_24, li_25, li_26, li_27, li_28, li_29, li_30, li_31, li_32, li_33, li_34, li_35, li_36, li_37, li_38, li_39, li_40, li_41, li_42, li_43, li_44, li_45, li_46, li_47, li_48, li_49, li_50, li_51, li_52, li_53, li_54, li_55, li_56, li_57, li_58, li_59, li_60, li_61, li_62, li_63, li_64, li_65, li_66, li_67, li_68, li_69, li_70, li_71, li_72, li_73, li_74, li_75, li_76, li_77, li_78, li_79, li_80, li_81, li_82, li_83, li_84, li_85, li_86, li_87, li_88, li_89, li_90, li_91, li_92, li_93, li_94, li_95, li_96, li_97, li_98, li_99, li_100, li_101, li_102, li_103, li_104, li_105, li_106, li_107, li_108, li_109, li_110, li_111, li_112, li_113, li_114, li_115, li_116, li_117, li_118, li_119, li_120, li_121, li_122, li_123, li_124, li_125, li_126, li_127, li_128, li_144, li_150, li_200, li_255, li_384, li_512, li_999, li_1000, li_1024, li_1152, li_1920, li_3776, li_4096, li_9216, li_10000, li_100000, li_1073741824, li_m, w_lt, w_le, w_eq, w_mlt, w_mle, w_ltm, w_lem, w_meq, w_eqm, w_mm, w_mmlt, w_mmle, nI_add, w_sub, pk_mul, w_div, w_rem, w_and, w_or, w_shr, w_shl1, w_a31, w_andn]
    have v1 := hJ (Pk P w) (Pa P w) (Pb P w) w1 (by omega) (by omega)
    have v2 := hJ (Pk P w) (Pb P w) (Pa P w) w1 (by omega) (by omega)
    generalize hT : up2 J 69 (64 * Pk P w + 8 * Pa P w + Pb P w) (nI (jc P (Pk P w) (Pa P w) (Pb P w) w + 1)) = T
    have tq : ∀ q, q ≠ 69 → T q = J q := fun q hq => by rw [← hT, up2_ne hq]
    rw [fX9_countWays_L24, fIb_60, hR.2.1, if_neg f0, fRb_60_13, fRb_60_4, aIb_61 (by omega), rk, fRb_60_5, aIb_62 (by omega), ra, fRb_60_6, aIb_63 (by omega), rb, e1, aIb_69 (by omega), v1, li_1, nI_add, sIb_69 (by omega), hT, fRb_60_4, aIb_61 (by omega), tq 61 (by decide), rk]
    unfold fX9_countWays_b112
    by_cases z : Pk P w = 5
    · obtain ⟨J', a1, a2, a3⟩ := ih (w + 1) T G (by omega) (by omega) (hR.congr (fun i _ => by rw [tq 60 (by decide)]) (fun k _ _ => tq k (by omega))) (fun k a b k1 a1 b1 => by
        rw [← hT, jc_s]
        by_cases y : 64 * k + 8 * a + b = 64 * Pk P w + 8 * Pa P w + Pb P w
        · have y1 : k = Pk P w := by omega
          have y2 : a = Pa P w := by omega
          have y3 : b = Pb P w := by omega
          subst y1 y2 y3
          rw [up2_s, if_pos ⟨rfl, jB_iff.mpr (Or.inl ⟨rfl, rfl⟩)⟩]
        · rw [up2_i y, hJ k a b k1 a1 b1, if_neg, Nat.add_zero]
          rintro ⟨c1, c2⟩
          rcases jB_iff.mp c2 with ⟨c3, c4⟩ | ⟨c3, _⟩
          · exact y (by rw [c1, c3, c4])
          · exact c3 z)
      refine ⟨J', ?_, a2, fun q hq => (a3 q hq).trans (tq q hq)⟩
      rw [if_pos (by rw [z]; rfl), li_1, nI_add]
      exact a1
    · generalize hU : up2 T 69 (64 * Pk P w + 8 * Pb P w + Pa P w) (nI (jc P (Pk P w) (Pb P w) (Pa P w) w + 1)) = U
      have uq : ∀ q, q ≠ 69 → U q = J q := fun q hq => by rw [← hU, up2_ne hq, tq q hq]
      obtain ⟨J', a1, a2, a3⟩ := ih (w + 1) U G (by omega) (by omega) (hR.congr (fun i _ => by rw [uq 60 (by decide)]) (fun k _ _ => uq k (by omega))) (fun k a b k1 a1 b1 => by
        rw [← hU, jc_s]
        by_cases y : 64 * k + 8 * a + b = 64 * Pk P w + 8 * Pb P w + Pa P w
        · have y1 : k = Pk P w := by omega
          have y2 : a = Pb P w := by omega
          have y3 : b = Pa P w := by omega
          subst y1 y2 y3
          rw [up2_s, if_pos ⟨rfl, jB_iff.mpr (Or.inr ⟨z, rfl, rfl⟩)⟩]
        · rw [up2_i y, ← hT]
          by_cases x : 64 * k + 8 * a + b = 64 * Pk P w + 8 * Pa P w + Pb P w
          · have y1 : k = Pk P w := by omega
            have y2 : a = Pa P w := by omega
            have y3 : b = Pb P w := by omega
            subst y1 y2 y3
            rw [up2_s, if_pos ⟨rfl, jB_iff.mpr (Or.inl ⟨rfl, rfl⟩)⟩]
          · rw [up2_i x, hJ k a b k1 a1 b1, if_neg, Nat.add_zero]
            rintro ⟨c1, c2⟩
            rcases jB_iff.mp c2 with ⟨c3, c4⟩ | ⟨_, c3, c4⟩
            · exact x (by rw [c1, c3, c4])
            · exact y (by rw [c1, c3, c4]))
      refine ⟨J', ?_, a2, fun q hq => (a3 q hq).trans (uq q hq)⟩
      have v3 : T 69 (64 * Pk P w + 8 * Pb P w + Pa P w) = nI (jc P (Pk P w) (Pb P w) (Pa P w) w) := by rw [← hT, up2_i (by omega), v2]
      rw [if_neg (by rw [li_5, w_eq (by omega) (by omega)]; exact z), fRb_60_13, fRb_60_4, aIb_61 (by omega), tq 61 (by decide), rk, fRb_60_6, aIb_63 (by omega), tq 63 (by decide), rb, fRb_60_5, aIb_62 (by omega), tq 62 (by decide), ra, e2, aIb_69 (by omega), v3, nI_add, sIb_69 (by omega), hU, li_1, nI_add]
      exact a1
theorem r_cw2 (hF : 99999999 ≤ FU) : ∀ d k J F, d + k = 384 → d < F → ∃ J', fX9_countWays_L2 FU 60 F (nI k) (J, R0 pl nm hd rd) = fX9_countWays_L24 FU 60 FU (nI 0) (J', R0 pl nm hd rd) ∧ (∀ j, k ≤ j → j < 384 → J' 69 j = nI 0) ∧ (∀ j, j < k → J' 69 j = J 69 j) ∧ (∀ q, q ≠ 69 → J' q = J q) := by
  intro d
  induction d with
  | zero =>
    intro k J F h1 h2
    obtain ⟨G, rfl⟩ : ∃ G, F = G + 1 := ⟨F - 1, by omega⟩
    refine ⟨J, ?_, fun j j1 j2 => by omega, fun _ _ => rfl, fun _ _ => rfl⟩
    rw [fX9_countWays_L2, if_pos (by rw [li_384, w_le (by omega) (by omega)]; omega), li_0]
  | succ d ih =>
    intro k J F h1 h2
    obtain ⟨G, rfl⟩ : ∃ G, F = G + 1 := ⟨F - 1, by omega⟩
    have f0 : ¬ (384 : Int32) ≤ nI k := by rw [li_384, w_le (by omega) (by omega)]; omega
    obtain ⟨J', a1, a2, a3, a4⟩ := ih (k + 1) (up2 J 69 k (nI 0)) G (by omega) (by omega)
    refine ⟨J', ?_, fun j j1 j2 => ?_, fun j hj => by rw [a3 j (by omega), up2_i (by omega)], fun q hq => by rw [a4 q hq, up2_ne hq]⟩
    · rw [fX9_countWays_L2, if_neg f0, fRb_60_13, li_0, sIb_69 (by omega), li_1, nI_add]
      exact a1
    · by_cases z : j = k
      · subst z
        rw [a3 j (by omega), up2_s]
      · exact a2 j (by omega) j2
theorem r_countWays (hF : 99999999 ≤ FU) (hR : PlR P J) (hW : WfP P) : ∃ J', fX9_countWays FU 60 (J, R0 pl nm hd rd) = some (J', R0 pl nm hd rd) ∧ RJ P (Pn P) J' ∧ (∀ q, q ≠ 69 → J' q = J q) := by
  have hn := wf_n hW
  obtain ⟨J1, a1, a2, a3, a4⟩ := r_cw2 (FU := FU) (pl := pl) (nm := nm) (hd := hd) (rd := rd) hF 384 0 J FU (by omega) (by omega)
  obtain ⟨J2, b1, b2, b3⟩ := r_cw24 (FU := FU) (pl := pl) (nm := nm) (hd := hd) (rd := rd) hF hW (Pn P) 0 J1 FU (by omega) (by omega) (hR.congr (fun i _ => by rw [a4 60 (by decide)]) (fun k _ _ => a4 k (by omega))) (fun k a b k1 a1 b1 => by rw [a2 _ (by omega) (by omega)]; rfl)
  refine ⟨J2, ?_, b2, fun q hq => (b3 q hq).trans (a4 q hq)⟩
  have a1 : fX9_countWays FU 60 (J, R0 pl nm hd rd) = _ := a1
  rw [a1, b1]
/-- ways counted by the class -/
def CJ (P : Pln) (n : Nat) (I : Nat → Nat → Int32) : Prop := ∀ a b, a < 8 → b < 8 → I 29 (a * 8 + b) = nI (jv P n a b)
theorem c_take53 (hF : 99999999 ≤ FU) (hW : WfP P) : ∀ d w I F, d + w = Pn P → d < F → PlC 1 P I → CJ P w I → ∃ I', fX2_take_L53 FU 28 F (nI w) (I, R0 pl (some 1) hd rd) = some (I', R0 pl (some 1) hd rd) ∧ CJ P (Pn P) I' ∧ (∀ q, q ≠ 29 → I' q = I q) := by
  have hp := wf_p hW
  have hn := wf_n hW
  intro d
  induction d with
  | zero =>
    intro w I F h1 h2 hC hJ
    obtain ⟨G, rfl⟩ : ∃ G, F = G + 1 := ⟨F - 1, by omega⟩
    have e : w = Pn P := by omega
    subst e
    refine ⟨I, ?_, hJ, fun _ _ => rfl⟩
    rw [fX2_take_L53, fRb_28_0, fIb_1, hC.2.1, if_pos (by rw [w_le (by omega) (by omega)]; omega)]
  | succ d ih =>
    intro w I F h1 h2 hC hJ
    obtain ⟨G, rfl⟩ : ∃ G, F = G + 1 := ⟨F - 1, by omega⟩
    have f0 : ¬ nI (Pn P) ≤ nI w := by rw [w_le (by omega) (by omega)]; omega
    obtain ⟨w1, w2, w3, w4⟩ := wf_w hW (w := w) (by omega)
    have rk := hC.2.2.2.2.2.1 w (by omega)
    have ra := hC.2.2.2.2.2.2.1 w (by omega)
    have rb := hC.2.2.2.2.2.2.2.1 w (by omega)
    have e1 : nI (Pa P w) * (8 : Int32) + nI (Pb P w) = nI (Pa P w * 8 + Pb P w) := by
      clear hJ ih
      simp (discharger := omega) only [li_0, li_1, li_2, li_3, li_4, li_5, li_6, li_7, li_8, li_9, li_10, li_11, li_12, li_13, li_14, li_15, li_16, li_17, li_18, li_19, li_20, li_21, li_22, li_23, li_24, li_25, li_26, li_27, li_28, li_29, li_30, li_31, li_32, li_33, li_34, li_35, li_36, li_37, li_38, li_39, li_40, li_41, li_42, li_43, li_44, li_45, li_46, li_47, li_48, li_49, li_50, li_51, li_52, li_53, li_54, li_55, li_56, li_57, li_58, li_59, li_60, li_61, li_62, li_63, li_64, li_65, li_66, li_67, li_68, li_69, li_70, li_71, li_72, li_73, li_74, li_75, li_76, li_77, li_78, li_79, li_80, li_81, li_82, li_83, li_84, li_85, li_86, li_87, li_88, li_89, li_90, li_91, li_92, li_93, li_94, li_95, li_96, li_97, li_98, li_99, li_100, li_101, li_102, li_103, li_104, li_105, li_106, li_107, li_108, li_109, li_110, li_111, li_112, li_113, li_114, li_115, li_116, li_117, li_118, li_119, li_120, li_121, li_122, li_123, li_124, li_125, li_126, li_127, li_128, li_144, li_150, li_200, li_255, li_384, li_512, li_999, li_1000, li_1024, li_1152, li_1920, li_3776, li_4096, li_9216, li_10000, li_100000, li_1073741824, li_m, w_lt, w_le, w_eq, w_mlt, w_mle, w_ltm, w_lem, w_meq, w_eqm, w_mm, w_mmlt, w_mmle, nI_add, w_sub, pk_mul, w_div, w_rem, w_and, w_or, w_shr, w_shl1, w_a31, w_andn]
    have e2 : nI (Pb P w) * (8 : Int32) + nI (Pa P w) = nI (Pb P w * 8 + Pa P w) := by
      clear hJ ih
      simp (discharger := omega) only [li_0, li_1, li_2, li_3, li_4, li_5, li_6, li_7, li_8, li_9, li_10, li_11, li_12, li_13, li_14, li_15, li_16, li_17, li_18, li_19, li_20, li_21, li_22, li_23, li_24, li_25, li_26, li_27, li_28, li_29, li_30, li_31, li_32, li_33, li_34, li_35, li_36, li_37, li_38, li_39, li_40, li_41, li_42, li_43, li_44, li_45, li_46, li_47, li_48, li_49, li_50, li_51, li_52, li_53, li_54, li_55, li_56, li_57, li_58, li_59, li_60, li_61, li_62, li_63, li_64, li_65, li_66, li_67, li_68, li_69, li_70, li_71, li_72, li_73, li_74, li_75, li_76, li_77, li_78, li_79, li_80, li_81, li_82, li_83, li_84, li_85, li_86, li_87, li_88, li_89, li_90, li_91, li_92, li_93, li_94, li_95, li_96, li_97, li_98, li_99, li_100, li_101, li_102, li_103, li_104, li_105, li_106, li_107, li_108, li_109, li_110, li_111, li_112, li_113, li_114, li_115, li_116, li_117, li_118, li_119, li_120, li_121, li_122, li_123, li_124, li_125, li_126, li_127, li_128, li_144, li_150, li_200, li_255, li_384, li_512, li_999, li_1000, li_1024, li_1152, li_1920, li_3776, li_4096, li_9216, li_10000, li_100000, li_1073741824, li_m, w_lt, w_le, w_eq, w_mlt, w_mle, w_ltm, w_lem, w_meq, w_eqm, w_mm, w_mmlt, w_mmle, nI_add, w_sub, pk_mul, w_div, w_rem, w_and, w_or, w_shr, w_shl1, w_a31, w_andn]
    have e3 : (1 : Int32) <<< (((5 : Int32) * nI (Pk P w)) &&& 31) = nI (2 ^ (5 * Pk P w)) := by
      clear hJ ih
      simp (discharger := omega) only [li_0, li_1, li_2, li_3, li_4, li_5, li_6, li_7, li_8, li_9, li_10, li_11, li_12, li_13, li_14, li_15, li_16, li_17, li_18, li_19, li_20, li_21, li_22, li_23, li_24, li_25, li_26, li_27, li_28, li_29, li_30, li_31, li_32, li_33, li_34, li_35, li_36, li_37, li_38, li_39, li_40, li_41, li_42, li_43, li_44, li_45, li_46, li_47, li_48, li_49, li_50, li_51, li_52, li_53, li_54, li_55, li_56, li_57, li_58, li_59, li_60, li_61, li_62, li_63, li_64, li_65, li_66, li_67, li_68, li_69, li_70, li_71, li_72, li_73, li_74, li_75, li_76, li_77, li_78, li_79, li_80, li_81, li_82, li_83, li_84, li_85, li_86, li_87, li_88, li_89, li_90, li_91, li_92, li_93, li_94, li_95, li_96, li_97, li_98, li_99, li_100, li_101, li_102, li_103, li_104, li_105, li_106, li_107, li_108, li_109, li_110, li_111, li_112, li_113, li_114, li_115, li_116, li_117, li_118, li_119, li_120, li_121, li_122, li_123, li_124, li_125, li_126, li_127, li_128, li_144, li_150, li_200, li_255, li_384, li_512, li_999, li_1000, li_1024, li_1152, li_1920, li_3776, li_4096, li_9216, li_10000, li_100000, li_1073741824, li_m, w_lt, w_le, w_eq, w_mlt, w_mle, w_ltm, w_lem, w_meq, w_eqm, w_mm, w_mmlt, w_mmle, nI_add, w_sub, pk_mul, w_div, w_rem, w_and, w_or, w_shr, w_shl1, w_a31, w_andn]
    have v1 := hJ (Pa P w) (Pb P w) (by omega) (by omega)
    have v2 := hJ (Pb P w) (Pa P w) (by omega) (by omega)
    generalize hT : up2 I 29 (Pa P w * 8 + Pb P w) (nI (jv P w (Pa P w) (Pb P w) + 2 ^ (5 * Pk P w))) = T
    have tq : ∀ q, q ≠ 29 → T q = I q := fun q hq => by rw [← hT, up2_ne hq]
    rw [fX2_take_L53, fRb_28_0, fIb_1, hC.2.1, if_neg f0, fRb_28_0, fRb_1_1, aIb_2 (by omega), rk, fRb_28_3, fRb_28_0, fRb_1_2, aIb_3 (by omega), ra, fRb_28_0, fRb_1_3, aIb_4 (by omega), rb, e1, e3, aIb_29 (by omega), v1, nI_add, sIb_29 (by omega), hT, fRb_28_0, fRb_1_1, aIb_2 (by omega), tq 2 (by decide), rk]
    unfold fX2_take_b153
    by_cases z : Pk P w = 5
    · obtain ⟨I', a1, a2, a3⟩ := ih (w + 1) T G (by omega) (by omega) (hC.congr (fun k _ _ => tq k (by omega))) (fun a b a1 b1 => by
        rw [← hT, jv_s a b w w1]
        by_cases y : a * 8 + b = Pa P w * 8 + Pb P w
        · have y2 : a = Pa P w := by omega
          have y3 : b = Pb P w := by omega
          subst y2 y3
          rw [up2_s, if_pos (jB_iff.mpr (Or.inl ⟨rfl, rfl⟩))]
        · rw [up2_i y, hJ a b a1 b1, if_neg, Nat.add_zero]
          intro c2
          rcases jB_iff.mp c2 with ⟨c3, c4⟩ | ⟨c3, _⟩
          · exact y (by rw [c3, c4])
          · exact c3 z)
      refine ⟨I', ?_, a2, fun q hq => (a3 q hq).trans (tq q hq)⟩
      rw [if_pos (by rw [z]; rfl), li_1, nI_add]
      exact a1
    · generalize hU : up2 T 29 (Pb P w * 8 + Pa P w) (nI (jv P w (Pb P w) (Pa P w) + 2 ^ (5 * Pk P w))) = U
      have uq : ∀ q, q ≠ 29 → U q = I q := fun q hq => by rw [← hU, up2_ne hq, tq q hq]
      obtain ⟨I', a1, a2, a3⟩ := ih (w + 1) U G (by omega) (by omega) (hC.congr (fun k _ _ => uq k (by omega))) (fun a b a1 b1 => by
        rw [← hU, jv_s a b w w1]
        by_cases y : a * 8 + b = Pb P w * 8 + Pa P w
        · have y2 : a = Pb P w := by omega
          have y3 : b = Pa P w := by omega
          subst y2 y3
          rw [up2_s, if_pos (jB_iff.mpr (Or.inr ⟨z, rfl, rfl⟩))]
        · rw [up2_i y, ← hT]
          by_cases x : a * 8 + b = Pa P w * 8 + Pb P w
          · have y2 : a = Pa P w := by omega
            have y3 : b = Pb P w := by omega
            subst y2 y3
            rw [up2_s, if_pos (jB_iff.mpr (Or.inl ⟨rfl, rfl⟩))]
          · rw [up2_i x, hJ a b a1 b1, if_neg, Nat.add_zero]
            intro c2
            rcases jB_iff.mp c2 with ⟨c3, c4⟩ | ⟨_, c3, c4⟩
            · exact x (by rw [c3, c4])
            · exact y (by rw [c3, c4]))
      refine ⟨I', ?_, a2, fun q hq => (a3 q hq).trans (uq q hq)⟩
      have v3 : T 29 (Pb P w * 8 + Pa P w) = nI (jv P w (Pb P w) (Pa P w)) := by rw [← hT, up2_i (by omega), v2]
      rw [if_neg (by rw [li_5, w_eq (by omega) (by omega)]; exact z), fRb_28_3, fRb_28_0, fRb_1_3, aIb_4 (by omega), tq 4 (by decide), rb, fRb_28_0, fRb_1_2, aIb_3 (by omega), tq 3 (by decide), ra, e2, aIb_29 (by omega), v3, nI_add, sIb_29 (by omega), hU, li_1, nI_add]
      exact a1
theorem c_take32 (hF : 99999999 ≤ FU) : ∀ d k I F, d + k = 64 → d < F → ∃ I', fX2_take_L32 FU 28 F (nI k) (I, R0 pl nm hd rd) = fX2_take_L53 FU 28 FU (nI 0) (I', R0 pl nm hd rd) ∧ (∀ j, k ≤ j → j < 64 → I' 29 j = nI 0) ∧ (∀ j, j < k → I' 29 j = I 29 j) ∧ (∀ q, q ≠ 29 → I' q = I q) := by
  intro d
  induction d with
  | zero =>
    intro k I F h1 h2
    obtain ⟨G, rfl⟩ : ∃ G, F = G + 1 := ⟨F - 1, by omega⟩
    refine ⟨I, ?_, fun j j1 j2 => by omega, fun _ _ => rfl, fun _ _ => rfl⟩
    rw [fX2_take_L32, if_pos (by rw [li_64, w_le (by omega) (by omega)]; omega), li_0]
  | succ d ih =>
    intro k I F h1 h2
    obtain ⟨G, rfl⟩ : ∃ G, F = G + 1 := ⟨F - 1, by omega⟩
    have f0 : ¬ (64 : Int32) ≤ nI k := by rw [li_64, w_le (by omega) (by omega)]; omega
    obtain ⟨I', a1, a2, a3, a4⟩ := ih (k + 1) (up2 I 29 k (nI 0)) G (by omega) (by omega)
    refine ⟨I', ?_, fun j j1 j2 => ?_, fun j hj => by rw [a3 j (by omega), up2_i (by omega)], fun q hq => by rw [a4 q hq, up2_ne hq]⟩
    · rw [fX2_take_L32, if_neg f0, fRb_28_3, li_0, sIb_29 (by omega), li_1, nI_add]
      exact a1
    · by_cases z : j = k
      · subst z
        rw [a3 j (by omega), up2_s]
      · exact a2 j (by omega) j2
/-- what the class keeps of namings -/
def K28 (P : Pln) (ver : Nat) (nm : Option Nat) (I : Nat → Nat → Int32) : Prop := I 28 1 = mI 1 ∨ ∃ v, I 28 1 = nI v ∧ v ≤ ver ∧ (v = ver → nm = some 1 ∧ CJ P (Pn P) I ∧ (I 28 2 = mI 1 ∨ I 28 2 = nI (nTur P)))
theorem c_take (hF : 99999999 ≤ FU) (hC : PlC 1 P I) (hW : WfP P) (hv : I 1 12 = nI ver) (hver : ver < 2 ^ 30) (hK : K28 P ver nm I) : ∃ I', fX2_take FU 28 (some 1) (I, R0 pl nm hd rd) = some (I', R0 pl (some 1) hd rd) ∧ CJ P (Pn P) I' ∧ I' 28 1 = nI ver ∧ (I' 28 2 = mI 1 ∨ I' 28 2 = nI (nTur P)) ∧ (∀ q, q ≠ 28 → q ≠ 29 → I' q = I q) := by
  have hn := wf_n hW
  by_cases y : I 28 1 = nI ver
  · have hl : nm = some 1 ∧ CJ P (Pn P) I ∧ (I 28 2 = mI 1 ∨ I 28 2 = nI (nTur P)) := by
      rcases hK with e | ⟨v, e1, e2, e3⟩
      · rw [e] at y
        have : (mI 1 = nI ver) = _ := w_meq (by omega) (by omega)
        rw [this] at y
        omega
      · rw [e1] at y
        exact e3 ((nI_eq (by omega) (by omega)).mp y)
    obtain ⟨h1, h2, h3⟩ := hl
    subst h1
    refine ⟨I, ?_, h2, y, h3, fun _ _ _ => rfl⟩
    unfold fX2_take
    rw [fIb_28, fIb_1, hv, if_neg (fun h => h y)]
  · generalize hT : up2 (up2 I 28 1 (nI ver)) 28 2 (mI 1) = T
    have tq : ∀ q, q ≠ 28 → T q = I q := fun q hq => by rw [← hT, up2_ne hq, up2_ne hq]
    obtain ⟨I1, a1, a2, a3, a4⟩ := c_take32 (FU := FU) (pl := pl) (nm := some 1) (hd := hd) (rd := rd) hF 64 0 T FU (by omega) (by omega)
    obtain ⟨I2, b1, b2, b3⟩ := c_take53 (FU := FU) (pl := pl) (hd := hd) (rd := rd) hF hW (Pn P) 0 I1 FU (by omega) (by omega) (hC.congr (fun k _ _ => by rw [a4 k (by omega), tq k (by omega)])) (fun a b a1 b1 => by rw [a2 _ (by omega) (by omega)]; rfl)
    refine ⟨I2, ?_, b2, ?_, Or.inl ?_, fun q q1 q2 => by rw [b3 q q2, a4 q q2, tq q q1]⟩
    · unfold fX2_take
      have x1 : up2 I 28 1 (nI ver) 28 2 = I 28 2 := up2_i (by decide)
      have a1 : fX2_take_L32 FU 28 FU (0 : Int32) (T, R0 pl (some 1) hd rd) = _ := a1
      rw [fIb_28, fIb_1, hv, if_pos y, show pR 2 (I, R0 pl nm hd rd) (some 28) 0 (some 1) = some (I, up2 (R0 pl nm hd rd) 28 0 (some 1)) from rfl, w_bind, r0_set_nm, fIb_1, hv, pIb_28, pIb_28, show (-1 : Int32) = mI 1 from rfl, hT, a1, b1]
    · rw [b3 28 (by decide), a4 28 (by decide), ← hT, up2_i (by decide), up2_s]
    · rw [b3 28 (by decide), a4 28 (by decide), ← hT, up2_s]
end Nam2
