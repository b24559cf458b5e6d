/-! the plan changes: a way more, a way less -/
section PlanOps
variable {FU c : Nat} {P : Pln} {I J : Nat → Nat → Int32} {pl nm hd rd : Option Nat}
theorem w_s1lt {n i : Nat} (hn : n < 2 ^ 31) (hi : i < 2 ^ 31) : (nI n - nI 1 < nI i) = (n ≤ i) := by
  by_cases z : n = 0
  · subst z
    rw [show nI 0 - nI 1 = mI 1 by decide, w_mlt (by omega) hi]
    exact propext ⟨fun _ => Nat.zero_le _, fun _ => by omega⟩
  · rw [w_sub (by omega), w_lt (by omega) hi]
    exact propext ⟨fun h => by omega, fun h => by omega⟩
def addW (P : Pln) (k a b : Nat) : Pln := (Pp P, Pn P + 1, Ph P, Ps P, va_up (Pk P) (Pn P) k, va_up (Pa P) (Pn P) a, va_up (Pb P) (Pn P) b, Pg P)
def delW (P : Pln) : Pln := (Pp P, Pn P - 1, Ph P, Ps P, Pk P, Pa P, Pb P, Pg P)
theorem aS_B : ∀ k, k < 6 → aS tbB (nI k) = some (nI (shF k)) := by decide +kernel
theorem shF_0 {k : Nat} : (shF k ≤ 0) = ¬ isSh k = true := by
  unfold shF
  apply propext
  by_cases z : k = 3
  · subst z; decide
  · rw [if_neg z]
    split
    · rename_i y; simp [y]
    · rename_i y; simp [y]
theorem shN_add (k a b w : Nat) (hw : w ≤ Pn P) : shN (addW P k a b) w = shN P w := by
  unfold shN
  apply cnt_congr
  intro i hi
  show isSh (va_up (Pk P) (Pn P) k i) = _
  rw [va_o (by omega)]
theorem shN_addN (k a b : Nat) : shN (addW P k a b) (Pn P + 1) = shN P (Pn P) + if isSh k = true then 1 else 0 := by
  show shN (addW P k a b) (Pn P) + (if isSh (va_up (Pk P) (Pn P) k (Pn P)) = true then 1 else 0) = _
  rw [shN_add k a b _ (Nat.le_refl _), va_1]
theorem shO_add (k a b w : Nat) (hw : w < Pn P) : shO (addW P k a b) w = shO P w := by
  unfold shO
  rw [shN_add k a b w (by omega)]
  show (if isSh (va_up (Pk P) (Pn P) k w) = true then _ else _) = _
  rw [va_o (by omega)]
theorem shO_addN (k a b : Nat) : shO (addW P k a b) (Pn P) = if isSh k = true then some (shN P (Pn P)) else none := by
  unfold shO
  rw [shN_add k a b _ (Nat.le_refl _)]
  show (if isSh (va_up (Pk P) (Pn P) k (Pn P)) = true then _ else _) = _
  rw [va_1]
theorem wf_add (hW : WfP P) {k a b : Nat} (hk : k < 6) (ha : a < Pp P) (hb : b < Pp P) (hab : a ≠ b) (hn : Pn P < 16) (hs : isSh k = true → shN P (Pn P) < 2) : WfP (addW P k a b) := by
  refine ⟨hW.1, hW.2.1, by show Pn P + 1 ≤ 16; omega, hW.2.2.2.1, hW.2.2.2.2.1, fun w hw => ?_, hW.2.2.2.2.2.2.1, ?_⟩
  · show va_up (Pk P) (Pn P) k w < 6 ∧ va_up (Pa P) (Pn P) a w < Pp P ∧ va_up (Pb P) (Pn P) b w < Pp P ∧ va_up (Pa P) (Pn P) a w ≠ va_up (Pb P) (Pn P) b w
    have hw : w < Pn P + 1 := hw
    by_cases z : w = Pn P
    · subst z; rw [va_1, va_1, va_1]; exact ⟨hk, ha, hb, hab⟩
    · rw [va_o z, va_o z, va_o z]; exact wf_w hW (by omega)
  · show shN (addW P k a b) (Pn P + 1) ≤ 2
    rw [shN_addN]
    have := wf_sh hW
    split
    · rename_i y; have := hs y; omega
    · omega
theorem bsd_add (k a b x y : Nat) : bsd (addW P k a b) x y = (bsd P x y || ((a == x && b == y) || (a == y && b == x))) := by
  show anyB _ (Pn P + 1) = _
  rw [anyB_s]
  show (anyB (fun w => (va_up (Pa P) (Pn P) a w == x && va_up (Pb P) (Pn P) b w == y) || (va_up (Pa P) (Pn P) a w == y && va_up (Pb P) (Pn P) b w == x)) (Pn P) || ((va_up (Pa P) (Pn P) a (Pn P) == x && va_up (Pb P) (Pn P) b (Pn P) == y) || (va_up (Pa P) (Pn P) a (Pn P) == y && va_up (Pb P) (Pn P) b (Pn P) == x))) = _
  rw [va_1, va_1]
  congr 1
  unfold bsd
  rw [Bool.eq_iff_iff, anyB_iff, anyB_iff]
  constructor
  · rintro ⟨i, h1, h2⟩
    rw [va_o (by omega), va_o (by omega)] at h2
    exact ⟨i, h1, h2⟩
  · rintro ⟨i, h1, h2⟩
    refine ⟨i, h1, ?_⟩
    rw [va_o (by omega), va_o (by omega)]
    exact h2
theorem near_add {k a b : Nat} (x : Nat) (ha : a < 8) (hb : b < 8) (hab : a ≠ b) : nearM (addW P k a b) x = nearM P x ||| (if x = a then 2 ^ b else if x = b then 2 ^ a else 0) := by
  apply Nat.eq_of_testBit_eq
  intro y
  rw [Nat.testBit_or, tb_near, tb_near, bsd_add]
  have e : (if x = a then 2 ^ b else if x = b then 2 ^ a else 0).testBit y = (decide (y < 8) && ((a == x && b == y) || (a == y && b == x))) := by
    by_cases z1 : x = a
    · subst z1
      rw [if_pos rfl, Nat.testBit_two_pow]
      by_cases z2 : b = y
      · subst z2; simp [hb]
      · by_cases z3 : b = x
        · omega
        · have e1 : (b == y) = false := by simpa using z2
          have e2 : (b == x) = false := by simpa using z3
          simp [z2, e1, e2]
    · have e0 : (a == x) = false := by simp; omega
      rw [if_neg z1]
      by_cases z2 : x = b
      · subst z2
        rw [if_pos rfl, Nat.testBit_two_pow]
        by_cases z3 : a = y
        · subst z3; simp [ha]
        · have e1 : (a == y) = false := by simpa using z3
          simp [e0, e1, z3]
      · have e2 : (b == x) = false := by simp; omega
        rw [if_neg z2, Nat.zero_testBit]
        simp [e0, e2]
  rw [e]
  cases decide (y < 8) <;> simp
theorem c_refusal (hc : c = 1 ∨ c = 9) (hP : PlC c P I) (hW : WfP P) {k a b : Nat} (hk : k < 6) (ha : a < Pp P) (hb : b < Pp P) (hab : a ≠ b) : fX3_refusalOf FU c (nI k) (nI a) (nI b) (I, R0 pl nm hd rd) = some (if Pn P < 16 ∧ (isSh k = true → shN P (Pn P) < 2) then nI 0 else mI 4, (I, R0 pl nm hd rd)) := by
  have hp := wf_p hW
  have hn := wf_n hW
  have h2 := wf_sh hW
  have a8 := hP.2.1
  have a9 := hP.2.2.1
  have d1 := c_has (FU := FU) (pl := pl) (nm := nm) (hd := hd) (rd := rd) hc hP hW (x := a) (by omega)
  have d2 := c_has (FU := FU) (pl := pl) (nm := nm) (hd := hd) (rd := rd) hc hP hW (x := b) (by omega)
  have hf := shF_le k
  unfold fX3_refusalOf fX3_refusalOf_b54 fX3_refusalOf_b55 fX3_refusalOf_b71
  simp (discharger := omega) only [li_0, li_1, li_2, li_3, li_4, li_5, li_6, li_7, li_8, li_9, li_10, li_11, li_12, li_13, li_14, li_15, li_16, li_17, li_18, li_19, li_20, li_21, li_22, li_23, li_24, li_25, li_26, li_27, li_28, li_29, li_30, li_31, li_32, li_33, li_34, li_35, li_36, li_37, li_38, li_39, li_40, li_41, li_42, li_43, li_44, li_45, li_46, li_47, li_48, li_49, li_50, li_51, li_52, li_53, li_54, li_55, li_56, li_57, li_58, li_59, li_60, li_61, li_62, li_63, li_64, li_65, li_66, li_67, li_68, li_69, li_70, li_71, li_72, li_73, li_74, li_75, li_76, li_77, li_78, li_79, li_80, li_81, li_82, li_83, li_84, li_85, li_86, li_87, li_88, li_89, li_90, li_91, li_92, li_93, li_94, li_95, li_96, li_97, li_98, li_99, li_100, li_101, li_102, li_103, li_104, li_105, li_106, li_107, li_108, li_109, li_110, li_111, li_112, li_113, li_114, li_115, li_116, li_117, li_118, li_119, li_120, li_121, li_122, li_123, li_124, li_125, li_126, li_127, li_128, li_144, li_150, li_200, li_255, li_384, li_512, li_999, li_1000, li_1024, li_1152, li_1920, li_3776, li_4096, li_9216, li_10000, li_100000, li_1073741824, li_m, ↓rcb_P hc, ↓fIb_P hc, ↓pIb_P hc, ↓fRb_P1 hc, ↓aIb_P1 hc, ↓sIb_P1 hc, ↓fRb_P2 hc, ↓aIb_P2 hc, ↓sIb_P2 hc, ↓fRb_P3 hc, ↓aIb_P3 hc, ↓sIb_P3 hc, ↓fRb_P4 hc, ↓aIb_P4 hc, ↓sIb_P4 hc, ↓fRb_P5 hc, ↓aIb_P5 hc, ↓sIb_P5 hc, ↓fRb_P6 hc, ↓aIb_P6 hc, ↓sIb_P6 hc, ↓fRb_P7 hc, ↓aIb_P7 hc, ↓sIb_P7 hc, rc_P hc, fI_P hc, fR_P hc, pI_P hc, r0_P1 hc, aI_P1 hc, sI_P1 hc, r0_P2 hc, aI_P2 hc, sI_P2 hc, r0_P3 hc, aI_P3 hc, sI_P3 hc, r0_P4 hc, aI_P4 hc, sI_P4 hc, r0_P5 hc, aI_P5 hc, sI_P5 hc, r0_P6 hc, aI_P6 hc, sI_P6 hc, r0_P7 hc, aI_P7 hc, sI_P7 hc, ↓dn d1, ↓dn d2, w_bind, w_bd2, b01_eq0, b01_ok, b01_ok2, w_lt, w_le, w_eq, w_mlt, w_mle, w_ltm, w_lem, w_meq, w_eqm, w_mm, w_mmlt, w_mmle, nI_add, w_sub, pk_mul, w_div, w_rem, w_and, w_or, w_shr, w_shl1, w_a31, w_andn, ↓reduceIte, Nat.reduceAdd, Nat.reduceEqDiff, Nat.zero_lt_one, Nat.not_lt_zero, Nat.one_ne_zero, Nat.zero_ne_one, not_true_eq_false, not_false_eq_true, Bool.false_eq_true, Bool.true_eq_false, n_leT, n_leF, n_ltT, n_ltF, n_eqT, n_eqF, and_true, true_and, and_false, false_and, or_true, true_or, or_false, false_or, not_true_eq_false, not_false_eq_true, aS_B k hk, a8, a9, shF_0]
  by_cases z1 : isSh k = true
  · by_cases z2 : shN P (Pn P) < 2
    · by_cases z3 : 16 ≤ Pn P
      · simp [z1, z2, z3, show ¬ Pn P < 16 by omega]
      · simp [z1, z2, z3, show Pn P < 16 by omega]
    · by_cases z3 : 16 ≤ Pn P
      · simp [z1, z2, z3, show ¬ Pn P < 16 by omega]
      · simp [z1, z2, z3, show Pn P < 16 by omega]
  · by_cases z3 : 16 ≤ Pn P
    · simp [z1, z3, show ¬ Pn P < 16 by omega]
    · simp [z1, z3, show Pn P < 16 by omega]
end PlanOps
