/-! the class: a way more; the plan anew -/
section Put
variable {FU c : Nat} {P : Pln} {I J : Nat → Nat → Int32} {pl nm hd rd : Option Nat}
theorem c_put (hc : c = 1 ∨ c = 9) (hP : PlC c P I) (hW : WfP P) {k a b : Nat} (hk : k < 6) (ha : a < Pp P) (hb : b < Pp P) (hab : a ≠ b) (hn : Pn P < 16) (hs : isSh k = true → shN P (Pn P) < 2) : ∃ J, fX3_put FU c (nI k) (nI a) (nI b) (I, R0 pl nm hd rd) = some (nI (Pn P), (J, R0 pl nm hd rd)) ∧ PlC c (addW P k a b) J ∧ J c 12 = I c 12 + nI 1 ∧ (∀ j, j < c ∨ c + 7 < j → J j = I j) := by
  have hp := wf_p hW
  have h2 := wf_sh hW
  have d1 := c_refusal (FU := FU) (pl := pl) (nm := nm) (hd := hd) (rd := rd) hc hP hW hk ha hb hab
  rw [if_pos ⟨hn, hs⟩] at d1
  obtain ⟨p0, p8, p9, p10, p11, pk, pa, pb, po, pf, pg, pN⟩ := hP
  have na := pN a ha
  have nb := pN b hb
  have nla := nearM_lt P a
  have nlb := nearM_lt P b
  have hf := shF_le k
  have pwa : 2 ^ a < 256 := pw_lt (by omega)
  have pwb : 2 ^ b < 256 := pw_lt (by omega)
  -- the new plan out of the rows
  have mkP : ∀ T : Nat → Nat → Int32, T c 0 = I c 0 → T c 8 = nI (Pn P + 1) → T c 9 = nI (shN P (Pn P) + if isSh k = true then 1 else 0) → T c 10 = I c 10 → T c 11 = I c 11 → (∀ w, w < Pn P → T (c + 1) w = I (c + 1) w) → T (c + 1) (Pn P) = nI k → (∀ w, w < Pn P → T (c + 2) w = I (c + 2) w) → T (c + 2) (Pn P) = nI a → (∀ w, w < Pn P → T (c + 3) w = I (c + 3) w) → T (c + 3) (Pn P) = nI b → (∀ w, w < Pn P → T (c + 4) w = I (c + 4) w) → T (c + 4) (Pn P) = oI (if isSh k = true then some (shN P (Pn P)) else none) → (∀ j, j < shN P (Pn P) → T (c + 5) j = I (c + 5) j) → (isSh k = true → T (c + 5) (shN P (Pn P)) = nI (shF k)) → (∀ x, x < Pp P → T (c + 6) x = I (c + 6) x) → (∀ x, x < Pp P → x ≠ a → x ≠ b → T (c + 7) x = I (c + 7) x) → T (c + 7) a = nI (nearM P a ||| 2 ^ b) → T (c + 7) b = nI (nearM P b ||| 2 ^ a) → PlC c (addW P k a b) T := by
    intro T t0 t8 t9 t10 t11 t1 t1n t2 t2n t3 t3n t4 t4n t5 t5n t6 t7 t7a t7b
    refine ⟨by rw [t0, p0]; rfl, t8, ?_, by rw [t10, p10]; rfl, by rw [t11, p11]; rfl, fun w hw => ?_, fun w hw => ?_, fun w hw => ?_, fun w hw => ?_, fun w j hw e => ?_, fun x hx => ?_, fun x hx => ?_⟩
    · rw [t9]; exact congrArg nI (shN_addN k a b).symm
    · have hw : w < Pn P + 1 := hw
      show T (c + 1) w = nI (va_up (Pk P) (Pn P) k w)
      by_cases z : w = Pn P
      · subst z; rw [va_1, t1n]
      · rw [va_o z, t1 w (by omega), pk w (by omega)]
    · have hw : w < Pn P + 1 := hw
      show T (c + 2) w = nI (va_up (Pa P) (Pn P) a w)
      by_cases z : w = Pn P
      · subst z; rw [va_1, t2n]
      · rw [va_o z, t2 w (by omega), pa w (by omega)]
    · have hw : w < Pn P + 1 := hw
      show T (c + 3) w = nI (va_up (Pb P) (Pn P) b w)
      by_cases z : w = Pn P
      · subst z; rw [va_1, t3n]
      · rw [va_o z, t3 w (by omega), pb w (by omega)]
    · have hw : w < Pn P + 1 := hw
      by_cases z : w = Pn P
      · subst z; rw [t4n, shO_addN]
      · rw [t4 w (by omega), po w (by omega), shO_add k a b w (by omega)]
    · have hw : w < Pn P + 1 := hw
      show T (c + 5) j = nI (shF (va_up (Pk P) (Pn P) k w))
      by_cases z : w = Pn P
      · subst z
        rw [shO_addN] at e
        by_cases y : isSh k = true
        · rw [if_pos y] at e
          have e := Option.some.inj e
          rw [va_1, ← e]
          exact t5n y
        · rw [if_neg y] at e; cases e
      · rw [shO_add k a b w (by omega)] at e
        rw [va_o z, t5 j (shO_lt (by omega) e), pf w j (by omega) e]
    · rw [t6 x hx, pg x hx]; rfl
    · rw [near_add x (by omega) (by omega) hab]
      by_cases z1 : x = a
      · subst z1; rw [t7a, if_pos rfl]
      · by_cases z2 : x = b
        · subst z2; rw [t7b, if_neg z1, if_pos rfl]
        · rw [t7 x hx z1 z2, pN x hx, if_neg z1, if_neg z2, Nat.or_zero]
  unfold fX3_put fX3_put_b99
  by_cases z : isSh k = true
  · have z0 := hs z
    have z1 : ¬ shF k ≤ 0 := by rw [shF_0]; exact fun y => y z
    simp only [z, if_true] at mkP
    refine ⟨up2 (up2 (up2 (up2 (up2 (up2 (up2 (up2 (up2 (up2 (up2 I (c + 1) (Pn P) (nI k)) (c + 2) (Pn P) (nI a)) (c + 3) (Pn P) (nI b)) (c + 4) (Pn P) (mI 1)) (c + 5) (shN P (Pn P)) (nI (shF k))) c 9 (nI (shN P (Pn P) + 1))) (c + 4) (Pn P) (nI (shN P (Pn P)))) (c + 7) a (nI (nearM P a ||| 2 ^ b))) (c + 7) b (nI (nearM P b ||| 2 ^ a))) c 12 (I c 12 + nI 1)) c 8 (nI (Pn P + 1)), ?_, ?_, ?_, ?_⟩
    · simp (discharger := omega) only [li_0, li_1, li_2, li_3, li_4, li_5, li_6, li_7, li_8, li_9, li_10, li_11, li_12, li_13, li_14, li_15, li_16, li_17, li_18, li_19, li_20, li_21, li_22, li_23, li_24, li_25, li_26, li_27, li_28, li_29, li_30, li_31, li_32, li_33, li_34, li_35, li_36, li_37, li_38, li_39, li_40, li_41, li_42, li_43, li_44, li_45, li_46, li_47, li_48, li_49, li_50, li_51, li_52, li_53, li_54, li_55, li_56, li_57, li_58, li_59, li_60, li_61, li_62, li_63, li_64, li_65, li_66, li_67, li_68, li_69, li_70, li_71, li_72, li_73, li_74, li_75, li_76, li_77, li_78, li_79, li_80, li_81, li_82, li_83, li_84, li_85, li_86, li_87, li_88, li_89, li_90, li_91, li_92, li_93, li_94, li_95, li_96, li_97, li_98, li_99, li_100, li_101, li_102, li_103, li_104, li_105, li_106, li_107, li_108, li_109, li_110, li_111, li_112, li_113, li_114, li_115, li_116, li_117, li_118, li_119, li_120, li_121, li_122, li_123, li_124, li_125, li_126, li_127, li_128, li_144, li_150, li_200, li_255, li_384, li_512, li_999, li_1000, li_1024, li_1152, li_1920, li_3776, li_4096, li_9216, li_10000, li_100000, li_1073741824, li_m, ↓rcb_P hc, ↓fIb_P hc, ↓pIb_P hc, ↓fRb_P1 hc, ↓aIb_P1 hc, ↓sIb_P1 hc, ↓fRb_P2 hc, ↓aIb_P2 hc, ↓sIb_P2 hc, ↓fRb_P3 hc, ↓aIb_P3 hc, ↓sIb_P3 hc, ↓fRb_P4 hc, ↓aIb_P4 hc, ↓sIb_P4 hc, ↓fRb_P5 hc, ↓aIb_P5 hc, ↓sIb_P5 hc, ↓fRb_P6 hc, ↓aIb_P6 hc, ↓sIb_P6 hc, ↓fRb_P7 hc, ↓aIb_P7 hc, ↓sIb_P7 hc, rc_P hc, fI_P hc, fR_P hc, pI_P hc, r0_P1 hc, aI_P1 hc, sI_P1 hc, r0_P2 hc, aI_P2 hc, sI_P2 hc, r0_P3 hc, aI_P3 hc, sI_P3 hc, r0_P4 hc, aI_P4 hc, sI_P4 hc, r0_P5 hc, aI_P5 hc, sI_P5 hc, r0_P6 hc, aI_P6 hc, sI_P6 hc, r0_P7 hc, aI_P7 hc, sI_P7 hc, ↓dn d1, w_bind, w_bd2, b01_eq0, b01_ok, b01_ok2, w_lt, w_le, w_eq, w_mlt, w_mle, w_ltm, w_lem, w_meq, w_eqm, w_mm, w_mmlt, w_mmle, nI_add, w_sub, pk_mul, w_div, w_rem, w_and, w_or, w_shr, w_shl1, w_a31, w_andn, ↓reduceIte, Nat.reduceAdd, Nat.reduceEqDiff, Nat.zero_lt_one, Nat.not_lt_zero, Nat.one_ne_zero, Nat.zero_ne_one, not_true_eq_false, not_false_eq_true, Bool.false_eq_true, Bool.true_eq_false, n_leT, n_leF, n_ltT, n_ltF, n_eqT, n_eqF, and_true, true_and, and_false, false_and, or_true, true_or, or_false, false_or, not_true_eq_false, not_false_eq_true, aS_B k hk, p8, p9, na, nb, up2_if, z1]
    · apply mkP <;> intros <;> simp (discharger := omega) only [up2_if, n_leT, n_leF, n_ltT, n_ltF, n_eqT, n_eqF, and_true, true_and, and_false, false_and, or_true, true_or, or_false, false_or, not_true_eq_false, not_false_eq_true, ↓reduceIte, Nat.reduceAdd, Nat.reduceEqDiff, Nat.zero_lt_one, Nat.not_lt_zero, Nat.one_ne_zero, Nat.zero_ne_one, not_true_eq_false, not_false_eq_true, Bool.false_eq_true, Bool.true_eq_false, oI_some]
    · simp (discharger := omega) only [up2_if, n_leT, n_leF, n_ltT, n_ltF, n_eqT, n_eqF, and_true, true_and, and_false, false_and, or_true, true_or, or_false, false_or, not_true_eq_false, not_false_eq_true, ↓reduceIte, Nat.reduceAdd, Nat.reduceEqDiff, Nat.zero_lt_one, Nat.not_lt_zero, Nat.one_ne_zero, Nat.zero_ne_one, not_true_eq_false, not_false_eq_true, Bool.false_eq_true, Bool.true_eq_false]
    · intro j hj
      rw [up2_ne (by omega), up2_ne (by omega), up2_ne (by omega), up2_ne (by omega), up2_ne (by omega), up2_ne (by omega), up2_ne (by omega), up2_ne (by omega), up2_ne (by omega), up2_ne (by omega), up2_ne (by omega)]
  · have z1 : shF k ≤ 0 := by rw [shF_0]; exact z
    have z2 : isSh k = false := by simpa using z
    simp only [z2, Bool.false_eq_true, if_false, Nat.add_zero] at mkP
    refine ⟨up2 (up2 (up2 (up2 (up2 (up2 (up2 (up2 I (c + 1) (Pn P) (nI k)) (c + 2) (Pn P) (nI a)) (c + 3) (Pn P) (nI b)) (c + 4) (Pn P) (mI 1)) (c + 7) a (nI (nearM P a ||| 2 ^ b))) (c + 7) b (nI (nearM P b ||| 2 ^ a))) c 12 (I c 12 + nI 1)) c 8 (nI (Pn P + 1)), ?_, ?_, ?_, ?_⟩
    · simp (discharger := omega) only [li_0, li_1, li_2, li_3, li_4, li_5, li_6, li_7, li_8, li_9, li_10, li_11, li_12, li_13, li_14, li_15, li_16, li_17, li_18, li_19, li_20, li_21, li_22, li_23, li_24, li_25, li_26, li_27, li_28, li_29, li_30, li_31, li_32, li_33, li_34, li_35, li_36, li_37, li_38, li_39, li_40, li_41, li_42, li_43, li_44, li_45, li_46, li_47, li_48, li_49, li_50, li_51, li_52, li_53, li_54, li_55, li_56, li_57, li_58, li_59, li_60, li_61, li_62, li_63, li_64, li_65, li_66, li_67, li_68, li_69, li_70, li_71, li_72, li_73, li_74, li_75, li_76, li_77, li_78, li_79, li_80, li_81, li_82, li_83, li_84, li_85, li_86, li_87, li_88, li_89, li_90, li_91, li_92, li_93, li_94, li_95, li_96, li_97, li_98, li_99, li_100, li_101, li_102, li_103, li_104, li_105, li_106, li_107, li_108, li_109, li_110, li_111, li_112, li_113, li_114, li_115, li_116, li_117, li_118, li_119, li_120, li_121, li_122, li_123, li_124, li_125, li_126, li_127, li_128, li_144, li_150, li_200, li_255, li_384, li_512, li_999, li_1000, li_1024, li_1152, li_1920, li_3776, li_4096, li_9216, li_10000, li_100000, li_1073741824, li_m, ↓rcb_P hc, ↓fIb_P hc, ↓pIb_P hc, ↓fRb_P1 hc, ↓aIb_P1 hc, ↓sIb_P1 hc, ↓fRb_P2 hc, ↓aIb_P2 hc, ↓sIb_P2 hc, ↓fRb_P3 hc, ↓aIb_P3 hc, ↓sIb_P3 hc, ↓fRb_P4 hc, ↓aIb_P4 hc, ↓sIb_P4 hc, ↓fRb_P5 hc, ↓aIb_P5 hc, ↓sIb_P5 hc, ↓fRb_P6 hc, ↓aIb_P6 hc, ↓sIb_P6 hc, ↓fRb_P7 hc, ↓aIb_P7 hc, ↓sIb_P7 hc, rc_P hc, fI_P hc, fR_P hc, pI_P hc, r0_P1 hc, aI_P1 hc, sI_P1 hc, r0_P2 hc, aI_P2 hc, sI_P2 hc, r0_P3 hc, aI_P3 hc, sI_P3 hc, r0_P4 hc, aI_P4 hc, sI_P4 hc, r0_P5 hc, aI_P5 hc, sI_P5 hc, r0_P6 hc, aI_P6 hc, sI_P6 hc, r0_P7 hc, aI_P7 hc, sI_P7 hc, ↓dn d1, w_bind, w_bd2, b01_eq0, b01_ok, b01_ok2, w_lt, w_le, w_eq, w_mlt, w_mle, w_ltm, w_lem, w_meq, w_eqm, w_mm, w_mmlt, w_mmle, nI_add, w_sub, pk_mul, w_div, w_rem, w_and, w_or, w_shr, w_shl1, w_a31, w_andn, ↓reduceIte, Nat.reduceAdd, Nat.reduceEqDiff, Nat.zero_lt_one, Nat.not_lt_zero, Nat.one_ne_zero, Nat.zero_ne_one, not_true_eq_false, not_false_eq_true, Bool.false_eq_true, Bool.true_eq_false, n_leT, n_leF, n_ltT, n_ltF, n_eqT, n_eqF, and_true, true_and, and_false, false_and, or_true, true_or, or_false, false_or, not_true_eq_false, not_false_eq_true, aS_B k hk, p8, p9, na, nb, up2_if, z1]
    · apply mkP <;> intros <;> first | contradiction | simp (discharger := omega) only [up2_if, n_leT, n_leF, n_ltT, n_ltF, n_eqT, n_eqF, and_true, true_and, and_false, false_and, or_true, true_or, or_false, false_or, not_true_eq_false, not_false_eq_true, ↓reduceIte, Nat.reduceAdd, Nat.reduceEqDiff, Nat.zero_lt_one, Nat.not_lt_zero, Nat.one_ne_zero, Nat.zero_ne_one, not_true_eq_false, not_false_eq_true, Bool.false_eq_true, Bool.true_eq_false, oI_none, p9]
    · simp (discharger := omega) only [up2_if, n_leT, n_leF, n_ltT, n_ltF, n_eqT, n_eqF, and_true, true_and, and_false, false_and, or_true, true_or, or_false, false_or, not_true_eq_false, not_false_eq_true, ↓reduceIte, Nat.reduceAdd, Nat.reduceEqDiff, Nat.zero_lt_one, Nat.not_lt_zero, Nat.one_ne_zero, Nat.zero_ne_one, not_true_eq_false, not_false_eq_true, Bool.false_eq_true, Bool.true_eq_false]
    · intro j hj
      rw [up2_ne (by omega), up2_ne (by omega), up2_ne (by omega), up2_ne (by omega), up2_ne (by omega), up2_ne (by omega), up2_ne (by omega), up2_ne (by omega)]
end Put
