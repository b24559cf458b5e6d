/-! hidden, the reference: what one round looks at -/
section Hid5
variable {FU ver : Nat} {P : Pln} {I J : Nat → Nat → Int32} {pl nm hd rd : Option Nat}
/-- prepared -/
def RPre (P : Pln) (J : Nat → Nat → Int32) : Prop := (∀ x, x < Pp P → J 71 x = nI (seeP P x)) ∧ (∀ h i x, h ≤ i → i < Pp P → x < Pp P → J 72 (64 * h + 8 * i + x) = nI (rch P x h i 0))
theorem RPre.congr (h : RPre P I) (e1 : J 71 = I 71) (e2 : J 72 = I 72) : RPre P J := by
  unfold RPre
  rw [e1, e2]
  exact h
theorem r_runsFrom (hF : 99999999 ≤ FU) (hR : PlR P J) (hW : WfP P) (hp' : RPre P J) {set h i : Nat} (hset : set < 256) (hhi : h ≤ i) (hi : i < Pp P) : fX9_runsFrom FU 60 (nI set) (nI h) (nI i) (J, R0 pl nm hd rd) = some (nI (runsS P set h i 0), (J, R0 pl nm hd rd)) := by
  have hp := wf_p hW
  have step : ∀ x, x < Pp P → ∀ F, fX9_runsFrom_L6 FU 60 (nI set) (nI h) (nI i) (F + 1) (nI (orS set (fun x => rch P x h i 0) x)) (nI x) (J, R0 pl nm hd rd) = fX9_runsFrom_L6 FU 60 (nI set) (nI h) (nI i) F (nI (orS set (fun x => rch P x h i 0) (x + 1))) (nI (x + 1)) (J, R0 pl nm hd rd) := by
    intro x hx F
    have f0 : ¬ nI (Pp P) ≤ nI x := by rw [w_le (by omega) (by omega)]; omega
    have c1 : ((nI set >>> (nI x &&& 31)) &&& (1 : Int32) = (1 : Int32)) = (set.testBit x = true) := by
      simp (discharger := omega) only [li_0, li_1, li_2, li_3, li_4, li_5, li_6, li_7, li_8, li_9, li_10, li_11, li_12, li_13, li_14, li_15, li_16, li_17, li_18, li_19, li_20, li_21, li_22, li_23, li_24, li_25, li_26, li_27, li_28, li_29, li_30, li_31, li_32, li_33, li_34, li_35, li_36, li_37, li_38, li_39, li_40, li_41, li_42, li_43, li_44, li_45, li_46, li_47, li_48, li_49, li_50, li_51, li_52, li_53, li_54, li_55, li_56, li_57, li_58, li_59, li_60, li_61, li_62, li_63, li_64, li_65, li_66, li_67, li_68, li_69, li_70, li_71, li_72, li_73, li_74, li_75, li_76, li_77, li_78, li_79, li_80, li_81, li_82, li_83, li_84, li_85, li_86, li_87, li_88, li_89, li_90, li_91, li_92, li_93, li_94, li_95, li_96, li_97, li_98, li_99, li_100, li_101, li_102, li_103, li_104, li_105, li_106, li_107, li_108, li_109, li_110, li_111, li_112, li_113, li_114, li_115, li_116, li_117, li_118, li_119, li_120, li_121, li_122, li_123, li_124, li_125, li_126, li_127, li_128, li_144, li_150, li_200, li_255, li_384, li_512, li_999, li_1000, li_1024, li_1152, li_1920, li_3776, li_4096, li_9216, li_10000, li_100000, li_1073741824, li_m, w_lt, w_le, w_eq, w_mlt, w_mle, w_ltm, w_lem, w_meq, w_eqm, w_mm, w_mmlt, w_mmle, nI_add, w_sub, pk_mul, w_div, w_rem, w_and, w_or, w_shr, w_shl1, w_a31, w_andn, w_a1, w_bit1]
    have e1 : ((64 : Int32) * nI h + (8 : Int32) * nI i) + nI x = nI (64 * h + 8 * i + x) := by simp (discharger := omega) only [li_0, li_1, li_2, li_3, li_4, li_5, li_6, li_7, li_8, li_9, li_10, li_11, li_12, li_13, li_14, li_15, li_16, li_17, li_18, li_19, li_20, li_21, li_22, li_23, li_24, li_25, li_26, li_27, li_28, li_29, li_30, li_31, li_32, li_33, li_34, li_35, li_36, li_37, li_38, li_39, li_40, li_41, li_42, li_43, li_44, li_45, li_46, li_47, li_48, li_49, li_50, li_51, li_52, li_53, li_54, li_55, li_56, li_57, li_58, li_59, li_60, li_61, li_62, li_63, li_64, li_65, li_66, li_67, li_68, li_69, li_70, li_71, li_72, li_73, li_74, li_75, li_76, li_77, li_78, li_79, li_80, li_81, li_82, li_83, li_84, li_85, li_86, li_87, li_88, li_89, li_90, li_91, li_92, li_93, li_94, li_95, li_96, li_97, li_98, li_99, li_100, li_101, li_102, li_103, li_104, li_105, li_106, li_107, li_108, li_109, li_110, li_111, li_112, li_113, li_114, li_115, li_116, li_117, li_118, li_119, li_120, li_121, li_122, li_123, li_124, li_125, li_126, li_127, li_128, li_144, li_150, li_200, li_255, li_384, li_512, li_999, li_1000, li_1024, li_1152, li_1920, li_3776, li_4096, li_9216, li_10000, li_100000, li_1073741824, li_m, w_lt, w_le, w_eq, w_mlt, w_mle, w_ltm, w_lem, w_meq, w_eqm, w_mm, w_mmlt, w_mmle, nI_add, w_sub, pk_mul, w_div, w_rem, w_and, w_or, w_shr, w_shl1, w_a31, w_andn]
    rw [fX9_runsFrom_L6, fIb_60, hR.1, if_neg f0, fRb_60_17, e1, aIb_72 (by omega), hp'.2 h i x hhi hi hx]
    unfold fX9_runsFrom_b47
    by_cases z : set.testBit x = true
    · have oy : orS set (fun x => rch P x h i 0) (x + 1) = orS set (fun x => rch P x h i 0) x ||| rch P x h i 0 := orS_y z (rch_lt _ _ _ _)
      rw [if_neg (by rw [c1]; exact fun h => h z), oy, w_or, li_1, nI_add]
    · have z2 : set.testBit x = false := by simpa using z
      rw [if_pos (by rw [c1]; exact z), orS_n z2, li_1, nI_add]
  have lp := lpU (fun F (q : Int32 × Int32 × Mem) => fX9_runsFrom_L6 FU 60 (nI set) (nI h) (nI i) F q.1 q.2.1 q.2.2) (fun x => (nI (orS set (fun x => rch P x h i 0) x), nI x, (J, R0 pl nm hd rd))) (Pp P) step (Pp P) 0 FU (by omega) (by omega)
  simp only at lp
  obtain ⟨G, hG⟩ : ∃ G, FU - Pp P = G + 1 := ⟨FU - Pp P - 1, by omega⟩
  rw [orS_0] at lp
  have lp : fX9_runsFrom FU 60 (nI set) (nI h) (nI i) (J, R0 pl nm hd rd) = _ := lp
  rw [lp, hG, fX9_runsFrom_L6, fIb_60, hR.1, if_pos (by rw [w_le (by omega) (by omega)]; omega)]
  rfl
/-- the table says of a pair what is sure below k -/
def RTb (P : Pln) (k h i : Nat) (T : Nat → Bool) (J : Nat → Nat → Int32) : Prop := ∀ s, s < 2 ^ Pp P → ((J 70 ((8 * h + i) * 64 + s) < nI k) = (T s = true))
theorem r_allDone (hF : 99999999 ≤ FU) (hR : PlR P J) (hW : WfP P) (p6 : Pp P ≤ 6) (hp' : RPre P J) {set h i k : Nat} {T : Nat → Bool} (hset : set < 2 ^ Pp P) (hhi : h ≤ i) (hi : i < Pp P) (hT : RTb P k h i T J) : fX9_allDone FU 60 (nI set) (nI h) (nI i) (nI k) (J, R0 pl nm hd rd) = some (b01 (alD P T (seeH P h i) set = true), (J, R0 pl nm hd rd)) := by
  have hp := wf_p hW
  have p64 : 2 ^ Pp P ≤ 64 := Nat.pow_le_pow_right (n := 2) (by decide) p6
  have sl := seeH_lt hW (h := h) (i := i) (by omega) hi
  have loop : ∀ d y F, d + y = Pp P → d < F → fX9_allDone_L18 FU 60 (nI set) (nI h) (nI i) (nI k) (nI (seeH P h i)) F (nI y) (J, R0 pl nm hd rd) = some (b01 ((allF (fun y => !(set.testBit y && (seeH P h i).testBit y) || T (2 ^ y)) y d && T (andn set (seeH P h i))) = true), (J, R0 pl nm hd rd)) := by
    intro d
    induction d with
    | zero =>
      intro y F h1 h2
      obtain ⟨G, rfl⟩ : ∃ G, F = G + 1 := ⟨F - 1, by omega⟩
      have al := andn_le set (seeH P h i)
      have e1 : ((8 : Int32) * nI h + nI i) * (64 : Int32) + (nI set &&& (nI (seeH P h i) ^^^ (-1 : Int32))) = nI ((8 * h + i) * 64 + andn set (seeH P h i)) := by
        clear hT hp'
        simp (discharger := omega) only [li_0, li_1, li_2, li_3, li_4, li_5, li_6, li_7, li_8, li_9, li_10, li_11, li_12, li_13, li_14, li_15, li_16, li_17, li_18, li_19, li_20, li_21, li_22, li_23, li_24, li_25, li_26, li_27, li_28, li_29, li_30, li_31, li_32, li_33, li_34, li_35, li_36, li_37, li_38, li_39, li_40, li_41, li_42, li_43, li_44, li_45, li_46, li_47, li_48, li_49, li_50, li_51, li_52, li_53, li_54, li_55, li_56, li_57, li_58, li_59, li_60, li_61, li_62, li_63, li_64, li_65, li_66, li_67, li_68, li_69, li_70, li_71, li_72, li_73, li_74, li_75, li_76, li_77, li_78, li_79, li_80, li_81, li_82, li_83, li_84, li_85, li_86, li_87, li_88, li_89, li_90, li_91, li_92, li_93, li_94, li_95, li_96, li_97, li_98, li_99, li_100, li_101, li_102, li_103, li_104, li_105, li_106, li_107, li_108, li_109, li_110, li_111, li_112, li_113, li_114, li_115, li_116, li_117, li_118, li_119, li_120, li_121, li_122, li_123, li_124, li_125, li_126, li_127, li_128, li_144, li_150, li_200, li_255, li_384, li_512, li_999, li_1000, li_1024, li_1152, li_1920, li_3776, li_4096, li_9216, li_10000, li_100000, li_1073741824, li_m, w_lt, w_le, w_eq, w_mlt, w_mle, w_ltm, w_lem, w_meq, w_eqm, w_mm, w_mmlt, w_mmle, nI_add, w_sub, pk_mul, w_div, w_rem, w_and, w_or, w_shr, w_shl1, w_a31, w_andn]
      rw [fX9_allDone_L18, fIb_60, hR.1, if_pos (by rw [w_le (by omega) (by omega)]; omega), fRb_60_14, show rc 9 (some 60) = some 60 from rfl, w_bind]
      unfold fX9_hidden
      rw [w_bd2, e1, aIb_70 (by omega)]
      have q := hT (andn set (seeH P h i)) (by omega)
      show _ = some (b01 ((true && T (andn set (seeH P h i))) = true), (J, R0 pl nm hd rd))
      rw [Bool.true_and]
      by_cases w : T (andn set (seeH P h i)) = true
      · have q2 : J 70 ((8 * h + i) * 64 + andn set (seeH P h i)) < nI k := by rw [q]; exact w
        rw [if_neg (Int32.not_le.mpr q2), b01_pos w]
        rfl
      · have q2 : ¬ J 70 ((8 * h + i) * 64 + andn set (seeH P h i)) < nI k := by rw [q]; exact w
        rw [if_pos (Int32.not_lt.mp q2), b01_neg w]
        rfl
    | succ d ih =>
      intro y F h1 h2
      obtain ⟨G, rfl⟩ : ∃ G, F = G + 1 := ⟨F - 1, by omega⟩
      have f0 : ¬ nI (Pp P) ≤ nI y := by rw [w_le (by omega) (by omega)]; omega
      have hy := pw_p (x := y) (p := Pp P) (by omega) p6
      have c1 : (((nI set &&& nI (seeH P h i)) >>> (nI y &&& 31)) &&& (1 : Int32) = (1 : Int32)) = ((set.testBit y && (seeH P h i).testBit y) = true) := by
        rw [← Nat.testBit_and]
        have l : set &&& seeH P h i < 2 ^ 31 := Nat.lt_of_le_of_lt Nat.and_le_left (by omega)
        clear hT hp' ih
        simp (discharger := omega) only [li_0, li_1, li_2, li_3, li_4, li_5, li_6, li_7, li_8, li_9, li_10, li_11, li_12, li_13, li_14, li_15, li_16, li_17, li_18, li_19, li_20, li_21, li_22, li_23, li_24, li_25, li_26, li_27, li_28, li_29, li_30, li_31, li_32, li_33, li_34, li_35, li_36, li_37, li_38, li_39, li_40, li_41, li_42, li_43, li_44, li_45, li_46, li_47, li_48, li_49, li_50, li_51, li_52, li_53, li_54, li_55, li_56, li_57, li_58, li_59, li_60, li_61, li_62, li_63, li_64, li_65, li_66, li_67, li_68, li_69, li_70, li_71, li_72, li_73, li_74, li_75, li_76, li_77, li_78, li_79, li_80, li_81, li_82, li_83, li_84, li_85, li_86, li_87, li_88, li_89, li_90, li_91, li_92, li_93, li_94, li_95, li_96, li_97, li_98, li_99, li_100, li_101, li_102, li_103, li_104, li_105, li_106, li_107, li_108, li_109, li_110, li_111, li_112, li_113, li_114, li_115, li_116, li_117, li_118, li_119, li_120, li_121, li_122, li_123, li_124, li_125, li_126, li_127, li_128, li_144, li_150, li_200, li_255, li_384, li_512, li_999, li_1000, li_1024, li_1152, li_1920, li_3776, li_4096, li_9216, li_10000, li_100000, li_1073741824, li_m, w_lt, w_le, w_eq, w_mlt, w_mle, w_ltm, w_lem, w_meq, w_eqm, w_mm, w_mmlt, w_mmle, nI_add, w_sub, pk_mul, w_div, w_rem, w_and, w_or, w_shr, w_shl1, w_a31, w_andn, w_a1, w_bit1]
      have e1 : ((8 : Int32) * nI h + nI i) * (64 : Int32) + (1 : Int32) <<< (nI y &&& 31) = nI ((8 * h + i) * 64 + 2 ^ y) := by
        clear hT hp' ih
        simp (discharger := omega) only [li_0, li_1, li_2, li_3, li_4, li_5, li_6, li_7, li_8, li_9, li_10, li_11, li_12, li_13, li_14, li_15, li_16, li_17, li_18, li_19, li_20, li_21, li_22, li_23, li_24, li_25, li_26, li_27, li_28, li_29, li_30, li_31, li_32, li_33, li_34, li_35, li_36, li_37, li_38, li_39, li_40, li_41, li_42, li_43, li_44, li_45, li_46, li_47, li_48, li_49, li_50, li_51, li_52, li_53, li_54, li_55, li_56, li_57, li_58, li_59, li_60, li_61, li_62, li_63, li_64, li_65, li_66, li_67, li_68, li_69, li_70, li_71, li_72, li_73, li_74, li_75, li_76, li_77, li_78, li_79, li_80, li_81, li_82, li_83, li_84, li_85, li_86, li_87, li_88, li_89, li_90, li_91, li_92, li_93, li_94, li_95, li_96, li_97, li_98, li_99, li_100, li_101, li_102, li_103, li_104, li_105, li_106, li_107, li_108, li_109, li_110, li_111, li_112, li_113, li_114, li_115, li_116, li_117, li_118, li_119, li_120, li_121, li_122, li_123, li_124, li_125, li_126, li_127, li_128, li_144, li_150, li_200, li_255, li_384, li_512, li_999, li_1000, li_1024, li_1152, li_1920, li_3776, li_4096, li_9216, li_10000, li_100000, li_1073741824, li_m, w_lt, w_le, w_eq, w_mlt, w_mle, w_ltm, w_lem, w_meq, w_eqm, w_mm, w_mmlt, w_mmle, nI_add, w_sub, pk_mul, w_div, w_rem, w_and, w_or, w_shr, w_shl1, w_a31, w_andn]
      have nx := ih (y + 1) G (by omega) (by omega)
      have st : allF (fun y => !(set.testBit y && (seeH P h i).testBit y) || T (2 ^ y)) y (d + 1) = ((!(set.testBit y && (seeH P h i).testBit y) || T (2 ^ y)) && allF (fun y => !(set.testBit y && (seeH P h i).testBit y) || T (2 ^ y)) (y + 1) d) := rfl
      rw [fX9_allDone_L18, fIb_60, hR.1, if_neg f0, st]
      unfold fX9_allDone_b62
      by_cases z : (set.testBit y && (seeH P h i).testBit y) = true
      · rw [if_neg (by rw [c1]; exact fun h => h z), fRb_60_14, show rc 9 (some 60) = some 60 from rfl, w_bind]
        unfold fX9_hidden
        rw [w_bd2, e1, aIb_70 (by omega), z]
        have q := hT (2 ^ y) hy.1
        by_cases w : T (2 ^ y) = true
        · rw [if_pos (by rw [q]; exact w), li_1, nI_add, nx, w]
          rfl
        · have w2 : T (2 ^ y) = false := by simpa using w
          rw [if_neg (by rw [q]; exact w), w2]
          rfl
      · have z2 : (set.testBit y && (seeH P h i).testBit y) = false := by simpa using z
        rw [if_pos (by rw [c1]; exact z), li_1, nI_add, nx, z2]
        rfl
  have l0 := loop (Pp P) 0 FU (by omega) (by omega)
  unfold fX9_allDone
  rw [fRb_60_16, aIb_71 (by omega), hp'.1 h (by omega), fRb_60_16, aIb_71 (by omega), hp'.1 i hi, w_or, li_0]
  have l0 : fX9_allDone_L18 FU 60 (nI set) (nI h) (nI i) (nI k) (nI (seeP P h ||| seeP P i)) FU (nI 0) (J, R0 pl nm hd rd) = _ := l0
  rw [l0]
  unfold alD
  rw [Bool.and_comm]
theorem r_isDone (hF : 99999999 ≤ FU) (hR : PlR P J) (hW : WfP P) (p6 : Pp P ≤ 6) (hp' : RPre P J) {set h i k : Nat} {T : Nat → Bool} (hset : set < 2 ^ Pp P) (hhi : h ≤ i) (hi : i < Pp P) (hT : RTb P k h i T J) : fX9_isDone FU 60 (nI set) (nI h) (nI i) (nI k) (J, R0 pl nm hd rd) = some (b01 (isM P T h i (andn set (plcM h i)) = true), (J, R0 pl nm hd rd)) := by
  have hp := wf_p hW
  have p64 : 2 ^ Pp P ≤ 64 := Nat.pow_le_pow_right (n := 2) (by decide) p6
  have sl := seeH_lt hW (h := h) (i := i) (by omega) hi
  have e0 : nI set &&& ((((1 : Int32) <<< (nI h &&& 31)) ||| ((1 : Int32) <<< (nI i &&& 31))) ^^^ (-1 : Int32)) = nI (andn set (plcM h i)) := by
    unfold plcM
    clear hT hp'
    simp (discharger := omega) only [li_0, li_1, li_2, li_3, li_4, li_5, li_6, li_7, li_8, li_9, li_10, li_11, li_12, li_13, li_14, li_15, li_16, li_17, li_18, li_19, li_20, li_21, li_22, li_23, li_24, li_25, li_26, li_27, li_28, li_29, li_30, li_31, li_32, li_33, li_34, li_35, li_36, li_37, li_38, li_39, li_40, li_41, li_42, li_43, li_44, li_45, li_46, li_47, li_48, li_49, li_50, li_51, li_52, li_53, li_54, li_55, li_56, li_57, li_58, li_59, li_60, li_61, li_62, li_63, li_64, li_65, li_66, li_67, li_68, li_69, li_70, li_71, li_72, li_73, li_74, li_75, li_76, li_77, li_78, li_79, li_80, li_81, li_82, li_83, li_84, li_85, li_86, li_87, li_88, li_89, li_90, li_91, li_92, li_93, li_94, li_95, li_96, li_97, li_98, li_99, li_100, li_101, li_102, li_103, li_104, li_105, li_106, li_107, li_108, li_109, li_110, li_111, li_112, li_113, li_114, li_115, li_116, li_117, li_118, li_119, li_120, li_121, li_122, li_123, li_124, li_125, li_126, li_127, li_128, li_144, li_150, li_200, li_255, li_384, li_512, li_999, li_1000, li_1024, li_1152, li_1920, li_3776, li_4096, li_9216, li_10000, li_100000, li_1073741824, li_m, w_lt, w_le, w_eq, w_mlt, w_mle, w_ltm, w_lem, w_meq, w_eqm, w_mm, w_mmlt, w_mmle, nI_add, w_sub, pk_mul, w_div, w_rem, w_and, w_or, w_shr, w_shl1, w_a31, w_andn]
  have al := andn_le set (plcM h i)
  unfold fX9_isDone
  rw [fRb_60_16, aIb_71 (by omega), hp'.1 h (by omega), fRb_60_16, aIb_71 (by omega), hp'.1 i hi, w_or, e0, li_0]
  generalize andn set (plcM h i) = lf at al ⊢
  have loop : ∀ d y F, d + y = Pp P → d < F → fX9_isDone_L31 FU 60 (nI h) (nI i) (nI k) (nI lf) (nI (seeH P h i)) F (nI y) (J, R0 pl nm hd rd) = some (b01 ((allF (fun x => !(lf.testBit x && (seeH P h i).testBit x) || alD P T (seeH P h i) (rch P x h i 0)) y d && alD P T (seeH P h i) (runsS P (andn lf (seeH P h i)) h i 0)) = true), (J, R0 pl nm hd rd)) := by
    intro d
    induction d with
    | zero =>
      intro y F h1 h2
      obtain ⟨G, rfl⟩ : ∃ G, F = G + 1 := ⟨F - 1, by omega⟩
      have al2 := andn_le lf (seeH P h i)
      have e1 : nI lf &&& (nI (seeH P h i) ^^^ (-1 : Int32)) = nI (andn lf (seeH P h i)) := by rw [show (-1 : Int32) = mI 1 from rfl, w_andn]
      have d1 := r_runsFrom (FU := FU) (pl := pl) (nm := nm) (hd := hd) (rd := rd) hF hR hW hp' (set := andn lf (seeH P h i)) (by omega) hhi hi
      have d2 := r_allDone (FU := FU) (pl := pl) (nm := nm) (hd := hd) (rd := rd) hF hR hW p6 hp' (set := runsS P (andn lf (seeH P h i)) h i 0) (runsS_ltp hW) hhi hi hT
      rw [fX9_isDone_L31, fIb_60, hR.1, if_pos (by rw [w_le (by omega) (by omega)]; omega), show rc 9 (some 60) = some 60 from rfl, w_bind, e1, dn d1, w_bind, dn d2]
      show _ = some (b01 ((true && alD P T (seeH P h i) (runsS P (andn lf (seeH P h i)) h i 0)) = true), (J, R0 pl nm hd rd))
      rw [Bool.true_and, if_pos]
      unfold b01
      split
      · exact Or.inr rfl
      · exact Or.inl rfl
    | succ d ih =>
      intro y F h1 h2
      obtain ⟨G, rfl⟩ : ∃ G, F = G + 1 := ⟨F - 1, by omega⟩
      have f0 : ¬ nI (Pp P) ≤ nI y := by rw [w_le (by omega) (by omega)]; omega
      have c1 : (((nI lf &&& nI (seeH P h i)) >>> (nI y &&& 31)) &&& (1 : Int32) = (1 : Int32)) = ((lf.testBit y && (seeH P h i).testBit y) = true) := by
        rw [← Nat.testBit_and]
        have l : lf &&& seeH P h i < 2 ^ 31 := Nat.lt_of_le_of_lt Nat.and_le_left (by omega)
        clear hT hp' ih
        simp (discharger := omega) only [li_0, li_1, li_2, li_3, li_4, li_5, li_6, li_7, li_8, li_9, li_10, li_11, li_12, li_13, li_14, li_15, li_16, li_17, li_18, li_19, li_20, li_21, li_22, li_23, li_24, li_25, li_26, li_27, li_28, li_29, li_30, li_31, li_32, li_33, li_34, li_35, li_36, li_37, li_38, li_39, li_40, li_41, li_42, li_43, li_44, li_45, li_46, li_47, li_48, li_49, li_50, li_51, li_52, li_53, li_54, li_55, li_56, li_57, li_58, li_59, li_60, li_61, li_62, li_63, li_64, li_65, li_66, li_67, li_68, li_69, li_70, li_71, li_72, li_73, li_74, li_75, li_76, li_77, li_78, li_79, li_80, li_81, li_82, li_83, li_84, li_85, li_86, li_87, li_88, li_89, li_90, li_91, li_92, li_93, li_94, li_95, li_96, li_97, li_98, li_99, li_100, li_101, li_102, li_103, li_104, li_105, li_106, li_107, li_108, li_109, li_110, li_111, li_112, li_113, li_114, li_115, li_116, li_117, li_118, li_119, li_120, li_121, li_122, li_123, li_124, li_125, li_126, li_127, li_128, li_144, li_150, li_200, li_255, li_384, li_512, li_999, li_1000, li_1024, li_1152, li_1920, li_3776, li_4096, li_9216, li_10000, li_100000, li_1073741824, li_m, w_lt, w_le, w_eq, w_mlt, w_mle, w_ltm, w_lem, w_meq, w_eqm, w_mm, w_mmlt, w_mmle, nI_add, w_sub, pk_mul, w_div, w_rem, w_and, w_or, w_shr, w_shl1, w_a31, w_andn, w_a1, w_bit1]
      have e1 : ((64 : Int32) * nI h + (8 : Int32) * nI i) + nI y = nI (64 * h + 8 * i + y) := by simp (discharger := omega) only [li_0, li_1, li_2, li_3, li_4, li_5, li_6, li_7, li_8, li_9, li_10, li_11, li_12, li_13, li_14, li_15, li_16, li_17, li_18, li_19, li_20, li_21, li_22, li_23, li_24, li_25, li_26, li_27, li_28, li_29, li_30, li_31, li_32, li_33, li_34, li_35, li_36, li_37, li_38, li_39, li_40, li_41, li_42, li_43, li_44, li_45, li_46, li_47, li_48, li_49, li_50, li_51, li_52, li_53, li_54, li_55, li_56, li_57, li_58, li_59, li_60, li_61, li_62, li_63, li_64, li_65, li_66, li_67, li_68, li_69, li_70, li_71, li_72, li_73, li_74, li_75, li_76, li_77, li_78, li_79, li_80, li_81, li_82, li_83, li_84, li_85, li_86, li_87, li_88, li_89, li_90, li_91, li_92, li_93, li_94, li_95, li_96, li_97, li_98, li_99, li_100, li_101, li_102, li_103, li_104, li_105, li_106, li_107, li_108, li_109, li_110, li_111, li_112, li_113, li_114, li_115, li_116, li_117, li_118, li_119, li_120, li_121, li_122, li_123, li_124, li_125, li_126, li_127, li_128, li_144, li_150, li_200, li_255, li_384, li_512, li_999, li_1000, li_1024, li_1152, li_1920, li_3776, li_4096, li_9216, li_10000, li_100000, li_1073741824, li_m, w_lt, w_le, w_eq, w_mlt, w_mle, w_ltm, w_lem, w_meq, w_eqm, w_mm, w_mmlt, w_mmle, nI_add, w_sub, pk_mul, w_div, w_rem, w_and, w_or, w_shr, w_shl1, w_a31, w_andn]
      have nx := ih (y + 1) G (by omega) (by omega)
      have d2 := r_allDone (FU := FU) (pl := pl) (nm := nm) (hd := hd) (rd := rd) hF hR hW p6 hp' (set := rch P y h i 0) (rch_ltp hW (by omega)) hhi hi hT
      have st : allF (fun x => !(lf.testBit x && (seeH P h i).testBit x) || alD P T (seeH P h i) (rch P x h i 0)) y (d + 1) = ((!(lf.testBit y && (seeH P h i).testBit y) || alD P T (seeH P h i) (rch P y h i 0)) && allF (fun x => !(lf.testBit x && (seeH P h i).testBit x) || alD P T (seeH P h i) (rch P x h i 0)) (y + 1) d) := rfl
      rw [fX9_isDone_L31, fIb_60, hR.1, if_neg f0, st]
      unfold fX9_isDone_b84
      by_cases z : (lf.testBit y && (seeH P h i).testBit y) = true
      · rw [if_neg (by rw [c1]; exact fun h => h z), fRb_60_17, e1, aIb_72 (by omega), hp'.2 h i y hhi hi (by omega), show rc 9 (some 60) = some 60 from rfl, w_bind, dn d2, z]
        by_cases w : alD P T (seeH P h i) (rch P y h i 0) = true
        · rw [b01_pos w, if_pos (by decide), li_1, nI_add, nx, w]
          rfl
        · have w2 : alD P T (seeH P h i) (rch P y h i 0) = false := by simpa using w
          rw [b01_neg w, if_neg (by decide), w2]
          rfl
      · have z2 : (lf.testBit y && (seeH P h i).testBit y) = false := by simpa using z
        rw [if_pos (by rw [c1]; exact z), li_1, nI_add, nx, z2]
        rfl
  exact loop (Pp P) 0 FU (by omega) (by omega)
theorem opn_0 (w : Nat) : opn P w 0 = true := by
  unfold opn
  cases shO P w with
  | none => rfl
  | some k =>
    simp only
    split <;> rfl
theorem bhd_pair {h i far m : Nat} : bhd P (h, i, far, 0, 0) m = (pAft P h i m).map (fun q => (q.1, q.2, far, 1, shM P m 0)) := by
  unfold bhd opnM
  have : (m == 0 || opn P ((m - 1) % 16) 0) = true := by rw [opn_0, Bool.or_true]
  simp only [this, if_true]
  rw [if_neg (by decide)]
theorem r_huntersB (hF : 99999999 ≤ FU) (hR : PlR P J) (hW : WfP P) {h i m : Nat} (hpr : isPr P h i = true) (hm : m ≤ 32) : fX9_huntersBehind FU 60 (nI h) (nI i) (nI m) (J, R0 pl nm hd rd) = some (pI2 (pAft P h i m), (J, R0 pl nm hd rd)) := by
  have hp := wf_p hW
  have pr := isPr_iff.mp hpr
  have sp := shS_pos P
  have at' : ∀ far F, far < 3 → far ≠ h → far ≠ i → 0 < F → fX9_huntersBehind_L3 FU 60 (nI h) (nI i) (nI m) F (nI far) (J, R0 pl nm hd rd) = some (pI2 (pAft P h i m), (J, R0 pl nm hd rd)) := by
    intro far F f3 fh fi f0
    obtain ⟨G, rfl⟩ : ∃ G, F = G + 1 := ⟨F - 1, by omega⟩
    have vd : Vd P (h, i, far, 0, 0) := ⟨hpr, by show far < Pp P; omega, by show 0 < 2; decide, sp⟩
    have d1 : fX9_standing FU 60 (nI h) (nI i) (nI far) (0 : Int32) (0 : Int32) (J, R0 pl nm hd rd) = some (nI (cR (h, i, far, 0, 0)), (J, R0 pl nm hd rd)) := r_standing (FU := FU) (pl := pl) (nm := nm) (hd := hd) (rd := rd) (I := J) (h := h) (i := i) (r := far) (t := 0) (sh := 0)
    have d2 := r_bhd (FU := FU) (pl := pl) (nm := nm) (hd := hd) (rd := rd) hF hR hW vd hm
    rw [bhd_pair] at d2
    rw [fX9_huntersBehind_L3, if_neg (by rw [w_eq (by omega) (by omega)]; exact fh), if_pos (by rw [w_eq (by omega) (by omega)]; exact fi), show rc 9 (some 60) = some 60 from rfl, w_bind, dn d1, w_bind, dn d2]
    cases hq : pAft P h i m with
    | none =>
      rw [Option.map_none, Option.map_none, if_neg (show ¬ (0 : Int32) ≤ oI none by decide)]
      rfl
    | some q =>
      have vt : Vd P (q.1, q.2, far, 1, shM P m 0) := bhd_Vd hW vd (m := m) (by rw [bhd_pair, hq]; rfl)
      have vi := Vd_in hW vt
      have cl := cR_lt vi
      have g1 := r_first (FU := FU) (pl := pl) (nm := nm) (hd := hd) (rd := rd) (I := J) vi
      have g2 := r_second (FU := FU) (pl := pl) (nm := nm) (hd := hd) (rd := rd) (I := J) vi
      have q8 := pr8 hW (pAft_ok hW hpr hq).1
      rw [Option.map_some, Option.map_some, oI_some, if_pos (by rw [li_0, w_le (by omega) (by omega)]; omega), w_bind, dn g1, w_bind, dn g2, li_8, pk_mul, nI_add]
      have e : pI2 (some q) = nI (q.1 * 8 + q.2) := rfl
      rw [e, Nat.mul_comm]
  have nx : ∀ far F, far < 3 → (far = h ∨ far = i) → fX9_huntersBehind_L3 FU 60 (nI h) (nI i) (nI m) (F + 1) (nI far) (J, R0 pl nm hd rd) = fX9_huntersBehind_L3 FU 60 (nI h) (nI i) (nI m) F (nI (far + 1)) (J, R0 pl nm hd rd) := by
    intro far F f3 fe
    rw [fX9_huntersBehind_L3]
    unfold fX9_huntersBehind_b15
    by_cases z : far = h
    · rw [if_pos (by rw [z]), li_1, nI_add]
    · have z2 : far = i := by omega
      rw [if_neg (by rw [w_eq (by omega) (by omega)]; exact z), if_neg (fun y => y (by rw [z2])), li_1, nI_add]
  obtain ⟨G, hG⟩ : ∃ G, FU = G + 3 := ⟨FU - 3, by omega⟩
  have tgt : fX9_huntersBehind_L3 FU 60 (nI h) (nI i) (nI m) (G + 3) (nI 0) (J, R0 pl nm hd rd) = some (pI2 (pAft P h i m), (J, R0 pl nm hd rd)) := by
    by_cases a0 : 0 = h ∨ 0 = i
    · rw [nx 0 (G + 2) (by decide) a0]
      by_cases a1 : 1 = h ∨ 1 = i
      · rw [nx 1 (G + 1) (by decide) a1]
        exact at' 2 (G + 1) (by decide) (by omega) (by omega) (by omega)
      · exact at' 1 (G + 2) (by decide) (by omega) (by omega) (by omega)
    · exact at' 0 (G + 3) (by decide) (by omega) (by omega) (by omega)
  unfold fX9_huntersBehind
  rw [← hG] at tgt
  exact tgt
/-- a table r rounds old, as the reference holds it -/
def rI (o : Option Nat) : Int32 := match o with
  | none => nI 99
  | some j => nI j
def RLv (P : Pln) (r : Nat) (J : Nat → Nat → Int32) : Prop := ∀ h i s, isPr P h i = true → s < 2 ^ Pp P → J 70 ((8 * h + i) * 64 + s) = rI (lv P r h i s)
theorem RLv.tb {r : Nat} (hr : r ≤ 12) (h : RLv P r J) {a b : Nat} (p : isPr P a b = true) : RTb P (r + 1) a b (fun s => (lv P r a b s).isSome) J := by
  intro s hs
  rw [h a b s p hs]
  show (rI (lv P r a b s) < nI (r + 1)) = ((lv P r a b s).isSome = true)
  cases e : lv P r a b s with
  | none =>
    apply propext
    constructor
    · intro z
      have : (nI 99 < nI (r + 1)) = _ := w_lt (by omega) (by omega)
      have z : nI 99 < nI (r + 1) := z
      rw [this] at z
      omega
    · intro z
      cases z
  | some j =>
    have := lv_le r a b s j e
    apply propext
    constructor
    · exact fun _ => rfl
    · intro _
      show nI j < nI (r + 1)
      rw [w_lt (by omega) (by omega)]
      omega
theorem isPr_le {h i : Nat} (hpr : isPr P h i = true) : h ≤ i ∧ i < Pp P := by
  have pr := isPr_iff.mp hpr
  refine ⟨?_, pr.2.1⟩
  by_cases z : Ph P = 1
  · exact Nat.le_of_eq (pr.2.2.1 z)
  · exact pr.2.2.2 z
theorem r_canIn (hF : 99999999 ≤ FU) (hR : PlR P J) (hW : WfP P) (p6 : Pp P ≤ 6) (hp' : RPre P J) {r : Nat} (hr : r < 12) (hL : RLv P r J) {set h i : Nat} (hset : set < 2 ^ Pp P) (hpr : isPr P h i = true) : fX9_canIn FU 60 (nI h) (nI i) (nI set) (nI (r + 1)) (J, R0 pl nm hd rd) = some (b01 (anyB (fM P r h i set) 33 = true), (J, R0 pl nm hd rd)) := by
  have hp := wf_p hW
  have loop : ∀ d m F, d + m = 33 → d < F → fX9_canIn_L3 FU 60 (nI h) (nI i) (nI set) (nI (r + 1)) F (nI m) (J, R0 pl nm hd rd) = some (b01 (anyF (fM P r h i set) m d = true), (J, R0 pl nm hd rd)) := by
    intro d
    induction d with
    | zero =>
      intro m F h1 h2
      obtain ⟨G, rfl⟩ : ∃ G, F = G + 1 := ⟨F - 1, by omega⟩
      rw [fX9_canIn_L3, if_pos (by rw [li_32, w_lt (by omega) (by omega)]; omega)]
      rfl
    | succ d ih =>
      intro m F h1 h2
      obtain ⟨G, rfl⟩ : ∃ G, F = G + 1 := ⟨F - 1, by omega⟩
      have f0 : ¬ (32 : Int32) < nI m := by rw [li_32, w_lt (by omega) (by omega)]; omega
      have d1 := r_huntersB (FU := FU) (pl := pl) (nm := nm) (hd := hd) (rd := rd) hF hR hW (m := m) hpr (by omega)
      have nx := ih (m + 1) G (by omega) (by omega)
      have st : anyF (fM P r h i set) m (d + 1) = (fM P r h i set m || anyF (fM P r h i set) (m + 1) d) := rfl
      rw [fX9_canIn_L3, if_neg f0, show rc 9 (some 60) = some 60 from rfl, w_bind, dn d1, st]
      unfold fX9_canIn_b47
      cases hq : pAft P h i m with
      | none =>
        have e : fM P r h i set m = false := by
          unfold fM
          rw [hq]
        rw [if_pos (show pI2 none < (0 : Int32) by decide), li_1, nI_add, nx, e, Bool.false_or]
      | some q =>
        have qok := (pAft_ok hW hpr hq).1
        have q8 := pr8 hW qok
        have ql := isPr_le qok
        have e0 : pI2 (some q) = nI (q.1 * 8 + q.2) := rfl
        have e1 : nI (q.1 * 8 + q.2) / (8 : Int32) = nI q.1 := by
          simp (discharger := omega) only [li_0, li_1, li_2, li_3, li_4, li_5, li_6, li_7, li_8, li_9, li_10, li_11, li_12, li_13, li_14, li_15, li_16, li_17, li_18, li_19, li_20, li_21, li_22, li_23, li_24, li_25, li_26, li_27, li_28, li_29, li_30, li_31, li_32, li_33, li_34, li_35, li_36, li_37, li_38, li_39, li_40, li_41, li_42, li_43, li_44, li_45, li_46, li_47, li_48, li_49, li_50, li_51, li_52, li_53, li_54, li_55, li_56, li_57, li_58, li_59, li_60, li_61, li_62, li_63, li_64, li_65, li_66, li_67, li_68, li_69, li_70, li_71, li_72, li_73, li_74, li_75, li_76, li_77, li_78, li_79, li_80, li_81, li_82, li_83, li_84, li_85, li_86, li_87, li_88, li_89, li_90, li_91, li_92, li_93, li_94, li_95, li_96, li_97, li_98, li_99, li_100, li_101, li_102, li_103, li_104, li_105, li_106, li_107, li_108, li_109, li_110, li_111, li_112, li_113, li_114, li_115, li_116, li_117, li_118, li_119, li_120, li_121, li_122, li_123, li_124, li_125, li_126, li_127, li_128, li_144, li_150, li_200, li_255, li_384, li_512, li_999, li_1000, li_1024, li_1152, li_1920, li_3776, li_4096, li_9216, li_10000, li_100000, li_1073741824, li_m, w_lt, w_le, w_eq, w_mlt, w_mle, w_ltm, w_lem, w_meq, w_eqm, w_mm, w_mmlt, w_mmle, nI_add, w_sub, pk_mul, w_div, w_rem, w_and, w_or, w_shr, w_shl1, w_a31, w_andn]
          congr 1
          omega
        have e2 : nI (q.1 * 8 + q.2) - nI q.1 * (8 : Int32) = nI q.2 := by
          simp (discharger := omega) only [li_0, li_1, li_2, li_3, li_4, li_5, li_6, li_7, li_8, li_9, li_10, li_11, li_12, li_13, li_14, li_15, li_16, li_17, li_18, li_19, li_20, li_21, li_22, li_23, li_24, li_25, li_26, li_27, li_28, li_29, li_30, li_31, li_32, li_33, li_34, li_35, li_36, li_37, li_38, li_39, li_40, li_41, li_42, li_43, li_44, li_45, li_46, li_47, li_48, li_49, li_50, li_51, li_52, li_53, li_54, li_55, li_56, li_57, li_58, li_59, li_60, li_61, li_62, li_63, li_64, li_65, li_66, li_67, li_68, li_69, li_70, li_71, li_72, li_73, li_74, li_75, li_76, li_77, li_78, li_79, li_80, li_81, li_82, li_83, li_84, li_85, li_86, li_87, li_88, li_89, li_90, li_91, li_92, li_93, li_94, li_95, li_96, li_97, li_98, li_99, li_100, li_101, li_102, li_103, li_104, li_105, li_106, li_107, li_108, li_109, li_110, li_111, li_112, li_113, li_114, li_115, li_116, li_117, li_118, li_119, li_120, li_121, li_122, li_123, li_124, li_125, li_126, li_127, li_128, li_144, li_150, li_200, li_255, li_384, li_512, li_999, li_1000, li_1024, li_1152, li_1920, li_3776, li_4096, li_9216, li_10000, li_100000, li_1073741824, li_m, w_lt, w_le, w_eq, w_mlt, w_mle, w_ltm, w_lem, w_meq, w_eqm, w_mm, w_mmlt, w_mmle, nI_add, w_sub, pk_mul, w_div, w_rem, w_and, w_or, w_shr, w_shl1, w_a31, w_andn]
          congr 1
          omega
        have e : fM P r h i set m = isM P (fun s => (lv P r q.1 q.2 s).isSome) q.1 q.2 (andn set (plcM q.1 q.2)) := by
          unfold fM
          rw [hq]
        have d2 := r_isDone (FU := FU) (pl := pl) (nm := nm) (hd := hd) (rd := rd) hF hR hW p6 hp' (set := set) hset ql.1 ql.2 (hL.tb (by omega) qok)
        rw [e0, if_neg (by rw [li_0, w_lt (by omega) (by omega)]; omega), w_bind, e1, e2, dn d2, e]
        by_cases w : isM P (fun s => (lv P r q.1 q.2 s).isSome) q.1 q.2 (andn set (plcM q.1 q.2)) = true
        · rw [b01_pos w, if_neg (by decide), w]
          rfl
        · have w2 : isM P (fun s => (lv P r q.1 q.2 s).isSome) q.1 q.2 (andn set (plcM q.1 q.2)) = false := by simpa using w
          rw [b01_neg w, if_pos (by decide), li_1, nI_add, nx, w2, Bool.false_or]
  have := loop 33 0 FU (by omega) (by omega)
  rw [anyF_0] at this
  exact this
end Hid5
