/-! what is seen, both sides -/
section Seen
variable {FU c : Nat} {P : Pln} {I : Nat → Nat → Int32} {pl nm hd rd : Option Nat}
def seeA (P : Pln) (s x : Nat) : Nat := s ||| mk (fun y => anyB (fun x => s.testBit x && bsd P x y) x) 8
theorem seeA_0 (s : Nat) : seeA P s 0 = s := by
  apply Nat.eq_of_testBit_eq
  intro y
  unfold seeA
  rw [Nat.testBit_or, tb_mk]
  simp [anyB]
theorem seeA_lt {s x : Nat} (hs : s < 256) : seeA P s x < 256 := Nat.or_lt_two_pow (n := 8) hs (mk_lt _ 8)
theorem seeA_y {s x : Nat} (h : s.testBit x = true) : seeA P s (x + 1) = seeA P s x ||| nearM P x := by
  apply Nat.eq_of_testBit_eq
  intro y
  unfold seeA
  rw [Nat.testBit_or, Nat.testBit_or, Nat.testBit_or, tb_mk, tb_mk, tb_near]
  by_cases e : y < 8
  · simp [anyB, h, e, Bool.or_assoc]
  · simp [anyB, h, e]
theorem seeA_n {s x : Nat} (h : s.testBit x = false) : seeA P s (x + 1) = seeA P s x := by
  unfold seeA
  congr 1
  apply mk_congr
  intro y hy
  simp [anyB, h]
theorem seeK_lt {s : Nat} (hs : s < 256) (k : Nat) : seeK P s k < 256 := by
  induction k with
  | zero => exact hs
  | succ k ih => exact Nat.or_lt_two_pow (n := 8) ih (mk_lt _ 8)
theorem c_seenL (hF : 99999999 ≤ FU) (hc : c = 1 ∨ c = 9) (hP : PlC c P I) (hW : WfP P) {s k far : Nat} (hs : s < 256) {K : Int32 → Int32 → Mem → Option (Int32 × Mem)} : fX3_seenFromPlace_L44 FU K c (nI far) (nI s) (nI k) FU (nI s) (nI 0) (I, R0 pl nm hd rd) = K (nI (seeA P s (Pp P))) (nI (k + 1)) (I, R0 pl nm hd rd) := by
  have hp := wf_p hW
  have a1 := hP.1
  have step : ∀ x, x < Pp P → ∀ F, fX3_seenFromPlace_L44 FU K c (nI far) (nI s) (nI k) (F + 1) (nI (seeA P s x)) (nI x) (I, R0 pl nm hd rd) = fX3_seenFromPlace_L44 FU K c (nI far) (nI s) (nI k) F (nI (seeA P s (x + 1))) (nI (x + 1)) (I, R0 pl nm hd rd) := by
    intro x hx F
    have a2 := hP.2.2.2.2.2.2.2.2.2.2.2 x hx
    rw [fX3_seenFromPlace_L44]
    unfold fX3_seenFromPlace_b74
    simp (discharger := omega) only [li_0, li_1, li_2, li_3, li_4, li_5, li_6, li_7, li_8, li_9, li_10, li_11, li_12, li_13, li_14, li_15, li_16, li_17, li_18, li_19, li_20, li_21, li_22, li_23, li_24, li_25, li_26, li_27, li_28, li_29, li_30, li_31, li_32, li_33, li_34, li_35, li_36, li_37, li_38, li_39, li_40, li_41, li_42, li_43, li_44, li_45, li_46, li_47, li_48, li_49, li_50, li_51, li_52, li_53, li_54, li_55, li_56, li_57, li_58, li_59, li_60, li_61, li_62, li_63, li_64, li_65, li_66, li_67, li_68, li_69, li_70, li_71, li_72, li_73, li_74, li_75, li_76, li_77, li_78, li_79, li_80, li_81, li_82, li_83, li_84, li_85, li_86, li_87, li_88, li_89, li_90, li_91, li_92, li_93, li_94, li_95, li_96, li_97, li_98, li_99, li_100, li_101, li_102, li_103, li_104, li_105, li_106, li_107, li_108, li_109, li_110, li_111, li_112, li_113, li_114, li_115, li_116, li_117, li_118, li_119, li_120, li_121, li_122, li_123, li_124, li_125, li_126, li_127, li_128, li_144, li_150, li_200, li_255, li_384, li_512, li_999, li_1000, li_1024, li_1152, li_1920, li_3776, li_4096, li_9216, li_10000, li_100000, li_1073741824, li_m, ↓rcb_P hc, ↓fIb_P hc, ↓pIb_P hc, ↓fRb_P1 hc, ↓aIb_P1 hc, ↓sIb_P1 hc, ↓fRb_P2 hc, ↓aIb_P2 hc, ↓sIb_P2 hc, ↓fRb_P3 hc, ↓aIb_P3 hc, ↓sIb_P3 hc, ↓fRb_P4 hc, ↓aIb_P4 hc, ↓sIb_P4 hc, ↓fRb_P5 hc, ↓aIb_P5 hc, ↓sIb_P5 hc, ↓fRb_P6 hc, ↓aIb_P6 hc, ↓sIb_P6 hc, ↓fRb_P7 hc, ↓aIb_P7 hc, ↓sIb_P7 hc, rc_P hc, fI_P hc, fR_P hc, pI_P hc, r0_P1 hc, aI_P1 hc, sI_P1 hc, r0_P2 hc, aI_P2 hc, sI_P2 hc, r0_P3 hc, aI_P3 hc, sI_P3 hc, r0_P4 hc, aI_P4 hc, sI_P4 hc, r0_P5 hc, aI_P5 hc, sI_P5 hc, r0_P6 hc, aI_P6 hc, sI_P6 hc, r0_P7 hc, aI_P7 hc, sI_P7 hc, w_bind, w_bd2, b01_eq0, b01_ok, b01_ok2, w_lt, w_le, w_eq, w_mlt, w_mle, w_ltm, w_lem, w_meq, w_eqm, w_mm, w_mmlt, w_mmle, nI_add, w_sub, pk_mul, w_div, w_rem, w_and, w_or, w_shr, w_shl1, w_a31, w_andn, a1, a2, Nat.not_le.mpr hx, w_a1, w_bit0]
    by_cases z : s.testBit x = true
    · rw [seeA_y z]; simp [z]
    · have z2 : s.testBit x = false := by simpa using z
      rw [seeA_n z2]; simp [z2]
  have lp := lpU (fun F (q : Int32 × Int32 × Mem) => fX3_seenFromPlace_L44 FU K c (nI far) (nI s) (nI k) F q.1 q.2.1 q.2.2) (fun x => (nI (seeA P s x), nI x, (I, R0 pl nm hd rd))) (Pp P) step (Pp P) 0 FU (by omega) (by omega)
  simp only [seeA_0] at lp
  obtain ⟨G, hG⟩ : ∃ G, FU - Pp P = G + 1 := ⟨FU - Pp P - 1, by omega⟩
  rw [lp, hG, fX3_seenFromPlace_L44]
  simp (discharger := omega) only [li_0, li_1, li_2, li_3, li_4, li_5, li_6, li_7, li_8, li_9, li_10, li_11, li_12, li_13, li_14, li_15, li_16, li_17, li_18, li_19, li_20, li_21, li_22, li_23, li_24, li_25, li_26, li_27, li_28, li_29, li_30, li_31, li_32, li_33, li_34, li_35, li_36, li_37, li_38, li_39, li_40, li_41, li_42, li_43, li_44, li_45, li_46, li_47, li_48, li_49, li_50, li_51, li_52, li_53, li_54, li_55, li_56, li_57, li_58, li_59, li_60, li_61, li_62, li_63, li_64, li_65, li_66, li_67, li_68, li_69, li_70, li_71, li_72, li_73, li_74, li_75, li_76, li_77, li_78, li_79, li_80, li_81, li_82, li_83, li_84, li_85, li_86, li_87, li_88, li_89, li_90, li_91, li_92, li_93, li_94, li_95, li_96, li_97, li_98, li_99, li_100, li_101, li_102, li_103, li_104, li_105, li_106, li_107, li_108, li_109, li_110, li_111, li_112, li_113, li_114, li_115, li_116, li_117, li_118, li_119, li_120, li_121, li_122, li_123, li_124, li_125, li_126, li_127, li_128, li_144, li_150, li_200, li_255, li_384, li_512, li_999, li_1000, li_1024, li_1152, li_1920, li_3776, li_4096, li_9216, li_10000, li_100000, li_1073741824, li_m, ↓rcb_P hc, ↓fIb_P hc, ↓pIb_P hc, ↓fRb_P1 hc, ↓aIb_P1 hc, ↓sIb_P1 hc, ↓fRb_P2 hc, ↓aIb_P2 hc, ↓sIb_P2 hc, ↓fRb_P3 hc, ↓aIb_P3 hc, ↓sIb_P3 hc, ↓fRb_P4 hc, ↓aIb_P4 hc, ↓sIb_P4 hc, ↓fRb_P5 hc, ↓aIb_P5 hc, ↓sIb_P5 hc, ↓fRb_P6 hc, ↓aIb_P6 hc, ↓sIb_P6 hc, ↓fRb_P7 hc, ↓aIb_P7 hc, ↓sIb_P7 hc, rc_P hc, fI_P hc, fR_P hc, pI_P hc, r0_P1 hc, aI_P1 hc, sI_P1 hc, r0_P2 hc, aI_P2 hc, sI_P2 hc, r0_P3 hc, aI_P3 hc, sI_P3 hc, r0_P4 hc, aI_P4 hc, sI_P4 hc, r0_P5 hc, aI_P5 hc, sI_P5 hc, r0_P6 hc, aI_P6 hc, sI_P6 hc, r0_P7 hc, aI_P7 hc, sI_P7 hc, w_bind, w_bd2, b01_eq0, b01_ok, b01_ok2, w_lt, w_le, w_eq, w_mlt, w_mle, w_ltm, w_lem, w_meq, w_eqm, w_mm, w_mmlt, w_mmle, nI_add, w_sub, pk_mul, w_div, w_rem, w_and, w_or, w_shr, w_shl1, w_a31, w_andn, a1, Nat.le_refl, if_true]
theorem anyB_s (p : Nat → Bool) (n : Nat) : anyB p (n + 1) = (anyB p n || p n) := rfl
theorem w_a2 : ∀ k, k < 4 → (nI (k &&& 2) = nI 0 ↔ ¬ 2 ≤ k) := by decide +kernel
theorem c_seenFromPlace (hF : 99999999 ≤ FU) (hc : c = 1 ∨ c = 9) (hP : PlC c P I) (hW : WfP P) {x : Nat} (hx : x < Pp P) : fX3_seenFromPlace FU c (nI x) (I, R0 pl nm hd rd) = some (nI (seeP P x), (I, R0 pl nm hd rd)) := by
  have hp := wf_p hW
  have h3 := wf_s hW
  have a1 := hP.2.2.2.2.2.2.2.2.2.2.1 x hx
  have a2 := hP.2.2.2.2.1
  have a3 := wf_g hW hx
  have hb : 2 ^ x < 256 := pw_lt (by omega)
  have key : ∀ far, far ≤ 4 → fX3_seenFromPlace_b24 FU c (nI x) (nI far) (I, R0 pl nm hd rd) = some (nI (seeK P (2 ^ x) far), (I, R0 pl nm hd rd)) := by
    intro far hfar
    have step : ∀ k, k < far → ∀ F, fX3_seenFromPlace_L32 FU c (nI far) (F + 1) (nI (seeK P (2 ^ x) k)) (nI k) (I, R0 pl nm hd rd) = fX3_seenFromPlace_L32 FU c (nI far) F (nI (seeK P (2 ^ x) (k + 1))) (nI (k + 1)) (I, R0 pl nm hd rd) := by
      intro k hk F
      have q := c_seenL (FU := FU) (pl := pl) (nm := nm) (hd := hd) (rd := rd) hF hc hP hW (k := k) (far := far) (seeK_lt (P := P) hb k) (K := fX3_seenFromPlace_L32 FU c (nI far) F)
      rw [fX3_seenFromPlace_L32]
      simp (discharger := omega) only [li_0, li_1, li_2, li_3, li_4, li_5, li_6, li_7, li_8, li_9, li_10, li_11, li_12, li_13, li_14, li_15, li_16, li_17, li_18, li_19, li_20, li_21, li_22, li_23, li_24, li_25, li_26, li_27, li_28, li_29, li_30, li_31, li_32, li_33, li_34, li_35, li_36, li_37, li_38, li_39, li_40, li_41, li_42, li_43, li_44, li_45, li_46, li_47, li_48, li_49, li_50, li_51, li_52, li_53, li_54, li_55, li_56, li_57, li_58, li_59, li_60, li_61, li_62, li_63, li_64, li_65, li_66, li_67, li_68, li_69, li_70, li_71, li_72, li_73, li_74, li_75, li_76, li_77, li_78, li_79, li_80, li_81, li_82, li_83, li_84, li_85, li_86, li_87, li_88, li_89, li_90, li_91, li_92, li_93, li_94, li_95, li_96, li_97, li_98, li_99, li_100, li_101, li_102, li_103, li_104, li_105, li_106, li_107, li_108, li_109, li_110, li_111, li_112, li_113, li_114, li_115, li_116, li_117, li_118, li_119, li_120, li_121, li_122, li_123, li_124, li_125, li_126, li_127, li_128, li_144, li_150, li_200, li_255, li_384, li_512, li_999, li_1000, li_1024, li_1152, li_1920, li_3776, li_4096, li_9216, li_10000, li_100000, li_1073741824, li_m, w_bind, w_bd2, b01_eq0, b01_ok, b01_ok2, w_lt, w_le, w_eq, w_mlt, w_mle, w_ltm, w_lem, w_meq, w_eqm, w_mm, w_mmlt, w_mmle, nI_add, w_sub, pk_mul, w_div, w_rem, w_and, w_or, w_shr, w_shl1, w_a31, w_andn, Nat.not_le.mpr hk]
      rw [if_false, q]
      rfl
    have lp := lpU (fun F (q : Int32 × Int32 × Mem) => fX3_seenFromPlace_L32 FU c (nI far) F q.1 q.2.1 q.2.2) (fun k => (nI (seeK P (2 ^ x) k), nI k, (I, R0 pl nm hd rd))) far step far 0 FU (by omega) (by omega)
    simp only at lp
    obtain ⟨G, hG⟩ : ∃ G, FU - far = G + 1 := ⟨FU - far - 1, by omega⟩
    unfold fX3_seenFromPlace_b24
    simp (discharger := omega) only [li_0, li_1, li_2, li_3, li_4, li_5, li_6, li_7, li_8, li_9, li_10, li_11, li_12, li_13, li_14, li_15, li_16, li_17, li_18, li_19, li_20, li_21, li_22, li_23, li_24, li_25, li_26, li_27, li_28, li_29, li_30, li_31, li_32, li_33, li_34, li_35, li_36, li_37, li_38, li_39, li_40, li_41, li_42, li_43, li_44, li_45, li_46, li_47, li_48, li_49, li_50, li_51, li_52, li_53, li_54, li_55, li_56, li_57, li_58, li_59, li_60, li_61, li_62, li_63, li_64, li_65, li_66, li_67, li_68, li_69, li_70, li_71, li_72, li_73, li_74, li_75, li_76, li_77, li_78, li_79, li_80, li_81, li_82, li_83, li_84, li_85, li_86, li_87, li_88, li_89, li_90, li_91, li_92, li_93, li_94, li_95, li_96, li_97, li_98, li_99, li_100, li_101, li_102, li_103, li_104, li_105, li_106, li_107, li_108, li_109, li_110, li_111, li_112, li_113, li_114, li_115, li_116, li_117, li_118, li_119, li_120, li_121, li_122, li_123, li_124, li_125, li_126, li_127, li_128, li_144, li_150, li_200, li_255, li_384, li_512, li_999, li_1000, li_1024, li_1152, li_1920, li_3776, li_4096, li_9216, li_10000, li_100000, li_1073741824, li_m, w_bind, w_bd2, b01_eq0, b01_ok, b01_ok2, w_lt, w_le, w_eq, w_mlt, w_mle, w_ltm, w_lem, w_meq, w_eqm, w_mm, w_mmlt, w_mmle, nI_add, w_sub, pk_mul, w_div, w_rem, w_and, w_or, w_shr, w_shl1, w_a31, w_andn]
    have e0 : seeK P (2 ^ x) 0 = 2 ^ x := rfl
    rw [e0] at lp
    rw [lp, hG, fX3_seenFromPlace_L32]
    simp (discharger := omega) only [li_0, li_1, li_2, li_3, li_4, li_5, li_6, li_7, li_8, li_9, li_10, li_11, li_12, li_13, li_14, li_15, li_16, li_17, li_18, li_19, li_20, li_21, li_22, li_23, li_24, li_25, li_26, li_27, li_28, li_29, li_30, li_31, li_32, li_33, li_34, li_35, li_36, li_37, li_38, li_39, li_40, li_41, li_42, li_43, li_44, li_45, li_46, li_47, li_48, li_49, li_50, li_51, li_52, li_53, li_54, li_55, li_56, li_57, li_58, li_59, li_60, li_61, li_62, li_63, li_64, li_65, li_66, li_67, li_68, li_69, li_70, li_71, li_72, li_73, li_74, li_75, li_76, li_77, li_78, li_79, li_80, li_81, li_82, li_83, li_84, li_85, li_86, li_87, li_88, li_89, li_90, li_91, li_92, li_93, li_94, li_95, li_96, li_97, li_98, li_99, li_100, li_101, li_102, li_103, li_104, li_105, li_106, li_107, li_108, li_109, li_110, li_111, li_112, li_113, li_114, li_115, li_116, li_117, li_118, li_119, li_120, li_121, li_122, li_123, li_124, li_125, li_126, li_127, li_128, li_144, li_150, li_200, li_255, li_384, li_512, li_999, li_1000, li_1024, li_1152, li_1920, li_3776, li_4096, li_9216, li_10000, li_100000, li_1073741824, li_m, w_bind, w_bd2, b01_eq0, b01_ok, b01_ok2, w_lt, w_le, w_eq, w_mlt, w_mle, w_ltm, w_lem, w_meq, w_eqm, w_mm, w_mmlt, w_mmle, nI_add, w_sub, pk_mul, w_div, w_rem, w_and, w_or, w_shr, w_shl1, w_a31, w_andn, Nat.le_refl, if_true]
  unfold fX3_seenFromPlace seeP isHl
  simp (discharger := omega) only [li_0, li_1, li_2, li_3, li_4, li_5, li_6, li_7, li_8, li_9, li_10, li_11, li_12, li_13, li_14, li_15, li_16, li_17, li_18, li_19, li_20, li_21, li_22, li_23, li_24, li_25, li_26, li_27, li_28, li_29, li_30, li_31, li_32, li_33, li_34, li_35, li_36, li_37, li_38, li_39, li_40, li_41, li_42, li_43, li_44, li_45, li_46, li_47, li_48, li_49, li_50, li_51, li_52, li_53, li_54, li_55, li_56, li_57, li_58, li_59, li_60, li_61, li_62, li_63, li_64, li_65, li_66, li_67, li_68, li_69, li_70, li_71, li_72, li_73, li_74, li_75, li_76, li_77, li_78, li_79, li_80, li_81, li_82, li_83, li_84, li_85, li_86, li_87, li_88, li_89, li_90, li_91, li_92, li_93, li_94, li_95, li_96, li_97, li_98, li_99, li_100, li_101, li_102, li_103, li_104, li_105, li_106, li_107, li_108, li_109, li_110, li_111, li_112, li_113, li_114, li_115, li_116, li_117, li_118, li_119, li_120, li_121, li_122, li_123, li_124, li_125, li_126, li_127, li_128, li_144, li_150, li_200, li_255, li_384, li_512, li_999, li_1000, li_1024, li_1152, li_1920, li_3776, li_4096, li_9216, li_10000, li_100000, li_1073741824, li_m, ↓rcb_P hc, ↓fIb_P hc, ↓pIb_P hc, ↓fRb_P1 hc, ↓aIb_P1 hc, ↓sIb_P1 hc, ↓fRb_P2 hc, ↓aIb_P2 hc, ↓sIb_P2 hc, ↓fRb_P3 hc, ↓aIb_P3 hc, ↓sIb_P3 hc, ↓fRb_P4 hc, ↓aIb_P4 hc, ↓sIb_P4 hc, ↓fRb_P5 hc, ↓aIb_P5 hc, ↓sIb_P5 hc, ↓fRb_P6 hc, ↓aIb_P6 hc, ↓sIb_P6 hc, ↓fRb_P7 hc, ↓aIb_P7 hc, ↓sIb_P7 hc, rc_P hc, fI_P hc, fR_P hc, pI_P hc, r0_P1 hc, aI_P1 hc, sI_P1 hc, r0_P2 hc, aI_P2 hc, sI_P2 hc, r0_P3 hc, aI_P3 hc, sI_P3 hc, r0_P4 hc, aI_P4 hc, sI_P4 hc, r0_P5 hc, aI_P5 hc, sI_P5 hc, r0_P6 hc, aI_P6 hc, sI_P6 hc, r0_P7 hc, aI_P7 hc, sI_P7 hc, w_bind, w_bd2, b01_eq0, b01_ok, b01_ok2, w_lt, w_le, w_eq, w_mlt, w_mle, w_ltm, w_lem, w_meq, w_eqm, w_mm, w_mmlt, w_mmle, nI_add, w_sub, pk_mul, w_div, w_rem, w_and, w_or, w_shr, w_shl1, w_a31, w_andn, a1, a2, w_a2 _ a3]
  by_cases z : 2 ≤ Pg P x
  · simp only [z, not_true, if_false, decide_true, if_true]
    exact key (Ps P + 1) (by omega)
  · simp only [z, not_false_eq_true, if_true, decide_false, Bool.false_eq_true, if_false, Nat.add_zero]
    exact key (Ps P) (by omega)
theorem seeP_lt (hW : WfP P) {x : Nat} (hx : x < Pp P) : seeP P x < 256 := seeK_lt (pw_lt (by have := wf_p hW; omega)) _
theorem c_seenFrom (hF : 99999999 ≤ FU) (hc : c = 1 ∨ c = 9) (hP : PlC c P I) (hW : WfP P) {h i : Nat} (hh : h < Pp P) (hi : i < Pp P) : fX3_seenFrom FU c (nI (h * 8 + i)) (I, R0 pl nm hd rd) = some (nI (seeH P h i), (I, R0 pl nm hd rd)) := by
  have hp := wf_p hW
  have a1 := c_seenFromPlace (FU := FU) (pl := pl) (nm := nm) (hd := hd) (rd := rd) hF hc hP hW hh
  have a2 := c_seenFromPlace (FU := FU) (pl := pl) (nm := nm) (hd := hd) (rd := rd) hF hc hP hW hi
  unfold fX3_seenFrom seeH
  simp (discharger := omega) only [li_0, li_1, li_2, li_3, li_4, li_5, li_6, li_7, li_8, li_9, li_10, li_11, li_12, li_13, li_14, li_15, li_16, li_17, li_18, li_19, li_20, li_21, li_22, li_23, li_24, li_25, li_26, li_27, li_28, li_29, li_30, li_31, li_32, li_33, li_34, li_35, li_36, li_37, li_38, li_39, li_40, li_41, li_42, li_43, li_44, li_45, li_46, li_47, li_48, li_49, li_50, li_51, li_52, li_53, li_54, li_55, li_56, li_57, li_58, li_59, li_60, li_61, li_62, li_63, li_64, li_65, li_66, li_67, li_68, li_69, li_70, li_71, li_72, li_73, li_74, li_75, li_76, li_77, li_78, li_79, li_80, li_81, li_82, li_83, li_84, li_85, li_86, li_87, li_88, li_89, li_90, li_91, li_92, li_93, li_94, li_95, li_96, li_97, li_98, li_99, li_100, li_101, li_102, li_103, li_104, li_105, li_106, li_107, li_108, li_109, li_110, li_111, li_112, li_113, li_114, li_115, li_116, li_117, li_118, li_119, li_120, li_121, li_122, li_123, li_124, li_125, li_126, li_127, li_128, li_144, li_150, li_200, li_255, li_384, li_512, li_999, li_1000, li_1024, li_1152, li_1920, li_3776, li_4096, li_9216, li_10000, li_100000, li_1073741824, li_m, ↓rcb_P hc, ↓fIb_P hc, ↓pIb_P hc, ↓fRb_P1 hc, ↓aIb_P1 hc, ↓sIb_P1 hc, ↓fRb_P2 hc, ↓aIb_P2 hc, ↓sIb_P2 hc, ↓fRb_P3 hc, ↓aIb_P3 hc, ↓sIb_P3 hc, ↓fRb_P4 hc, ↓aIb_P4 hc, ↓sIb_P4 hc, ↓fRb_P5 hc, ↓aIb_P5 hc, ↓sIb_P5 hc, ↓fRb_P6 hc, ↓aIb_P6 hc, ↓sIb_P6 hc, ↓fRb_P7 hc, ↓aIb_P7 hc, ↓sIb_P7 hc, rc_P hc, fI_P hc, fR_P hc, pI_P hc, r0_P1 hc, aI_P1 hc, sI_P1 hc, r0_P2 hc, aI_P2 hc, sI_P2 hc, r0_P3 hc, aI_P3 hc, sI_P3 hc, r0_P4 hc, aI_P4 hc, sI_P4 hc, r0_P5 hc, aI_P5 hc, sI_P5 hc, r0_P6 hc, aI_P6 hc, sI_P6 hc, r0_P7 hc, aI_P7 hc, sI_P7 hc, w_bind, w_bd2, b01_eq0, b01_ok, b01_ok2, w_lt, w_le, w_eq, w_mlt, w_mle, w_ltm, w_lem, w_meq, w_eqm, w_mm, w_mmlt, w_mmle, nI_add, w_sub, pk_mul, w_div, w_rem, w_and, w_or, w_shr, w_shl1, w_a31, w_andn, w_ph, w_pi, w_a7, a1, a2]
/-- the same over the first w ways -/
def seeW (P : Pln) (s w : Nat) : Nat := s ||| mk (fun y => anyB (fun w => (s.testBit (Pa P w) && Pb P w == y) || (s.testBit (Pb P w) && Pa P w == y)) w) 8
theorem seeW_0 (s : Nat) : seeW P s 0 = s := by
  apply Nat.eq_of_testBit_eq
  intro y
  unfold seeW
  rw [Nat.testBit_or, tb_mk]
  simp [anyB]
theorem seeW_lt {s w : Nat} (hs : s < 256) : seeW P s w < 256 := Nat.or_lt_two_pow (n := 8) hs (mk_lt _ 8)
theorem seeW_s {s w : Nat} (ha : Pa P w < 8) (hb : Pb P w < 8) : seeW P s (w + 1) = (seeW P s w ||| (if s.testBit (Pa P w) = true then 2 ^ Pb P w else 0)) ||| (if s.testBit (Pb P w) = true then 2 ^ Pa P w else 0) := by
  apply Nat.eq_of_testBit_eq
  intro y
  unfold seeW
  rw [Nat.testBit_or, Nat.testBit_or, Nat.testBit_or, Nat.testBit_or, tb_mk, tb_mk]
  have e1 : ∀ (b : Bool) (k : Nat), k < 8 → (if b = true then 2 ^ k else 0).testBit y = (decide (y < 8) && (b && k == y)) := by
    intro b k hk
    cases b
    · simp
    · by_cases z : k = y
      · subst z; simp [hk]
      · have z2 : (k == y) = false := by simpa using z
        simp [Nat.testBit_two_pow, z, z2]
  rw [e1 _ _ hb, e1 _ _ ha, anyB_s]
  cases decide (y < 8) <;> simp [Bool.or_assoc]
theorem seeW_A (hW : WfP P) (s : Nat) : seeW P s (Pn P) = seeA P s (Pp P) := by
  unfold seeW seeA
  congr 1
  apply mk_congr
  intro y hy
  rw [Bool.eq_iff_iff, anyB_iff, anyB_iff]
  constructor
  · rintro ⟨w, hw, h⟩
    have q := wf_w hW hw
    simp only [Bool.or_eq_true, Bool.and_eq_true, beq_iff_eq] at h
    rcases h with ⟨a, b⟩ | ⟨a, b⟩
    · exact ⟨Pa P w, q.2.1, by rw [Bool.and_eq_true]; exact ⟨a, bsd_iff.mpr ⟨w, hw, Or.inl ⟨rfl, b⟩⟩⟩⟩
    · exact ⟨Pb P w, q.2.2.1, by rw [Bool.and_eq_true]; exact ⟨a, bsd_iff.mpr ⟨w, hw, Or.inr ⟨b, rfl⟩⟩⟩⟩
  · rintro ⟨x, hx, h⟩
    rw [Bool.and_eq_true] at h
    obtain ⟨w, hw, h2⟩ := bsd_iff.mp h.2
    refine ⟨w, hw, ?_⟩
    simp only [Bool.or_eq_true, Bool.and_eq_true, beq_iff_eq]
    rcases h2 with ⟨a, b⟩ | ⟨a, b⟩
    · exact Or.inl ⟨by rw [a]; exact h.1, b⟩
    · exact Or.inr ⟨by rw [b]; exact h.1, a⟩
theorem r_seesL (hF : 99999999 ≤ FU) (hP : PlR P I) (hW : WfP P) {s k far : Nat} (hs : s < 256) {K : Int32 → Int32 → Mem → Option (Int32 × Mem)} : fX9_seesFrom_L39 FU K 60 (nI far) (nI s) (nI k) FU (nI s) (nI 0) (I, R0 pl nm hd rd) = K (nI (seeA P s (Pp P))) (nI (k + 1)) (I, R0 pl nm hd rd) := by
  have hn := wf_n hW
  have hp := wf_p hW
  have a1 := hP.2.1
  have step : ∀ w, w < Pn P → ∀ F, fX9_seesFrom_L39 FU K 60 (nI far) (nI s) (nI k) (F + 1) (nI (seeW P s w)) (nI w) (I, R0 pl nm hd rd) = fX9_seesFrom_L39 FU K 60 (nI far) (nI s) (nI k) F (nI (seeW P s (w + 1))) (nI (w + 1)) (I, R0 pl nm hd rd) := by
    intro w hw F
    have q := wf_w hW hw
    have a2 := hP.2.2.2.2.2.1 w hw
    have a3 := hP.2.2.2.2.2.2.1 w hw
    rw [fX9_seesFrom_L39, seeW_s (by omega) (by omega)]
    unfold fX9_seesFrom_b77 fX9_seesFrom_b106
    simp (discharger := omega) only [li_0, li_1, li_2, li_3, li_4, li_5, li_6, li_7, li_8, li_9, li_10, li_11, li_12, li_13, li_14, li_15, li_16, li_17, li_18, li_19, li_20, li_21, li_22, li_23, li_24, li_25, li_26, li_27, li_28, li_29, li_30, li_31, li_32, li_33, li_34, li_35, li_36, li_37, li_38, li_39, li_40, li_41, li_42, li_43, li_44, li_45, li_46, li_47, li_48, li_49, li_50, li_51, li_52, li_53, li_54, li_55, li_56, li_57, li_58, li_59, li_60, li_61, li_62, li_63, li_64, li_65, li_66, li_67, li_68, li_69, li_70, li_71, li_72, li_73, li_74, li_75, li_76, li_77, li_78, li_79, li_80, li_81, li_82, li_83, li_84, li_85, li_86, li_87, li_88, li_89, li_90, li_91, li_92, li_93, li_94, li_95, li_96, li_97, li_98, li_99, li_100, li_101, li_102, li_103, li_104, li_105, li_106, li_107, li_108, li_109, li_110, li_111, li_112, li_113, li_114, li_115, li_116, li_117, li_118, li_119, li_120, li_121, li_122, li_123, li_124, li_125, li_126, li_127, li_128, li_144, li_150, li_200, li_255, li_384, li_512, li_999, li_1000, li_1024, li_1152, li_1920, li_3776, li_4096, li_9216, li_10000, li_100000, li_1073741824, li_m, ↓rcb_60, ↓fIb_60, ↓pIb_60, ↓fRb_60_4, ↓fRb_60_5, ↓fRb_60_6, ↓fRb_60_7, ↓fRb_60_8, ↓fRb_60_10, ↓fRb_60_11, ↓fRb_60_12, ↓fRb_60_13, ↓fRb_60_14, ↓fRb_60_16, ↓fRb_60_17, ↓fRb_60_18, ↓fRb_60_24, ↓fRb_60_25, ↓fRb_60_26, ↓fRb_60_30, ↓fRb_60_31, ↓fRb_60_36, ↓fRb_60_37, ↓fRb_60_42, ↓fRb_60_43, ↓fRb_60_44, ↓fRb_60_45, ↓aIb_61, ↓sIb_61, ↓aIb_62, ↓sIb_62, ↓aIb_63, ↓sIb_63, ↓aIb_64, ↓sIb_64, ↓aIb_65, ↓sIb_65, ↓aIb_66, ↓sIb_66, ↓aIb_67, ↓sIb_67, ↓aIb_68, ↓sIb_68, ↓aIb_69, ↓sIb_69, ↓aIb_70, ↓sIb_70, ↓aIb_71, ↓sIb_71, ↓aIb_72, ↓sIb_72, ↓aIb_73, ↓sIb_73, ↓aIb_74, ↓sIb_74, ↓aIb_75, ↓sIb_75, ↓aIb_76, ↓sIb_76, ↓aIb_77, ↓sIb_77, ↓aIb_78, ↓sIb_78, ↓aIb_79, ↓sIb_79, ↓aIb_80, ↓sIb_80, ↓aIb_81, ↓sIb_81, ↓aIb_82, ↓sIb_82, ↓aIb_83, ↓sIb_83, ↓aIb_84, ↓sIb_84, r0_60_4, r0_60_5, r0_60_6, r0_60_7, r0_60_8, r0_60_10, r0_60_11, r0_60_12, r0_60_13, r0_60_14, r0_60_16, r0_60_17, r0_60_18, r0_60_24, r0_60_25, r0_60_26, r0_60_30, r0_60_31, r0_60_36, r0_60_37, r0_60_42, r0_60_43, r0_60_44, r0_60_45, rc_60, fI_60, fR_60, pI_60, aI_61, sI_61, aI_62, sI_62, aI_63, sI_63, aI_64, sI_64, aI_65, sI_65, aI_66, sI_66, aI_67, sI_67, aI_68, sI_68, aI_69, sI_69, aI_70, sI_70, aI_71, sI_71, aI_72, sI_72, aI_73, sI_73, aI_74, sI_74, aI_75, sI_75, aI_76, sI_76, aI_77, sI_77, aI_78, sI_78, aI_79, sI_79, aI_80, sI_80, aI_81, sI_81, aI_82, sI_82, aI_83, sI_83, aI_84, sI_84, w_bind, w_bd2, b01_eq0, b01_ok, b01_ok2, w_lt, w_le, w_eq, w_mlt, w_mle, w_ltm, w_lem, w_meq, w_eqm, w_mm, w_mmlt, w_mmle, nI_add, w_sub, pk_mul, w_div, w_rem, w_and, w_or, w_shr, w_shl1, w_a31, w_andn, a1, a2, a3, Nat.not_le.mpr hw, w_a1, w_bit1]
    by_cases z1 : s.testBit (Pa P w) = true <;> by_cases z2 : s.testBit (Pb P w) = true <;> simp [z1, z2]
  have lp := lpU (fun F (q : Int32 × Int32 × Mem) => fX9_seesFrom_L39 FU K 60 (nI far) (nI s) (nI k) F q.1 q.2.1 q.2.2) (fun w => (nI (seeW P s w), nI w, (I, R0 pl nm hd rd))) (Pn P) step (Pn P) 0 FU (by omega) (by omega)
  simp only [seeW_0] at lp
  obtain ⟨G, hG⟩ : ∃ G, FU - Pn P = G + 1 := ⟨FU - Pn P - 1, by omega⟩
  rw [lp, hG, fX9_seesFrom_L39]
  simp (discharger := omega) only [li_0, li_1, li_2, li_3, li_4, li_5, li_6, li_7, li_8, li_9, li_10, li_11, li_12, li_13, li_14, li_15, li_16, li_17, li_18, li_19, li_20, li_21, li_22, li_23, li_24, li_25, li_26, li_27, li_28, li_29, li_30, li_31, li_32, li_33, li_34, li_35, li_36, li_37, li_38, li_39, li_40, li_41, li_42, li_43, li_44, li_45, li_46, li_47, li_48, li_49, li_50, li_51, li_52, li_53, li_54, li_55, li_56, li_57, li_58, li_59, li_60, li_61, li_62, li_63, li_64, li_65, li_66, li_67, li_68, li_69, li_70, li_71, li_72, li_73, li_74, li_75, li_76, li_77, li_78, li_79, li_80, li_81, li_82, li_83, li_84, li_85, li_86, li_87, li_88, li_89, li_90, li_91, li_92, li_93, li_94, li_95, li_96, li_97, li_98, li_99, li_100, li_101, li_102, li_103, li_104, li_105, li_106, li_107, li_108, li_109, li_110, li_111, li_112, li_113, li_114, li_115, li_116, li_117, li_118, li_119, li_120, li_121, li_122, li_123, li_124, li_125, li_126, li_127, li_128, li_144, li_150, li_200, li_255, li_384, li_512, li_999, li_1000, li_1024, li_1152, li_1920, li_3776, li_4096, li_9216, li_10000, li_100000, li_1073741824, li_m, ↓rcb_60, ↓fIb_60, ↓pIb_60, ↓fRb_60_4, ↓fRb_60_5, ↓fRb_60_6, ↓fRb_60_7, ↓fRb_60_8, ↓fRb_60_10, ↓fRb_60_11, ↓fRb_60_12, ↓fRb_60_13, ↓fRb_60_14, ↓fRb_60_16, ↓fRb_60_17, ↓fRb_60_18, ↓fRb_60_24, ↓fRb_60_25, ↓fRb_60_26, ↓fRb_60_30, ↓fRb_60_31, ↓fRb_60_36, ↓fRb_60_37, ↓fRb_60_42, ↓fRb_60_43, ↓fRb_60_44, ↓fRb_60_45, ↓aIb_61, ↓sIb_61, ↓aIb_62, ↓sIb_62, ↓aIb_63, ↓sIb_63, ↓aIb_64, ↓sIb_64, ↓aIb_65, ↓sIb_65, ↓aIb_66, ↓sIb_66, ↓aIb_67, ↓sIb_67, ↓aIb_68, ↓sIb_68, ↓aIb_69, ↓sIb_69, ↓aIb_70, ↓sIb_70, ↓aIb_71, ↓sIb_71, ↓aIb_72, ↓sIb_72, ↓aIb_73, ↓sIb_73, ↓aIb_74, ↓sIb_74, ↓aIb_75, ↓sIb_75, ↓aIb_76, ↓sIb_76, ↓aIb_77, ↓sIb_77, ↓aIb_78, ↓sIb_78, ↓aIb_79, ↓sIb_79, ↓aIb_80, ↓sIb_80, ↓aIb_81, ↓sIb_81, ↓aIb_82, ↓sIb_82, ↓aIb_83, ↓sIb_83, ↓aIb_84, ↓sIb_84, r0_60_4, r0_60_5, r0_60_6, r0_60_7, r0_60_8, r0_60_10, r0_60_11, r0_60_12, r0_60_13, r0_60_14, r0_60_16, r0_60_17, r0_60_18, r0_60_24, r0_60_25, r0_60_26, r0_60_30, r0_60_31, r0_60_36, r0_60_37, r0_60_42, r0_60_43, r0_60_44, r0_60_45, rc_60, fI_60, fR_60, pI_60, aI_61, sI_61, aI_62, sI_62, aI_63, sI_63, aI_64, sI_64, aI_65, sI_65, aI_66, sI_66, aI_67, sI_67, aI_68, sI_68, aI_69, sI_69, aI_70, sI_70, aI_71, sI_71, aI_72, sI_72, aI_73, sI_73, aI_74, sI_74, aI_75, sI_75, aI_76, sI_76, aI_77, sI_77, aI_78, sI_78, aI_79, sI_79, aI_80, sI_80, aI_81, sI_81, aI_82, sI_82, aI_83, sI_83, aI_84, sI_84, w_bind, w_bd2, b01_eq0, b01_ok, b01_ok2, w_lt, w_le, w_eq, w_mlt, w_mle, w_ltm, w_lem, w_meq, w_eqm, w_mm, w_mmlt, w_mmle, nI_add, w_sub, pk_mul, w_div, w_rem, w_and, w_or, w_shr, w_shl1, w_a31, w_andn, a1, Nat.le_refl, if_true]
  rw [seeW_A hW]
theorem r_seesFrom (hF : 99999999 ≤ FU) (hP : PlR P I) (hW : WfP P) {x : Nat} (hx : x < Pp P) : fX9_seesFrom FU 60 (nI x) (I, R0 pl nm hd rd) = some (nI (seeP P x), (I, R0 pl nm hd rd)) := by
  have hp := wf_p hW
  have h3 := wf_s hW
  have a1 := hP.2.2.2.2.2.2.2.2 x hx
  have a2 := hP.2.2.2.1
  have hb : 2 ^ x < 256 := pw_lt (by omega)
  have key : ∀ far, far ≤ 4 → fX9_seesFrom_L27 FU 60 (nI far) FU (nI (2 ^ x)) (nI 0) (I, R0 pl nm hd rd) = some (nI (seeK P (2 ^ x) far), (I, R0 pl nm hd rd)) := by
    intro far hfar
    have step : ∀ k, k < far → ∀ F, fX9_seesFrom_L27 FU 60 (nI far) (F + 1) (nI (seeK P (2 ^ x) k)) (nI k) (I, R0 pl nm hd rd) = fX9_seesFrom_L27 FU 60 (nI far) F (nI (seeK P (2 ^ x) (k + 1))) (nI (k + 1)) (I, R0 pl nm hd rd) := by
      intro k hk F
      have q := r_seesL (FU := FU) (pl := pl) (nm := nm) (hd := hd) (rd := rd) hF hP hW (k := k) (far := far) (seeK_lt (P := P) hb k) (K := fX9_seesFrom_L27 FU 60 (nI far) F)
      rw [fX9_seesFrom_L27]
      simp (discharger := omega) only [li_0, li_1, li_2, li_3, li_4, li_5, li_6, li_7, li_8, li_9, li_10, li_11, li_12, li_13, li_14, li_15, li_16, li_17, li_18, li_19, li_20, li_21, li_22, li_23, li_24, li_25, li_26, li_27, li_28, li_29, li_30, li_31, li_32, li_33, li_34, li_35, li_36, li_37, li_38, li_39, li_40, li_41, li_42, li_43, li_44, li_45, li_46, li_47, li_48, li_49, li_50, li_51, li_52, li_53, li_54, li_55, li_56, li_57, li_58, li_59, li_60, li_61, li_62, li_63, li_64, li_65, li_66, li_67, li_68, li_69, li_70, li_71, li_72, li_73, li_74, li_75, li_76, li_77, li_78, li_79, li_80, li_81, li_82, li_83, li_84, li_85, li_86, li_87, li_88, li_89, li_90, li_91, li_92, li_93, li_94, li_95, li_96, li_97, li_98, li_99, li_100, li_101, li_102, li_103, li_104, li_105, li_106, li_107, li_108, li_109, li_110, li_111, li_112, li_113, li_114, li_115, li_116, li_117, li_118, li_119, li_120, li_121, li_122, li_123, li_124, li_125, li_126, li_127, li_128, li_144, li_150, li_200, li_255, li_384, li_512, li_999, li_1000, li_1024, li_1152, li_1920, li_3776, li_4096, li_9216, li_10000, li_100000, li_1073741824, li_m, w_bind, w_bd2, b01_eq0, b01_ok, b01_ok2, w_lt, w_le, w_eq, w_mlt, w_mle, w_ltm, w_lem, w_meq, w_eqm, w_mm, w_mmlt, w_mmle, nI_add, w_sub, pk_mul, w_div, w_rem, w_and, w_or, w_shr, w_shl1, w_a31, w_andn, Nat.not_le.mpr hk]
      rw [if_false, q]
      rfl
    have lp := lpU (fun F (q : Int32 × Int32 × Mem) => fX9_seesFrom_L27 FU 60 (nI far) F q.1 q.2.1 q.2.2) (fun k => (nI (seeK P (2 ^ x) k), nI k, (I, R0 pl nm hd rd))) far step far 0 FU (by omega) (by omega)
    simp only at lp
    obtain ⟨G, hG⟩ : ∃ G, FU - far = G + 1 := ⟨FU - far - 1, by omega⟩
    have e0 : seeK P (2 ^ x) 0 = 2 ^ x := rfl
    rw [e0] at lp
    rw [lp, hG, fX9_seesFrom_L27]
    simp (discharger := omega) only [li_0, li_1, li_2, li_3, li_4, li_5, li_6, li_7, li_8, li_9, li_10, li_11, li_12, li_13, li_14, li_15, li_16, li_17, li_18, li_19, li_20, li_21, li_22, li_23, li_24, li_25, li_26, li_27, li_28, li_29, li_30, li_31, li_32, li_33, li_34, li_35, li_36, li_37, li_38, li_39, li_40, li_41, li_42, li_43, li_44, li_45, li_46, li_47, li_48, li_49, li_50, li_51, li_52, li_53, li_54, li_55, li_56, li_57, li_58, li_59, li_60, li_61, li_62, li_63, li_64, li_65, li_66, li_67, li_68, li_69, li_70, li_71, li_72, li_73, li_74, li_75, li_76, li_77, li_78, li_79, li_80, li_81, li_82, li_83, li_84, li_85, li_86, li_87, li_88, li_89, li_90, li_91, li_92, li_93, li_94, li_95, li_96, li_97, li_98, li_99, li_100, li_101, li_102, li_103, li_104, li_105, li_106, li_107, li_108, li_109, li_110, li_111, li_112, li_113, li_114, li_115, li_116, li_117, li_118, li_119, li_120, li_121, li_122, li_123, li_124, li_125, li_126, li_127, li_128, li_144, li_150, li_200, li_255, li_384, li_512, li_999, li_1000, li_1024, li_1152, li_1920, li_3776, li_4096, li_9216, li_10000, li_100000, li_1073741824, li_m, w_bind, w_bd2, b01_eq0, b01_ok, b01_ok2, w_lt, w_le, w_eq, w_mlt, w_mle, w_ltm, w_lem, w_meq, w_eqm, w_mm, w_mmlt, w_mmle, nI_add, w_sub, pk_mul, w_div, w_rem, w_and, w_or, w_shr, w_shl1, w_a31, w_andn, Nat.le_refl, if_true]
  unfold fX9_seesFrom fX9_seesFrom_b18 seeP
  simp (discharger := omega) only [li_0, li_1, li_2, li_3, li_4, li_5, li_6, li_7, li_8, li_9, li_10, li_11, li_12, li_13, li_14, li_15, li_16, li_17, li_18, li_19, li_20, li_21, li_22, li_23, li_24, li_25, li_26, li_27, li_28, li_29, li_30, li_31, li_32, li_33, li_34, li_35, li_36, li_37, li_38, li_39, li_40, li_41, li_42, li_43, li_44, li_45, li_46, li_47, li_48, li_49, li_50, li_51, li_52, li_53, li_54, li_55, li_56, li_57, li_58, li_59, li_60, li_61, li_62, li_63, li_64, li_65, li_66, li_67, li_68, li_69, li_70, li_71, li_72, li_73, li_74, li_75, li_76, li_77, li_78, li_79, li_80, li_81, li_82, li_83, li_84, li_85, li_86, li_87, li_88, li_89, li_90, li_91, li_92, li_93, li_94, li_95, li_96, li_97, li_98, li_99, li_100, li_101, li_102, li_103, li_104, li_105, li_106, li_107, li_108, li_109, li_110, li_111, li_112, li_113, li_114, li_115, li_116, li_117, li_118, li_119, li_120, li_121, li_122, li_123, li_124, li_125, li_126, li_127, li_128, li_144, li_150, li_200, li_255, li_384, li_512, li_999, li_1000, li_1024, li_1152, li_1920, li_3776, li_4096, li_9216, li_10000, li_100000, li_1073741824, li_m, ↓rcb_60, ↓fIb_60, ↓pIb_60, ↓fRb_60_4, ↓fRb_60_5, ↓fRb_60_6, ↓fRb_60_7, ↓fRb_60_8, ↓fRb_60_10, ↓fRb_60_11, ↓fRb_60_12, ↓fRb_60_13, ↓fRb_60_14, ↓fRb_60_16, ↓fRb_60_17, ↓fRb_60_18, ↓fRb_60_24, ↓fRb_60_25, ↓fRb_60_26, ↓fRb_60_30, ↓fRb_60_31, ↓fRb_60_36, ↓fRb_60_37, ↓fRb_60_42, ↓fRb_60_43, ↓fRb_60_44, ↓fRb_60_45, ↓aIb_61, ↓sIb_61, ↓aIb_62, ↓sIb_62, ↓aIb_63, ↓sIb_63, ↓aIb_64, ↓sIb_64, ↓aIb_65, ↓sIb_65, ↓aIb_66, ↓sIb_66, ↓aIb_67, ↓sIb_67, ↓aIb_68, ↓sIb_68, ↓aIb_69, ↓sIb_69, ↓aIb_70, ↓sIb_70, ↓aIb_71, ↓sIb_71, ↓aIb_72, ↓sIb_72, ↓aIb_73, ↓sIb_73, ↓aIb_74, ↓sIb_74, ↓aIb_75, ↓sIb_75, ↓aIb_76, ↓sIb_76, ↓aIb_77, ↓sIb_77, ↓aIb_78, ↓sIb_78, ↓aIb_79, ↓sIb_79, ↓aIb_80, ↓sIb_80, ↓aIb_81, ↓sIb_81, ↓aIb_82, ↓sIb_82, ↓aIb_83, ↓sIb_83, ↓aIb_84, ↓sIb_84, r0_60_4, r0_60_5, r0_60_6, r0_60_7, r0_60_8, r0_60_10, r0_60_11, r0_60_12, r0_60_13, r0_60_14, r0_60_16, r0_60_17, r0_60_18, r0_60_24, r0_60_25, r0_60_26, r0_60_30, r0_60_31, r0_60_36, r0_60_37, r0_60_42, r0_60_43, r0_60_44, r0_60_45, rc_60, fI_60, fR_60, pI_60, aI_61, sI_61, aI_62, sI_62, aI_63, sI_63, aI_64, sI_64, aI_65, sI_65, aI_66, sI_66, aI_67, sI_67, aI_68, sI_68, aI_69, sI_69, aI_70, sI_70, aI_71, sI_71, aI_72, sI_72, aI_73, sI_73, aI_74, sI_74, aI_75, sI_75, aI_76, sI_76, aI_77, sI_77, aI_78, sI_78, aI_79, sI_79, aI_80, sI_80, aI_81, sI_81, aI_82, sI_82, aI_83, sI_83, aI_84, sI_84, w_bind, w_bd2, b01_eq0, b01_ok, b01_ok2, w_lt, w_le, w_eq, w_mlt, w_mle, w_ltm, w_lem, w_meq, w_eqm, w_mm, w_mmlt, w_mmle, nI_add, w_sub, pk_mul, w_div, w_rem, w_and, w_or, w_shr, w_shl1, w_a31, w_andn, a1, a2]
  by_cases z : isHl P x = true
  · simp only [z, not_true, if_false, if_true]
    exact key (Ps P + 1) (by omega)
  · simp only [z, not_false_eq_true, if_true, if_false]
    exact key (Ps P) (by omega)
theorem r_seenBy (hF : 99999999 ≤ FU) (hP : PlR P I) (hW : WfP P) {h i : Nat} (hh : h < Pp P) (hi : i < Pp P) : fX9_seenBy FU 60 (nI h) (nI i) (I, R0 pl nm hd rd) = some (nI (seeH P h i), (I, R0 pl nm hd rd)) := by
  have a1 := r_seesFrom (FU := FU) (pl := pl) (nm := nm) (hd := hd) (rd := rd) hF hP hW hh
  have a2 := r_seesFrom (FU := FU) (pl := pl) (nm := nm) (hd := hd) (rd := rd) hF hP hW hi
  unfold fX9_seenBy seeH
  simp (discharger := omega) only [li_0, li_1, li_2, li_3, li_4, li_5, li_6, li_7, li_8, li_9, li_10, li_11, li_12, li_13, li_14, li_15, li_16, li_17, li_18, li_19, li_20, li_21, li_22, li_23, li_24, li_25, li_26, li_27, li_28, li_29, li_30, li_31, li_32, li_33, li_34, li_35, li_36, li_37, li_38, li_39, li_40, li_41, li_42, li_43, li_44, li_45, li_46, li_47, li_48, li_49, li_50, li_51, li_52, li_53, li_54, li_55, li_56, li_57, li_58, li_59, li_60, li_61, li_62, li_63, li_64, li_65, li_66, li_67, li_68, li_69, li_70, li_71, li_72, li_73, li_74, li_75, li_76, li_77, li_78, li_79, li_80, li_81, li_82, li_83, li_84, li_85, li_86, li_87, li_88, li_89, li_90, li_91, li_92, li_93, li_94, li_95, li_96, li_97, li_98, li_99, li_100, li_101, li_102, li_103, li_104, li_105, li_106, li_107, li_108, li_109, li_110, li_111, li_112, li_113, li_114, li_115, li_116, li_117, li_118, li_119, li_120, li_121, li_122, li_123, li_124, li_125, li_126, li_127, li_128, li_144, li_150, li_200, li_255, li_384, li_512, li_999, li_1000, li_1024, li_1152, li_1920, li_3776, li_4096, li_9216, li_10000, li_100000, li_1073741824, li_m, ↓rcb_60, ↓fIb_60, ↓pIb_60, ↓fRb_60_4, ↓fRb_60_5, ↓fRb_60_6, ↓fRb_60_7, ↓fRb_60_8, ↓fRb_60_10, ↓fRb_60_11, ↓fRb_60_12, ↓fRb_60_13, ↓fRb_60_14, ↓fRb_60_16, ↓fRb_60_17, ↓fRb_60_18, ↓fRb_60_24, ↓fRb_60_25, ↓fRb_60_26, ↓fRb_60_30, ↓fRb_60_31, ↓fRb_60_36, ↓fRb_60_37, ↓fRb_60_42, ↓fRb_60_43, ↓fRb_60_44, ↓fRb_60_45, ↓aIb_61, ↓sIb_61, ↓aIb_62, ↓sIb_62, ↓aIb_63, ↓sIb_63, ↓aIb_64, ↓sIb_64, ↓aIb_65, ↓sIb_65, ↓aIb_66, ↓sIb_66, ↓aIb_67, ↓sIb_67, ↓aIb_68, ↓sIb_68, ↓aIb_69, ↓sIb_69, ↓aIb_70, ↓sIb_70, ↓aIb_71, ↓sIb_71, ↓aIb_72, ↓sIb_72, ↓aIb_73, ↓sIb_73, ↓aIb_74, ↓sIb_74, ↓aIb_75, ↓sIb_75, ↓aIb_76, ↓sIb_76, ↓aIb_77, ↓sIb_77, ↓aIb_78, ↓sIb_78, ↓aIb_79, ↓sIb_79, ↓aIb_80, ↓sIb_80, ↓aIb_81, ↓sIb_81, ↓aIb_82, ↓sIb_82, ↓aIb_83, ↓sIb_83, ↓aIb_84, ↓sIb_84, r0_60_4, r0_60_5, r0_60_6, r0_60_7, r0_60_8, r0_60_10, r0_60_11, r0_60_12, r0_60_13, r0_60_14, r0_60_16, r0_60_17, r0_60_18, r0_60_24, r0_60_25, r0_60_26, r0_60_30, r0_60_31, r0_60_36, r0_60_37, r0_60_42, r0_60_43, r0_60_44, r0_60_45, rc_60, fI_60, fR_60, pI_60, aI_61, sI_61, aI_62, sI_62, aI_63, sI_63, aI_64, sI_64, aI_65, sI_65, aI_66, sI_66, aI_67, sI_67, aI_68, sI_68, aI_69, sI_69, aI_70, sI_70, aI_71, sI_71, aI_72, sI_72, aI_73, sI_73, aI_74, sI_74, aI_75, sI_75, aI_76, sI_76, aI_77, sI_77, aI_78, sI_78, aI_79, sI_79, aI_80, sI_80, aI_81, sI_81, aI_82, sI_82, aI_83, sI_83, aI_84, sI_84, ↓dn a1, ↓dn a2, w_bind, w_bd2, b01_eq0, b01_ok, b01_ok2, w_lt, w_le, w_eq, w_mlt, w_mle, w_ltm, w_lem, w_meq, w_eqm, w_mm, w_mmlt, w_mmle, nI_add, w_sub, pk_mul, w_div, w_rem, w_and, w_or, w_shr, w_shl1, w_a31, w_andn]
/-- to where the runner goes from a set -/
def runsS (P : Pln) (set h i sh : Nat) : Nat := mk (fun y => anyB (fun x => set.testBit x && (rch P x h i sh).testBit y) (Pp P)) 8
def runA (P : Pln) (set h i sh x : Nat) : Nat := mk (fun y => anyB (fun x => set.testBit x && (rchA P x h i sh (Pn P)).testBit y) x) 8
theorem runA_lt (set h i sh x : Nat) : runA P set h i sh x < 256 := mk_lt _ 8
theorem runA_y {set h i sh x : Nat} (e : set.testBit x = true) : runA P set h i sh (x + 1) = runA P set h i sh x ||| rchA P x h i sh (Pn P) := by
  apply Nat.eq_of_testBit_eq
  intro y
  rw [Nat.testBit_or]
  unfold runA
  rw [tb_mk, tb_mk, anyB_s]
  by_cases z : y < 8
  · simp [z, e]
  · have := tb_of_lt (rchA_lt (P := P) x h i sh (Pn P)) (i := y) (k := 8) (by omega)
    simp [z, this]
theorem runA_n {set h i sh x : Nat} (e : set.testBit x = false) : runA P set h i sh (x + 1) = runA P set h i sh x := by
  unfold runA
  apply mk_congr
  intro y hy
  simp [anyB, e]
theorem runsS_of (set h i sh : Nat) : andn (runA P set h i sh (Pp P)) (plcM h i) = runsS P set h i sh := by
  apply Nat.eq_of_testBit_eq
  intro y
  unfold runA runsS
  rw [tb_andn, tb_mk, tb_mk]
  by_cases z : y < 8
  · simp only [z, decide_true, Bool.true_and]
    rw [Bool.eq_iff_iff, Bool.and_eq_true, anyB_iff, anyB_iff]
    constructor
    · rintro ⟨⟨x, h1, h2⟩, h3⟩
      refine ⟨x, h1, ?_⟩
      rw [Bool.and_eq_true] at h2 ⊢
      refine ⟨h2.1, ?_⟩
      rw [← rch_of, tb_andn, h2.2, h3]
      rfl
    · rintro ⟨x, h1, h2⟩
      rw [Bool.and_eq_true, ← rch_of, tb_andn, Bool.and_eq_true] at h2
      exact ⟨⟨x, h1, by rw [h2.1, h2.2.1]; rfl⟩, h2.2.2⟩
  · simp [z]
theorem r_runs (hF : 99999999 ≤ FU) (hP : PlR P I) (hW : WfP P) {set h i sh : Nat} (hset : set < 256) (hh : h < 8) (hi : i < 8) (hs : sh < 9) : fX9_runs FU 60 (nI set) (nI h) (nI i) (nI sh) (I, R0 pl nm hd rd) = some (nI (runsS P set h i sh), (I, R0 pl nm hd rd)) := by
  have hn := wf_n hW
  have hp := wf_p hW
  have a0 := hP.1
  have a1 := hP.2.1
  have step : ∀ x, x < Pp P → ∀ F, fX9_runs_L6 FU 60 (nI set) (nI h) (nI i) (nI sh) (F + 1) (nI (runA P set h i sh x)) (nI x) (I, R0 pl nm hd rd) = fX9_runs_L6 FU 60 (nI set) (nI h) (nI i) (nI sh) F (nI (runA P set h i sh (x + 1))) (nI (x + 1)) (I, R0 pl nm hd rd) := by
    intro x hx F
    have a2 := hP.2.2.2.2.2.2.2.1 x hx
    have inner : ∀ K, fX9_runs_L49 FU K 60 (nI set) (nI h) (nI i) (nI sh) (nI x) FU (nI (runA P set h i sh x ||| rchA P x h i sh 0)) (nI 0) (I, R0 pl nm hd rd) = K (nI (runA P set h i sh x ||| rchA P x h i sh (Pn P))) (nI (x + 1)) (I, R0 pl nm hd rd) := by
      intro K
      have st : ∀ w, w < Pn P → ∀ F, fX9_runs_L49 FU K 60 (nI set) (nI h) (nI i) (nI sh) (nI x) (F + 1) (nI (runA P set h i sh x ||| rchA P x h i sh w)) (nI w) (I, R0 pl nm hd rd) = fX9_runs_L49 FU K 60 (nI set) (nI h) (nI i) (nI sh) (nI x) F (nI (runA P set h i sh x ||| rchA P x h i sh (w + 1))) (nI (w + 1)) (I, R0 pl nm hd rd) := by
        intro w hw F
        have d1 := r_mayRun (FU := FU) (pl := pl) (nm := nm) (hd := hd) (rd := rd) hF hP hW hw (x := x) (by omega) hh hi hs
        have d2 := r_leads (FU := FU) (pl := pl) (nm := nm) (hd := hd) (rd := rd) hP hW hw (x := x) (by omega)
        rw [fX9_runs_L49]
        unfold fX9_runs_b88
        simp (discharger := omega) only [li_0, li_1, li_2, li_3, li_4, li_5, li_6, li_7, li_8, li_9, li_10, li_11, li_12, li_13, li_14, li_15, li_16, li_17, li_18, li_19, li_20, li_21, li_22, li_23, li_24, li_25, li_26, li_27, li_28, li_29, li_30, li_31, li_32, li_33, li_34, li_35, li_36, li_37, li_38, li_39, li_40, li_41, li_42, li_43, li_44, li_45, li_46, li_47, li_48, li_49, li_50, li_51, li_52, li_53, li_54, li_55, li_56, li_57, li_58, li_59, li_60, li_61, li_62, li_63, li_64, li_65, li_66, li_67, li_68, li_69, li_70, li_71, li_72, li_73, li_74, li_75, li_76, li_77, li_78, li_79, li_80, li_81, li_82, li_83, li_84, li_85, li_86, li_87, li_88, li_89, li_90, li_91, li_92, li_93, li_94, li_95, li_96, li_97, li_98, li_99, li_100, li_101, li_102, li_103, li_104, li_105, li_106, li_107, li_108, li_109, li_110, li_111, li_112, li_113, li_114, li_115, li_116, li_117, li_118, li_119, li_120, li_121, li_122, li_123, li_124, li_125, li_126, li_127, li_128, li_144, li_150, li_200, li_255, li_384, li_512, li_999, li_1000, li_1024, li_1152, li_1920, li_3776, li_4096, li_9216, li_10000, li_100000, li_1073741824, li_m, ↓rcb_60, ↓fIb_60, ↓pIb_60, ↓fRb_60_4, ↓fRb_60_5, ↓fRb_60_6, ↓fRb_60_7, ↓fRb_60_8, ↓fRb_60_10, ↓fRb_60_11, ↓fRb_60_12, ↓fRb_60_13, ↓fRb_60_14, ↓fRb_60_16, ↓fRb_60_17, ↓fRb_60_18, ↓fRb_60_24, ↓fRb_60_25, ↓fRb_60_26, ↓fRb_60_30, ↓fRb_60_31, ↓fRb_60_36, ↓fRb_60_37, ↓fRb_60_42, ↓fRb_60_43, ↓fRb_60_44, ↓fRb_60_45, ↓aIb_61, ↓sIb_61, ↓aIb_62, ↓sIb_62, ↓aIb_63, ↓sIb_63, ↓aIb_64, ↓sIb_64, ↓aIb_65, ↓sIb_65, ↓aIb_66, ↓sIb_66, ↓aIb_67, ↓sIb_67, ↓aIb_68, ↓sIb_68, ↓aIb_69, ↓sIb_69, ↓aIb_70, ↓sIb_70, ↓aIb_71, ↓sIb_71, ↓aIb_72, ↓sIb_72, ↓aIb_73, ↓sIb_73, ↓aIb_74, ↓sIb_74, ↓aIb_75, ↓sIb_75, ↓aIb_76, ↓sIb_76, ↓aIb_77, ↓sIb_77, ↓aIb_78, ↓sIb_78, ↓aIb_79, ↓sIb_79, ↓aIb_80, ↓sIb_80, ↓aIb_81, ↓sIb_81, ↓aIb_82, ↓sIb_82, ↓aIb_83, ↓sIb_83, ↓aIb_84, ↓sIb_84, r0_60_4, r0_60_5, r0_60_6, r0_60_7, r0_60_8, r0_60_10, r0_60_11, r0_60_12, r0_60_13, r0_60_14, r0_60_16, r0_60_17, r0_60_18, r0_60_24, r0_60_25, r0_60_26, r0_60_30, r0_60_31, r0_60_36, r0_60_37, r0_60_42, r0_60_43, r0_60_44, r0_60_45, rc_60, fI_60, fR_60, pI_60, aI_61, sI_61, aI_62, sI_62, aI_63, sI_63, aI_64, sI_64, aI_65, sI_65, aI_66, sI_66, aI_67, sI_67, aI_68, sI_68, aI_69, sI_69, aI_70, sI_70, aI_71, sI_71, aI_72, sI_72, aI_73, sI_73, aI_74, sI_74, aI_75, sI_75, aI_76, sI_76, aI_77, sI_77, aI_78, sI_78, aI_79, sI_79, aI_80, sI_80, aI_81, sI_81, aI_82, sI_82, aI_83, sI_83, aI_84, sI_84, ↓dn d1, ↓dn d2, w_bind, w_bd2, b01_eq0, b01_ok, b01_ok2, w_lt, w_le, w_eq, w_mlt, w_mle, w_ltm, w_lem, w_meq, w_eqm, w_mm, w_mmlt, w_mmle, nI_add, w_sub, pk_mul, w_div, w_rem, w_and, w_or, w_shr, w_shl1, w_a31, w_andn, a1, Nat.not_le.mpr hw]
        by_cases z : mR P w x h i sh = true
        · have z2 := z
          unfold mR at z2
          rw [Bool.and_eq_true] at z2
          obtain ⟨y, z3⟩ := Option.isSome_iff_exists.mp z2.2
          have z5 := runE_lt hW hw z3
          have z4 : ld P w x = some y := by
            unfold runE at z3
            split at z3
            · exact z3
            · cases z3
          rw [rchA_s (by omega) z2.1 z3]
          simp (discharger := omega) only [z, z4, oI, w_lt, w_le, w_eq, w_mlt, w_mle, w_ltm, w_lem, w_meq, w_eqm, w_mm, w_mmlt, w_mmle, nI_add, w_sub, pk_mul, w_div, w_rem, w_and, w_or, w_shr, w_shl1, w_a31, w_andn, not_true, if_false, Nat.or_assoc]
        · have z2 : opn P w sh = false ∨ runE P w x h i = none := by
            unfold mR at z
            cases e : opn P w sh
            · exact Or.inl rfl
            · rw [e, Bool.true_and, Option.not_isSome_iff_eq_none] at z
              exact Or.inr z
          rw [rchA_n z2]
          simp only [z, if_true, if_false, not_false_eq_true, Bool.false_eq_true]
      have lp := lpU (fun F (q : Int32 × Int32 × Mem) => fX9_runs_L49 FU K 60 (nI set) (nI h) (nI i) (nI sh) (nI x) F q.1 q.2.1 q.2.2) (fun w => (nI (runA P set h i sh x ||| rchA P x h i sh w), nI w, (I, R0 pl nm hd rd))) (Pn P) st (Pn P) 0 FU (by omega) (by omega)
      simp only at lp
      obtain ⟨G, hG⟩ : ∃ G, FU - Pn P = G + 1 := ⟨FU - Pn P - 1, by omega⟩
      rw [lp, hG, fX9_runs_L49]
      unfold fX9_runs_b94
      simp (discharger := omega) only [li_0, li_1, li_2, li_3, li_4, li_5, li_6, li_7, li_8, li_9, li_10, li_11, li_12, li_13, li_14, li_15, li_16, li_17, li_18, li_19, li_20, li_21, li_22, li_23, li_24, li_25, li_26, li_27, li_28, li_29, li_30, li_31, li_32, li_33, li_34, li_35, li_36, li_37, li_38, li_39, li_40, li_41, li_42, li_43, li_44, li_45, li_46, li_47, li_48, li_49, li_50, li_51, li_52, li_53, li_54, li_55, li_56, li_57, li_58, li_59, li_60, li_61, li_62, li_63, li_64, li_65, li_66, li_67, li_68, li_69, li_70, li_71, li_72, li_73, li_74, li_75, li_76, li_77, li_78, li_79, li_80, li_81, li_82, li_83, li_84, li_85, li_86, li_87, li_88, li_89, li_90, li_91, li_92, li_93, li_94, li_95, li_96, li_97, li_98, li_99, li_100, li_101, li_102, li_103, li_104, li_105, li_106, li_107, li_108, li_109, li_110, li_111, li_112, li_113, li_114, li_115, li_116, li_117, li_118, li_119, li_120, li_121, li_122, li_123, li_124, li_125, li_126, li_127, li_128, li_144, li_150, li_200, li_255, li_384, li_512, li_999, li_1000, li_1024, li_1152, li_1920, li_3776, li_4096, li_9216, li_10000, li_100000, li_1073741824, li_m, ↓rcb_60, ↓fIb_60, ↓pIb_60, ↓fRb_60_4, ↓fRb_60_5, ↓fRb_60_6, ↓fRb_60_7, ↓fRb_60_8, ↓fRb_60_10, ↓fRb_60_11, ↓fRb_60_12, ↓fRb_60_13, ↓fRb_60_14, ↓fRb_60_16, ↓fRb_60_17, ↓fRb_60_18, ↓fRb_60_24, ↓fRb_60_25, ↓fRb_60_26, ↓fRb_60_30, ↓fRb_60_31, ↓fRb_60_36, ↓fRb_60_37, ↓fRb_60_42, ↓fRb_60_43, ↓fRb_60_44, ↓fRb_60_45, ↓aIb_61, ↓sIb_61, ↓aIb_62, ↓sIb_62, ↓aIb_63, ↓sIb_63, ↓aIb_64, ↓sIb_64, ↓aIb_65, ↓sIb_65, ↓aIb_66, ↓sIb_66, ↓aIb_67, ↓sIb_67, ↓aIb_68, ↓sIb_68, ↓aIb_69, ↓sIb_69, ↓aIb_70, ↓sIb_70, ↓aIb_71, ↓sIb_71, ↓aIb_72, ↓sIb_72, ↓aIb_73, ↓sIb_73, ↓aIb_74, ↓sIb_74, ↓aIb_75, ↓sIb_75, ↓aIb_76, ↓sIb_76, ↓aIb_77, ↓sIb_77, ↓aIb_78, ↓sIb_78, ↓aIb_79, ↓sIb_79, ↓aIb_80, ↓sIb_80, ↓aIb_81, ↓sIb_81, ↓aIb_82, ↓sIb_82, ↓aIb_83, ↓sIb_83, ↓aIb_84, ↓sIb_84, r0_60_4, r0_60_5, r0_60_6, r0_60_7, r0_60_8, r0_60_10, r0_60_11, r0_60_12, r0_60_13, r0_60_14, r0_60_16, r0_60_17, r0_60_18, r0_60_24, r0_60_25, r0_60_26, r0_60_30, r0_60_31, r0_60_36, r0_60_37, r0_60_42, r0_60_43, r0_60_44, r0_60_45, rc_60, fI_60, fR_60, pI_60, aI_61, sI_61, aI_62, sI_62, aI_63, sI_63, aI_64, sI_64, aI_65, sI_65, aI_66, sI_66, aI_67, sI_67, aI_68, sI_68, aI_69, sI_69, aI_70, sI_70, aI_71, sI_71, aI_72, sI_72, aI_73, sI_73, aI_74, sI_74, aI_75, sI_75, aI_76, sI_76, aI_77, sI_77, aI_78, sI_78, aI_79, sI_79, aI_80, sI_80, aI_81, sI_81, aI_82, sI_82, aI_83, sI_83, aI_84, sI_84, w_bind, w_bd2, b01_eq0, b01_ok, b01_ok2, w_lt, w_le, w_eq, w_mlt, w_mle, w_ltm, w_lem, w_meq, w_eqm, w_mm, w_mmlt, w_mmle, nI_add, w_sub, pk_mul, w_div, w_rem, w_and, w_or, w_shr, w_shl1, w_a31, w_andn, a1, Nat.le_refl, if_true]
    rw [fX9_runs_L6]
    unfold fX9_runs_b46 fX9_runs_b94
    simp (discharger := omega) only [li_0, li_1, li_2, li_3, li_4, li_5, li_6, li_7, li_8, li_9, li_10, li_11, li_12, li_13, li_14, li_15, li_16, li_17, li_18, li_19, li_20, li_21, li_22, li_23, li_24, li_25, li_26, li_27, li_28, li_29, li_30, li_31, li_32, li_33, li_34, li_35, li_36, li_37, li_38, li_39, li_40, li_41, li_42, li_43, li_44, li_45, li_46, li_47, li_48, li_49, li_50, li_51, li_52, li_53, li_54, li_55, li_56, li_57, li_58, li_59, li_60, li_61, li_62, li_63, li_64, li_65, li_66, li_67, li_68, li_69, li_70, li_71, li_72, li_73, li_74, li_75, li_76, li_77, li_78, li_79, li_80, li_81, li_82, li_83, li_84, li_85, li_86, li_87, li_88, li_89, li_90, li_91, li_92, li_93, li_94, li_95, li_96, li_97, li_98, li_99, li_100, li_101, li_102, li_103, li_104, li_105, li_106, li_107, li_108, li_109, li_110, li_111, li_112, li_113, li_114, li_115, li_116, li_117, li_118, li_119, li_120, li_121, li_122, li_123, li_124, li_125, li_126, li_127, li_128, li_144, li_150, li_200, li_255, li_384, li_512, li_999, li_1000, li_1024, li_1152, li_1920, li_3776, li_4096, li_9216, li_10000, li_100000, li_1073741824, li_m, ↓rcb_60, ↓fIb_60, ↓pIb_60, ↓fRb_60_4, ↓fRb_60_5, ↓fRb_60_6, ↓fRb_60_7, ↓fRb_60_8, ↓fRb_60_10, ↓fRb_60_11, ↓fRb_60_12, ↓fRb_60_13, ↓fRb_60_14, ↓fRb_60_16, ↓fRb_60_17, ↓fRb_60_18, ↓fRb_60_24, ↓fRb_60_25, ↓fRb_60_26, ↓fRb_60_30, ↓fRb_60_31, ↓fRb_60_36, ↓fRb_60_37, ↓fRb_60_42, ↓fRb_60_43, ↓fRb_60_44, ↓fRb_60_45, ↓aIb_61, ↓sIb_61, ↓aIb_62, ↓sIb_62, ↓aIb_63, ↓sIb_63, ↓aIb_64, ↓sIb_64, ↓aIb_65, ↓sIb_65, ↓aIb_66, ↓sIb_66, ↓aIb_67, ↓sIb_67, ↓aIb_68, ↓sIb_68, ↓aIb_69, ↓sIb_69, ↓aIb_70, ↓sIb_70, ↓aIb_71, ↓sIb_71, ↓aIb_72, ↓sIb_72, ↓aIb_73, ↓sIb_73, ↓aIb_74, ↓sIb_74, ↓aIb_75, ↓sIb_75, ↓aIb_76, ↓sIb_76, ↓aIb_77, ↓sIb_77, ↓aIb_78, ↓sIb_78, ↓aIb_79, ↓sIb_79, ↓aIb_80, ↓sIb_80, ↓aIb_81, ↓sIb_81, ↓aIb_82, ↓sIb_82, ↓aIb_83, ↓sIb_83, ↓aIb_84, ↓sIb_84, r0_60_4, r0_60_5, r0_60_6, r0_60_7, r0_60_8, r0_60_10, r0_60_11, r0_60_12, r0_60_13, r0_60_14, r0_60_16, r0_60_17, r0_60_18, r0_60_24, r0_60_25, r0_60_26, r0_60_30, r0_60_31, r0_60_36, r0_60_37, r0_60_42, r0_60_43, r0_60_44, r0_60_45, rc_60, fI_60, fR_60, pI_60, aI_61, sI_61, aI_62, sI_62, aI_63, sI_63, aI_64, sI_64, aI_65, sI_65, aI_66, sI_66, aI_67, sI_67, aI_68, sI_68, aI_69, sI_69, aI_70, sI_70, aI_71, sI_71, aI_72, sI_72, aI_73, sI_73, aI_74, sI_74, aI_75, sI_75, aI_76, sI_76, aI_77, sI_77, aI_78, sI_78, aI_79, sI_79, aI_80, sI_80, aI_81, sI_81, aI_82, sI_82, aI_83, sI_83, aI_84, sI_84, w_bind, w_bd2, b01_eq0, b01_ok, b01_ok2, w_lt, w_le, w_eq, w_mlt, w_mle, w_ltm, w_lem, w_meq, w_eqm, w_mm, w_mmlt, w_mmle, nI_add, w_sub, pk_mul, w_div, w_rem, w_and, w_or, w_shr, w_shl1, w_a31, w_andn, a0, a2, Nat.not_le.mpr hx, w_a1, w_bit0]
    by_cases z : set.testBit x = true
    · rw [runA_y z]
      have z0 := inner (fX9_runs_L6 FU 60 (nI set) (nI h) (nI i) (nI sh) F)
      rw [rchA_0 (by omega)] at z0
      rw [← z0]
      by_cases z1 : isWl P x = true <;> simp [z, z1]
    · have z2 : set.testBit x = false := by simpa using z
      rw [runA_n z2]
      simp [z2]
  have lp := lpU (fun F (q : Int32 × Int32 × Mem) => fX9_runs_L6 FU 60 (nI set) (nI h) (nI i) (nI sh) F q.1 q.2.1 q.2.2) (fun x => (nI (runA P set h i sh x), nI x, (I, R0 pl nm hd rd))) (Pp P) step (Pp P) 0 FU (by omega) (by omega)
  simp only at lp
  obtain ⟨G, hG⟩ : ∃ G, FU - Pp P = G + 1 := ⟨FU - Pp P - 1, by omega⟩
  have e0 : runA P set h i sh 0 = 0 := by
    apply Nat.eq_of_testBit_eq
    intro y
    unfold runA
    rw [tb_mk]
    simp [anyB]
  rw [e0] at lp
  have e1 : 2 ^ h ||| 2 ^ i = plcM h i := rfl
  unfold fX9_runs
  simp (discharger := omega) only [li_0, li_1, li_2, li_3, li_4, li_5, li_6, li_7, li_8, li_9, li_10, li_11, li_12, li_13, li_14, li_15, li_16, li_17, li_18, li_19, li_20, li_21, li_22, li_23, li_24, li_25, li_26, li_27, li_28, li_29, li_30, li_31, li_32, li_33, li_34, li_35, li_36, li_37, li_38, li_39, li_40, li_41, li_42, li_43, li_44, li_45, li_46, li_47, li_48, li_49, li_50, li_51, li_52, li_53, li_54, li_55, li_56, li_57, li_58, li_59, li_60, li_61, li_62, li_63, li_64, li_65, li_66, li_67, li_68, li_69, li_70, li_71, li_72, li_73, li_74, li_75, li_76, li_77, li_78, li_79, li_80, li_81, li_82, li_83, li_84, li_85, li_86, li_87, li_88, li_89, li_90, li_91, li_92, li_93, li_94, li_95, li_96, li_97, li_98, li_99, li_100, li_101, li_102, li_103, li_104, li_105, li_106, li_107, li_108, li_109, li_110, li_111, li_112, li_113, li_114, li_115, li_116, li_117, li_118, li_119, li_120, li_121, li_122, li_123, li_124, li_125, li_126, li_127, li_128, li_144, li_150, li_200, li_255, li_384, li_512, li_999, li_1000, li_1024, li_1152, li_1920, li_3776, li_4096, li_9216, li_10000, li_100000, li_1073741824, li_m]
  rw [lp, hG, fX9_runs_L6]
  simp (discharger := omega) only [li_0, li_1, li_2, li_3, li_4, li_5, li_6, li_7, li_8, li_9, li_10, li_11, li_12, li_13, li_14, li_15, li_16, li_17, li_18, li_19, li_20, li_21, li_22, li_23, li_24, li_25, li_26, li_27, li_28, li_29, li_30, li_31, li_32, li_33, li_34, li_35, li_36, li_37, li_38, li_39, li_40, li_41, li_42, li_43, li_44, li_45, li_46, li_47, li_48, li_49, li_50, li_51, li_52, li_53, li_54, li_55, li_56, li_57, li_58, li_59, li_60, li_61, li_62, li_63, li_64, li_65, li_66, li_67, li_68, li_69, li_70, li_71, li_72, li_73, li_74, li_75, li_76, li_77, li_78, li_79, li_80, li_81, li_82, li_83, li_84, li_85, li_86, li_87, li_88, li_89, li_90, li_91, li_92, li_93, li_94, li_95, li_96, li_97, li_98, li_99, li_100, li_101, li_102, li_103, li_104, li_105, li_106, li_107, li_108, li_109, li_110, li_111, li_112, li_113, li_114, li_115, li_116, li_117, li_118, li_119, li_120, li_121, li_122, li_123, li_124, li_125, li_126, li_127, li_128, li_144, li_150, li_200, li_255, li_384, li_512, li_999, li_1000, li_1024, li_1152, li_1920, li_3776, li_4096, li_9216, li_10000, li_100000, li_1073741824, li_m, ↓rcb_60, ↓fIb_60, ↓pIb_60, ↓fRb_60_4, ↓fRb_60_5, ↓fRb_60_6, ↓fRb_60_7, ↓fRb_60_8, ↓fRb_60_10, ↓fRb_60_11, ↓fRb_60_12, ↓fRb_60_13, ↓fRb_60_14, ↓fRb_60_16, ↓fRb_60_17, ↓fRb_60_18, ↓fRb_60_24, ↓fRb_60_25, ↓fRb_60_26, ↓fRb_60_30, ↓fRb_60_31, ↓fRb_60_36, ↓fRb_60_37, ↓fRb_60_42, ↓fRb_60_43, ↓fRb_60_44, ↓fRb_60_45, ↓aIb_61, ↓sIb_61, ↓aIb_62, ↓sIb_62, ↓aIb_63, ↓sIb_63, ↓aIb_64, ↓sIb_64, ↓aIb_65, ↓sIb_65, ↓aIb_66, ↓sIb_66, ↓aIb_67, ↓sIb_67, ↓aIb_68, ↓sIb_68, ↓aIb_69, ↓sIb_69, ↓aIb_70, ↓sIb_70, ↓aIb_71, ↓sIb_71, ↓aIb_72, ↓sIb_72, ↓aIb_73, ↓sIb_73, ↓aIb_74, ↓sIb_74, ↓aIb_75, ↓sIb_75, ↓aIb_76, ↓sIb_76, ↓aIb_77, ↓sIb_77, ↓aIb_78, ↓sIb_78, ↓aIb_79, ↓sIb_79, ↓aIb_80, ↓sIb_80, ↓aIb_81, ↓sIb_81, ↓aIb_82, ↓sIb_82, ↓aIb_83, ↓sIb_83, ↓aIb_84, ↓sIb_84, r0_60_4, r0_60_5, r0_60_6, r0_60_7, r0_60_8, r0_60_10, r0_60_11, r0_60_12, r0_60_13, r0_60_14, r0_60_16, r0_60_17, r0_60_18, r0_60_24, r0_60_25, r0_60_26, r0_60_30, r0_60_31, r0_60_36, r0_60_37, r0_60_42, r0_60_43, r0_60_44, r0_60_45, rc_60, fI_60, fR_60, pI_60, aI_61, sI_61, aI_62, sI_62, aI_63, sI_63, aI_64, sI_64, aI_65, sI_65, aI_66, sI_66, aI_67, sI_67, aI_68, sI_68, aI_69, sI_69, aI_70, sI_70, aI_71, sI_71, aI_72, sI_72, aI_73, sI_73, aI_74, sI_74, aI_75, sI_75, aI_76, sI_76, aI_77, sI_77, aI_78, sI_78, aI_79, sI_79, aI_80, sI_80, aI_81, sI_81, aI_82, sI_82, aI_83, sI_83, aI_84, sI_84, w_bind, w_bd2, b01_eq0, b01_ok, b01_ok2, w_lt, w_le, w_eq, w_mlt, w_mle, w_ltm, w_lem, w_meq, w_eqm, w_mm, w_mmlt, w_mmle, nI_add, w_sub, pk_mul, w_div, w_rem, w_and, w_or, w_shr, w_shl1, w_a31, w_andn, a0, Nat.le_refl, if_true]
  rw [e1, runsS_of]
end Seen
