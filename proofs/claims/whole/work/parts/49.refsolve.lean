/-! the reference: which standings there are, which are caught, which are of a layer -/
section RefS
variable {FU : Nat} {P : Pln} {I : Nat → Nat → Int32} {pl nm hd rd : Option Nat}
def vdB (P : Pln) (s : Sd) : Bool := isPr P s.1 s.2.1 && (decide (s.2.2.1 < Pp P) && (decide (s.2.2.2.1 < 2) && decide (s.2.2.2.2 < shS P)))
theorem vdB_iff {s : Sd} : vdB P s = true ↔ Vd P s := by
  unfold vdB Vd
  simp
def nMv (P : Pln) (s : Sd) : Nat := cnt (fun m => (bhd P s m).isSome) 33
def cgtB (P : Pln) (s : Sd) : Bool := s.1 == s.2.2.1 || (s.2.1 == s.2.2.1 || (s.2.2.2.1 == 1 && nMv P s == 0))
theorem cnt_0 {p : Nat → Bool} {n : Nat} : cnt p n = 0 ↔ ∀ i, i < n → p i = false := by
  induction n with
  | zero => exact ⟨fun _ i h => absurd h (Nat.not_lt_zero i), fun _ => rfl⟩
  | succ n ih =>
    unfold cnt
    constructor
    · intro h i hi
      have h1 : cnt p n = 0 := by omega
      by_cases e : i = n
      · subst e
        cases q : p i
        · rfl
        · rw [q] at h; simp at h
      · exact ih.mp h1 i (by omega)
    · intro h
      rw [ih.mpr (fun i hi => h i (by omega)), h n (by omega)]
      rfl
theorem cgtB_iff {s : Sd} : cgtB P s = true ↔ Cgt P s := by
  unfold cgtB Cgt
  simp only [Bool.or_eq_true, beq_iff_eq, Bool.and_eq_true]
  have e : nMv P s = 0 ↔ ∀ m, m ≤ 32 → bhd P s m = none := by
    unfold nMv
    rw [cnt_0]
    constructor
    · intro h m hm
      have := h m (by omega)
      simpa using this
    · intro h m hm
      rw [h m (by omega)]
      rfl
  rw [e]
theorem Vd_in (hW : WfP P) {s : Sd} (h : Vd P s) : inS s := by
  have hp := wf_p hW
  have hs := shS_le P
  have h1 := isPr_iff.mp h.1
  exact ⟨by omega, by omega, by have := h.2.1; omega, h.2.2.1, by have := h.2.2.2; omega⟩
theorem r_bhd (hF : 99999999 ≤ FU) (hP : PlR P I) (hW : WfP P) {s : Sd} {m : Nat} (hs : Vd P s) (hm : m ≤ 32) : fX9_behind FU 60 (nI (cR s)) (nI m) (I, R0 pl nm hd rd) = some (oI ((bhd P s m).map cR), (I, R0 pl nm hd rd)) := by
  have h1 := isPr_iff.mp hs.1
  have h2 := shS_le P
  exact r_behind hF hP hW (h := s.1) (i := s.2.1) (r := s.2.2.1) (t := s.2.2.2.1) (sh := s.2.2.2.2) h1.1 h1.2.1 hs.2.1 hs.2.2.1 (by have := hs.2.2.2; omega) hm h1.2.2.1
theorem bhd_run16 (hW : WfP P) {s : Sd} {m : Nat} (ht : s.2.2.2.1 = 1) (hm : 16 < m) : bhd P s m = none := by
  have := wf_n hW
  unfold bhd
  rw [if_pos ht]
  have e : rAft P s.1 s.2.1 s.2.2.1 m = none := by
    unfold rAft
    rw [if_neg (by omega), if_pos (by omega)]
  rw [e]
  simp
theorem r_movesOf (hF : 99999999 ≤ FU) (hP : PlR P I) (hW : WfP P) {s : Sd} (hs : Vd P s) : fX9_movesOf FU 60 (nI (cR s)) (I, R0 pl nm hd rd) = some (nI (nMv P s), (I, R0 pl nm hd rd)) := by
  have hin := Vd_in hW hs
  have d0 := r_turn (FU := FU) (pl := pl) (nm := nm) (hd := hd) (rd := rd) (I := I) hin
  have hb := cR_lt hin
  have step : ∀ m, m < 33 → ∀ F, fX9_movesOf_L4 FU 60 (nI (cR s)) (F + 1) (nI (cnt (fun m => (bhd P s m).isSome) m)) (nI m) (I, R0 pl nm hd rd) = fX9_movesOf_L4 FU 60 (nI (cR s)) F (nI (cnt (fun m => (bhd P s m).isSome) (m + 1))) (nI (m + 1)) (I, R0 pl nm hd rd) := by
    intro m hm F
    have d1 := r_bhd (FU := FU) (pl := pl) (nm := nm) (hd := hd) (rd := rd) hF hP hW hs (m := m) (by omega)
    have d2 : cnt (fun m => (bhd P s m).isSome) (m + 1) = cnt (fun m => (bhd P s m).isSome) m + if (bhd P s m).isSome = true then 1 else 0 := rfl
    have d3 := cnt_le (fun m => (bhd P s m).isSome) m
    rw [fX9_movesOf_L4, d2]
    unfold fX9_movesOf_b25 fX9_movesOf_b38 fX9_movesOf_b39
    have d5 := hs.2.2.1
    cases e : bhd P s m with
    | none =>
      rw [e] at d1
      simp (discharger := omega) only [li_0, li_1, li_2, li_3, li_4, li_5, li_6, li_7, li_8, li_9, li_10, li_11, li_12, li_13, li_14, li_15, li_16, li_17, li_18, li_19, li_20, li_21, li_22, li_23, li_24, li_25, li_26, li_27, li_28, li_29, li_30, li_31, li_32, li_33, li_34, li_35, li_36, li_37, li_38, li_39, li_40, li_41, li_42, li_43, li_44, li_45, li_46, li_47, li_48, li_49, li_50, li_51, li_52, li_53, li_54, li_55, li_56, li_57, li_58, li_59, li_60, li_61, li_62, li_63, li_64, li_65, li_66, li_67, li_68, li_69, li_70, li_71, li_72, li_73, li_74, li_75, li_76, li_77, li_78, li_79, li_80, li_81, li_82, li_83, li_84, li_85, li_86, li_87, li_88, li_89, li_90, li_91, li_92, li_93, li_94, li_95, li_96, li_97, li_98, li_99, li_100, li_101, li_102, li_103, li_104, li_105, li_106, li_107, li_108, li_109, li_110, li_111, li_112, li_113, li_114, li_115, li_116, li_117, li_118, li_119, li_120, li_121, li_122, li_123, li_124, li_125, li_126, li_127, li_128, li_144, li_150, li_200, li_255, li_384, li_512, li_999, li_1000, li_1024, li_1152, li_1920, li_3776, li_4096, li_9216, li_10000, li_100000, li_1073741824, li_m, ↓rcb_60, ↓fIb_60, ↓pIb_60, ↓fRb_60_4, ↓fRb_60_5, ↓fRb_60_6, ↓fRb_60_7, ↓fRb_60_8, ↓fRb_60_10, ↓fRb_60_11, ↓fRb_60_12, ↓fRb_60_13, ↓fRb_60_14, ↓fRb_60_16, ↓fRb_60_17, ↓fRb_60_18, ↓fRb_60_24, ↓fRb_60_25, ↓fRb_60_26, ↓fRb_60_30, ↓fRb_60_31, ↓fRb_60_36, ↓fRb_60_37, ↓fRb_60_42, ↓fRb_60_43, ↓fRb_60_44, ↓fRb_60_45, ↓aIb_61, ↓sIb_61, ↓aIb_62, ↓sIb_62, ↓aIb_63, ↓sIb_63, ↓aIb_64, ↓sIb_64, ↓aIb_65, ↓sIb_65, ↓aIb_66, ↓sIb_66, ↓aIb_67, ↓sIb_67, ↓aIb_68, ↓sIb_68, ↓aIb_69, ↓sIb_69, ↓aIb_70, ↓sIb_70, ↓aIb_71, ↓sIb_71, ↓aIb_72, ↓sIb_72, ↓aIb_73, ↓sIb_73, ↓aIb_74, ↓sIb_74, ↓aIb_75, ↓sIb_75, ↓aIb_76, ↓sIb_76, ↓aIb_77, ↓sIb_77, ↓aIb_78, ↓sIb_78, ↓aIb_79, ↓sIb_79, ↓aIb_80, ↓sIb_80, ↓aIb_81, ↓sIb_81, ↓aIb_82, ↓sIb_82, ↓aIb_83, ↓sIb_83, ↓aIb_84, ↓sIb_84, r0_60_4, r0_60_5, r0_60_6, r0_60_7, r0_60_8, r0_60_10, r0_60_11, r0_60_12, r0_60_13, r0_60_14, r0_60_16, r0_60_17, r0_60_18, r0_60_24, r0_60_25, r0_60_26, r0_60_30, r0_60_31, r0_60_36, r0_60_37, r0_60_42, r0_60_43, r0_60_44, r0_60_45, rc_60, fI_60, fR_60, pI_60, aI_61, sI_61, aI_62, sI_62, aI_63, sI_63, aI_64, sI_64, aI_65, sI_65, aI_66, sI_66, aI_67, sI_67, aI_68, sI_68, aI_69, sI_69, aI_70, sI_70, aI_71, sI_71, aI_72, sI_72, aI_73, sI_73, aI_74, sI_74, aI_75, sI_75, aI_76, sI_76, aI_77, sI_77, aI_78, sI_78, aI_79, sI_79, aI_80, sI_80, aI_81, sI_81, aI_82, sI_82, aI_83, sI_83, aI_84, sI_84, ↓dn d1, ↓dn d0, w_bind, w_bd2, b01_eq0, b01_ok, b01_ok2, w_lt, w_le, w_eq, w_mlt, w_mle, w_ltm, w_lem, w_meq, w_eqm, w_mm, w_mmlt, w_mmle, nI_add, w_sub, pk_mul, w_div, w_rem, w_and, w_or, w_shr, w_shl1, w_a31, w_andn, show ¬ 32 < m by omega, if_false, oI, Option.map_none]
      by_cases z : m ≤ 16
      · simp [z]
      · obtain z2 | z2 : s.2.2.2.1 = 0 ∨ s.2.2.2.1 = 1 := by omega
        · simp [z, z2]
        · simp [z, z2]
    | some t =>
      have d4 := cR_lt (Vd_in hW (bhd_Vd hW hs e))
      rw [e] at d1
      simp (discharger := omega) only [li_0, li_1, li_2, li_3, li_4, li_5, li_6, li_7, li_8, li_9, li_10, li_11, li_12, li_13, li_14, li_15, li_16, li_17, li_18, li_19, li_20, li_21, li_22, li_23, li_24, li_25, li_26, li_27, li_28, li_29, li_30, li_31, li_32, li_33, li_34, li_35, li_36, li_37, li_38, li_39, li_40, li_41, li_42, li_43, li_44, li_45, li_46, li_47, li_48, li_49, li_50, li_51, li_52, li_53, li_54, li_55, li_56, li_57, li_58, li_59, li_60, li_61, li_62, li_63, li_64, li_65, li_66, li_67, li_68, li_69, li_70, li_71, li_72, li_73, li_74, li_75, li_76, li_77, li_78, li_79, li_80, li_81, li_82, li_83, li_84, li_85, li_86, li_87, li_88, li_89, li_90, li_91, li_92, li_93, li_94, li_95, li_96, li_97, li_98, li_99, li_100, li_101, li_102, li_103, li_104, li_105, li_106, li_107, li_108, li_109, li_110, li_111, li_112, li_113, li_114, li_115, li_116, li_117, li_118, li_119, li_120, li_121, li_122, li_123, li_124, li_125, li_126, li_127, li_128, li_144, li_150, li_200, li_255, li_384, li_512, li_999, li_1000, li_1024, li_1152, li_1920, li_3776, li_4096, li_9216, li_10000, li_100000, li_1073741824, li_m, ↓rcb_60, ↓fIb_60, ↓pIb_60, ↓fRb_60_4, ↓fRb_60_5, ↓fRb_60_6, ↓fRb_60_7, ↓fRb_60_8, ↓fRb_60_10, ↓fRb_60_11, ↓fRb_60_12, ↓fRb_60_13, ↓fRb_60_14, ↓fRb_60_16, ↓fRb_60_17, ↓fRb_60_18, ↓fRb_60_24, ↓fRb_60_25, ↓fRb_60_26, ↓fRb_60_30, ↓fRb_60_31, ↓fRb_60_36, ↓fRb_60_37, ↓fRb_60_42, ↓fRb_60_43, ↓fRb_60_44, ↓fRb_60_45, ↓aIb_61, ↓sIb_61, ↓aIb_62, ↓sIb_62, ↓aIb_63, ↓sIb_63, ↓aIb_64, ↓sIb_64, ↓aIb_65, ↓sIb_65, ↓aIb_66, ↓sIb_66, ↓aIb_67, ↓sIb_67, ↓aIb_68, ↓sIb_68, ↓aIb_69, ↓sIb_69, ↓aIb_70, ↓sIb_70, ↓aIb_71, ↓sIb_71, ↓aIb_72, ↓sIb_72, ↓aIb_73, ↓sIb_73, ↓aIb_74, ↓sIb_74, ↓aIb_75, ↓sIb_75, ↓aIb_76, ↓sIb_76, ↓aIb_77, ↓sIb_77, ↓aIb_78, ↓sIb_78, ↓aIb_79, ↓sIb_79, ↓aIb_80, ↓sIb_80, ↓aIb_81, ↓sIb_81, ↓aIb_82, ↓sIb_82, ↓aIb_83, ↓sIb_83, ↓aIb_84, ↓sIb_84, r0_60_4, r0_60_5, r0_60_6, r0_60_7, r0_60_8, r0_60_10, r0_60_11, r0_60_12, r0_60_13, r0_60_14, r0_60_16, r0_60_17, r0_60_18, r0_60_24, r0_60_25, r0_60_26, r0_60_30, r0_60_31, r0_60_36, r0_60_37, r0_60_42, r0_60_43, r0_60_44, r0_60_45, rc_60, fI_60, fR_60, pI_60, aI_61, sI_61, aI_62, sI_62, aI_63, sI_63, aI_64, sI_64, aI_65, sI_65, aI_66, sI_66, aI_67, sI_67, aI_68, sI_68, aI_69, sI_69, aI_70, sI_70, aI_71, sI_71, aI_72, sI_72, aI_73, sI_73, aI_74, sI_74, aI_75, sI_75, aI_76, sI_76, aI_77, sI_77, aI_78, sI_78, aI_79, sI_79, aI_80, sI_80, aI_81, sI_81, aI_82, sI_82, aI_83, sI_83, aI_84, sI_84, ↓dn d1, ↓dn d0, w_bind, w_bd2, b01_eq0, b01_ok, b01_ok2, w_lt, w_le, w_eq, w_mlt, w_mle, w_ltm, w_lem, w_meq, w_eqm, w_mm, w_mmlt, w_mmle, nI_add, w_sub, pk_mul, w_div, w_rem, w_and, w_or, w_shr, w_shl1, w_a31, w_andn, show ¬ 32 < m by omega, if_false, oI, Option.map_some]
      by_cases z : m ≤ 16
      · simp [z]
      · obtain z2 | z2 : s.2.2.2.1 = 0 ∨ s.2.2.2.1 = 1 := by omega
        · simp [z, z2]
        · rw [bhd_run16 hW z2 (by omega)] at e
          cases e
  have lp := lpU (fun F (q : Int32 × Int32 × Mem) => fX9_movesOf_L4 FU 60 (nI (cR s)) F q.1 q.2.1 q.2.2) (fun m => (nI (cnt (fun m => (bhd P s m).isSome) m), nI m, (I, R0 pl nm hd rd))) 33 step 33 0 FU (by omega) (by omega)
  simp only at lp
  obtain ⟨G, hG⟩ : ∃ G, FU - 33 = G + 1 := ⟨FU - 33 - 1, by omega⟩
  show fX9_movesOf_L4 FU 60 (nI (cR s)) FU (nI (cnt (fun m => (bhd P s m).isSome) 0)) (nI 0) (I, R0 pl nm hd rd) = _
  rw [lp, hG, fX9_movesOf_L4]
  simp (discharger := omega) only [li_0, li_1, li_2, li_3, li_4, li_5, li_6, li_7, li_8, li_9, li_10, li_11, li_12, li_13, li_14, li_15, li_16, li_17, li_18, li_19, li_20, li_21, li_22, li_23, li_24, li_25, li_26, li_27, li_28, li_29, li_30, li_31, li_32, li_33, li_34, li_35, li_36, li_37, li_38, li_39, li_40, li_41, li_42, li_43, li_44, li_45, li_46, li_47, li_48, li_49, li_50, li_51, li_52, li_53, li_54, li_55, li_56, li_57, li_58, li_59, li_60, li_61, li_62, li_63, li_64, li_65, li_66, li_67, li_68, li_69, li_70, li_71, li_72, li_73, li_74, li_75, li_76, li_77, li_78, li_79, li_80, li_81, li_82, li_83, li_84, li_85, li_86, li_87, li_88, li_89, li_90, li_91, li_92, li_93, li_94, li_95, li_96, li_97, li_98, li_99, li_100, li_101, li_102, li_103, li_104, li_105, li_106, li_107, li_108, li_109, li_110, li_111, li_112, li_113, li_114, li_115, li_116, li_117, li_118, li_119, li_120, li_121, li_122, li_123, li_124, li_125, li_126, li_127, li_128, li_144, li_150, li_200, li_255, li_384, li_512, li_999, li_1000, li_1024, li_1152, li_1920, li_3776, li_4096, li_9216, li_10000, li_100000, li_1073741824, li_m, w_lt, w_le, w_eq, w_mlt, w_mle, w_ltm, w_lem, w_meq, w_eqm, w_mm, w_mmlt, w_mmle, nI_add, w_sub, pk_mul, w_div, w_rem, w_and, w_or, w_shr, w_shl1, w_a31, w_andn]
  rfl
theorem r_isTaken {s : Sd} (hs : inS s) : fX9_isTaken FU 60 (nI (cR s)) (I, R0 pl nm hd rd) = some (b01 (s.1 = s.2.2.1 ∨ s.2.1 = s.2.2.1), (I, R0 pl nm hd rd)) := by
  have d1 := r_first (FU := FU) (pl := pl) (nm := nm) (hd := hd) (rd := rd) (I := I) hs
  have d2 := r_second (FU := FU) (pl := pl) (nm := nm) (hd := hd) (rd := rd) (I := I) hs
  have d3 := r_runner (FU := FU) (pl := pl) (nm := nm) (hd := hd) (rd := rd) (I := I) hs
  obtain ⟨h1, h2, h3, h4, h5⟩ := hs
  unfold fX9_isTaken fX9_isTaken_b26 b01
  simp (discharger := omega) only [li_0, li_1, li_2, li_3, li_4, li_5, li_6, li_7, li_8, li_9, li_10, li_11, li_12, li_13, li_14, li_15, li_16, li_17, li_18, li_19, li_20, li_21, li_22, li_23, li_24, li_25, li_26, li_27, li_28, li_29, li_30, li_31, li_32, li_33, li_34, li_35, li_36, li_37, li_38, li_39, li_40, li_41, li_42, li_43, li_44, li_45, li_46, li_47, li_48, li_49, li_50, li_51, li_52, li_53, li_54, li_55, li_56, li_57, li_58, li_59, li_60, li_61, li_62, li_63, li_64, li_65, li_66, li_67, li_68, li_69, li_70, li_71, li_72, li_73, li_74, li_75, li_76, li_77, li_78, li_79, li_80, li_81, li_82, li_83, li_84, li_85, li_86, li_87, li_88, li_89, li_90, li_91, li_92, li_93, li_94, li_95, li_96, li_97, li_98, li_99, li_100, li_101, li_102, li_103, li_104, li_105, li_106, li_107, li_108, li_109, li_110, li_111, li_112, li_113, li_114, li_115, li_116, li_117, li_118, li_119, li_120, li_121, li_122, li_123, li_124, li_125, li_126, li_127, li_128, li_144, li_150, li_200, li_255, li_384, li_512, li_999, li_1000, li_1024, li_1152, li_1920, li_3776, li_4096, li_9216, li_10000, li_100000, li_1073741824, li_m, ↓rcb_60, ↓fIb_60, ↓pIb_60, ↓fRb_60_4, ↓fRb_60_5, ↓fRb_60_6, ↓fRb_60_7, ↓fRb_60_8, ↓fRb_60_10, ↓fRb_60_11, ↓fRb_60_12, ↓fRb_60_13, ↓fRb_60_14, ↓fRb_60_16, ↓fRb_60_17, ↓fRb_60_18, ↓fRb_60_24, ↓fRb_60_25, ↓fRb_60_26, ↓fRb_60_30, ↓fRb_60_31, ↓fRb_60_36, ↓fRb_60_37, ↓fRb_60_42, ↓fRb_60_43, ↓fRb_60_44, ↓fRb_60_45, ↓aIb_61, ↓sIb_61, ↓aIb_62, ↓sIb_62, ↓aIb_63, ↓sIb_63, ↓aIb_64, ↓sIb_64, ↓aIb_65, ↓sIb_65, ↓aIb_66, ↓sIb_66, ↓aIb_67, ↓sIb_67, ↓aIb_68, ↓sIb_68, ↓aIb_69, ↓sIb_69, ↓aIb_70, ↓sIb_70, ↓aIb_71, ↓sIb_71, ↓aIb_72, ↓sIb_72, ↓aIb_73, ↓sIb_73, ↓aIb_74, ↓sIb_74, ↓aIb_75, ↓sIb_75, ↓aIb_76, ↓sIb_76, ↓aIb_77, ↓sIb_77, ↓aIb_78, ↓sIb_78, ↓aIb_79, ↓sIb_79, ↓aIb_80, ↓sIb_80, ↓aIb_81, ↓sIb_81, ↓aIb_82, ↓sIb_82, ↓aIb_83, ↓sIb_83, ↓aIb_84, ↓sIb_84, r0_60_4, r0_60_5, r0_60_6, r0_60_7, r0_60_8, r0_60_10, r0_60_11, r0_60_12, r0_60_13, r0_60_14, r0_60_16, r0_60_17, r0_60_18, r0_60_24, r0_60_25, r0_60_26, r0_60_30, r0_60_31, r0_60_36, r0_60_37, r0_60_42, r0_60_43, r0_60_44, r0_60_45, rc_60, fI_60, fR_60, pI_60, aI_61, sI_61, aI_62, sI_62, aI_63, sI_63, aI_64, sI_64, aI_65, sI_65, aI_66, sI_66, aI_67, sI_67, aI_68, sI_68, aI_69, sI_69, aI_70, sI_70, aI_71, sI_71, aI_72, sI_72, aI_73, sI_73, aI_74, sI_74, aI_75, sI_75, aI_76, sI_76, aI_77, sI_77, aI_78, sI_78, aI_79, sI_79, aI_80, sI_80, aI_81, sI_81, aI_82, sI_82, aI_83, sI_83, aI_84, sI_84, ↓dn d1, ↓dn d2, ↓dn d3, w_bind, w_bd2, b01_eq0, b01_ok, b01_ok2, w_lt, w_le, w_eq, w_mlt, w_mle, w_ltm, w_lem, w_meq, w_eqm, w_mm, w_mmlt, w_mmle, nI_add, w_sub, pk_mul, w_div, w_rem, w_and, w_or, w_shr, w_shl1, w_a31, w_andn]
  by_cases z1 : s.1 = s.2.2.1 <;> by_cases z2 : s.2.1 = s.2.2.1 <;> simp [z1, z2]
theorem r_isCaught (hF : 99999999 ≤ FU) (hP : PlR P I) (hW : WfP P) {s : Sd} (hs : Vd P s) : fX9_isCaught FU 60 (nI (cR s)) (I, R0 pl nm hd rd) = some (b01 (cgtB P s = true), (I, R0 pl nm hd rd)) := by
  have hin := Vd_in hW hs
  have d1 := r_isTaken (FU := FU) (pl := pl) (nm := nm) (hd := hd) (rd := rd) (I := I) hin
  have d2 := r_turn (FU := FU) (pl := pl) (nm := nm) (hd := hd) (rd := rd) (I := I) hin
  have d3 := r_movesOf (FU := FU) (pl := pl) (nm := nm) (hd := hd) (rd := rd) hF hP hW hs
  have d4 : nMv P s ≤ 33 := cnt_le _ _
  have d5 := hs.2.2.1
  unfold fX9_isCaught fX9_isCaught_b25 cgtB
  simp (discharger := omega) only [li_0, li_1, li_2, li_3, li_4, li_5, li_6, li_7, li_8, li_9, li_10, li_11, li_12, li_13, li_14, li_15, li_16, li_17, li_18, li_19, li_20, li_21, li_22, li_23, li_24, li_25, li_26, li_27, li_28, li_29, li_30, li_31, li_32, li_33, li_34, li_35, li_36, li_37, li_38, li_39, li_40, li_41, li_42, li_43, li_44, li_45, li_46, li_47, li_48, li_49, li_50, li_51, li_52, li_53, li_54, li_55, li_56, li_57, li_58, li_59, li_60, li_61, li_62, li_63, li_64, li_65, li_66, li_67, li_68, li_69, li_70, li_71, li_72, li_73, li_74, li_75, li_76, li_77, li_78, li_79, li_80, li_81, li_82, li_83, li_84, li_85, li_86, li_87, li_88, li_89, li_90, li_91, li_92, li_93, li_94, li_95, li_96, li_97, li_98, li_99, li_100, li_101, li_102, li_103, li_104, li_105, li_106, li_107, li_108, li_109, li_110, li_111, li_112, li_113, li_114, li_115, li_116, li_117, li_118, li_119, li_120, li_121, li_122, li_123, li_124, li_125, li_126, li_127, li_128, li_144, li_150, li_200, li_255, li_384, li_512, li_999, li_1000, li_1024, li_1152, li_1920, li_3776, li_4096, li_9216, li_10000, li_100000, li_1073741824, li_m, ↓rcb_60, ↓fIb_60, ↓pIb_60, ↓fRb_60_4, ↓fRb_60_5, ↓fRb_60_6, ↓fRb_60_7, ↓fRb_60_8, ↓fRb_60_10, ↓fRb_60_11, ↓fRb_60_12, ↓fRb_60_13, ↓fRb_60_14, ↓fRb_60_16, ↓fRb_60_17, ↓fRb_60_18, ↓fRb_60_24, ↓fRb_60_25, ↓fRb_60_26, ↓fRb_60_30, ↓fRb_60_31, ↓fRb_60_36, ↓fRb_60_37, ↓fRb_60_42, ↓fRb_60_43, ↓fRb_60_44, ↓fRb_60_45, ↓aIb_61, ↓sIb_61, ↓aIb_62, ↓sIb_62, ↓aIb_63, ↓sIb_63, ↓aIb_64, ↓sIb_64, ↓aIb_65, ↓sIb_65, ↓aIb_66, ↓sIb_66, ↓aIb_67, ↓sIb_67, ↓aIb_68, ↓sIb_68, ↓aIb_69, ↓sIb_69, ↓aIb_70, ↓sIb_70, ↓aIb_71, ↓sIb_71, ↓aIb_72, ↓sIb_72, ↓aIb_73, ↓sIb_73, ↓aIb_74, ↓sIb_74, ↓aIb_75, ↓sIb_75, ↓aIb_76, ↓sIb_76, ↓aIb_77, ↓sIb_77, ↓aIb_78, ↓sIb_78, ↓aIb_79, ↓sIb_79, ↓aIb_80, ↓sIb_80, ↓aIb_81, ↓sIb_81, ↓aIb_82, ↓sIb_82, ↓aIb_83, ↓sIb_83, ↓aIb_84, ↓sIb_84, r0_60_4, r0_60_5, r0_60_6, r0_60_7, r0_60_8, r0_60_10, r0_60_11, r0_60_12, r0_60_13, r0_60_14, r0_60_16, r0_60_17, r0_60_18, r0_60_24, r0_60_25, r0_60_26, r0_60_30, r0_60_31, r0_60_36, r0_60_37, r0_60_42, r0_60_43, r0_60_44, r0_60_45, rc_60, fI_60, fR_60, pI_60, aI_61, sI_61, aI_62, sI_62, aI_63, sI_63, aI_64, sI_64, aI_65, sI_65, aI_66, sI_66, aI_67, sI_67, aI_68, sI_68, aI_69, sI_69, aI_70, sI_70, aI_71, sI_71, aI_72, sI_72, aI_73, sI_73, aI_74, sI_74, aI_75, sI_75, aI_76, sI_76, aI_77, sI_77, aI_78, sI_78, aI_79, sI_79, aI_80, sI_80, aI_81, sI_81, aI_82, sI_82, aI_83, sI_83, aI_84, sI_84, ↓dn d1, ↓dn d2, ↓dn d3, w_bind, w_bd2, b01_eq0, b01_ok, b01_ok2, w_lt, w_le, w_eq, w_mlt, w_mle, w_ltm, w_lem, w_meq, w_eqm, w_mm, w_mmlt, w_mmle, nI_add, w_sub, pk_mul, w_div, w_rem, w_and, w_or, w_shr, w_shl1, w_a31, w_andn]
  by_cases z1 : s.1 = s.2.2.1 <;> by_cases z2 : s.2.1 = s.2.2.1 <;> by_cases z3 : s.2.2.2.1 = 1 <;> by_cases z4 : nMv P s = 0 <;> simp [z1, z2, z3, z4, b01] <;> rfl
theorem r_isShutRight (hF : 99999999 ≤ FU) (hP : PlR P I) (hW : WfP P) {sh : Nat} (hs : sh < 9) : fX9_isShutRight FU 60 (nI sh) (I, R0 pl nm hd rd) = some (b01 (sh < shS P), (I, R0 pl nm hd rd)) := by
  have d1 := r_shutters (FU := FU) (pl := pl) (nm := nm) (hd := hd) (rd := rd) hF hP hW
  have d2 := wf_sh hW
  unfold fX9_isShutRight fX9_isShutRight_b24 shS
  simp (discharger := omega) only [li_0, li_1, li_2, li_3, li_4, li_5, li_6, li_7, li_8, li_9, li_10, li_11, li_12, li_13, li_14, li_15, li_16, li_17, li_18, li_19, li_20, li_21, li_22, li_23, li_24, li_25, li_26, li_27, li_28, li_29, li_30, li_31, li_32, li_33, li_34, li_35, li_36, li_37, li_38, li_39, li_40, li_41, li_42, li_43, li_44, li_45, li_46, li_47, li_48, li_49, li_50, li_51, li_52, li_53, li_54, li_55, li_56, li_57, li_58, li_59, li_60, li_61, li_62, li_63, li_64, li_65, li_66, li_67, li_68, li_69, li_70, li_71, li_72, li_73, li_74, li_75, li_76, li_77, li_78, li_79, li_80, li_81, li_82, li_83, li_84, li_85, li_86, li_87, li_88, li_89, li_90, li_91, li_92, li_93, li_94, li_95, li_96, li_97, li_98, li_99, li_100, li_101, li_102, li_103, li_104, li_105, li_106, li_107, li_108, li_109, li_110, li_111, li_112, li_113, li_114, li_115, li_116, li_117, li_118, li_119, li_120, li_121, li_122, li_123, li_124, li_125, li_126, li_127, li_128, li_144, li_150, li_200, li_255, li_384, li_512, li_999, li_1000, li_1024, li_1152, li_1920, li_3776, li_4096, li_9216, li_10000, li_100000, li_1073741824, li_m, ↓rcb_60, ↓fIb_60, ↓pIb_60, ↓fRb_60_4, ↓fRb_60_5, ↓fRb_60_6, ↓fRb_60_7, ↓fRb_60_8, ↓fRb_60_10, ↓fRb_60_11, ↓fRb_60_12, ↓fRb_60_13, ↓fRb_60_14, ↓fRb_60_16, ↓fRb_60_17, ↓fRb_60_18, ↓fRb_60_24, ↓fRb_60_25, ↓fRb_60_26, ↓fRb_60_30, ↓fRb_60_31, ↓fRb_60_36, ↓fRb_60_37, ↓fRb_60_42, ↓fRb_60_43, ↓fRb_60_44, ↓fRb_60_45, ↓aIb_61, ↓sIb_61, ↓aIb_62, ↓sIb_62, ↓aIb_63, ↓sIb_63, ↓aIb_64, ↓sIb_64, ↓aIb_65, ↓sIb_65, ↓aIb_66, ↓sIb_66, ↓aIb_67, ↓sIb_67, ↓aIb_68, ↓sIb_68, ↓aIb_69, ↓sIb_69, ↓aIb_70, ↓sIb_70, ↓aIb_71, ↓sIb_71, ↓aIb_72, ↓sIb_72, ↓aIb_73, ↓sIb_73, ↓aIb_74, ↓sIb_74, ↓aIb_75, ↓sIb_75, ↓aIb_76, ↓sIb_76, ↓aIb_77, ↓sIb_77, ↓aIb_78, ↓sIb_78, ↓aIb_79, ↓sIb_79, ↓aIb_80, ↓sIb_80, ↓aIb_81, ↓sIb_81, ↓aIb_82, ↓sIb_82, ↓aIb_83, ↓sIb_83, ↓aIb_84, ↓sIb_84, r0_60_4, r0_60_5, r0_60_6, r0_60_7, r0_60_8, r0_60_10, r0_60_11, r0_60_12, r0_60_13, r0_60_14, r0_60_16, r0_60_17, r0_60_18, r0_60_24, r0_60_25, r0_60_26, r0_60_30, r0_60_31, r0_60_36, r0_60_37, r0_60_42, r0_60_43, r0_60_44, r0_60_45, rc_60, fI_60, fR_60, pI_60, aI_61, sI_61, aI_62, sI_62, aI_63, sI_63, aI_64, sI_64, aI_65, sI_65, aI_66, sI_66, aI_67, sI_67, aI_68, sI_68, aI_69, sI_69, aI_70, sI_70, aI_71, sI_71, aI_72, sI_72, aI_73, sI_73, aI_74, sI_74, aI_75, sI_75, aI_76, sI_76, aI_77, sI_77, aI_78, sI_78, aI_79, sI_79, aI_80, sI_80, aI_81, sI_81, aI_82, sI_82, aI_83, sI_83, aI_84, sI_84, ↓dn d1, w_bind, w_bd2, b01_eq0, b01_ok, b01_ok2, w_lt, w_le, w_eq, w_mlt, w_mle, w_ltm, w_lem, w_meq, w_eqm, w_mm, w_mmlt, w_mmle, nI_add, w_sub, pk_mul, w_div, w_rem, w_and, w_or, w_shr, w_shl1, w_a31, w_andn, Nat.le_zero_eq]
  obtain z | z | z : shN P (Pn P) = 0 ∨ shN P (Pn P) = 1 ∨ shN P (Pn P) = 2 := by omega
  · by_cases z1 : sh = 0 <;> simp [z, z1, b01] <;> first | rfl | omega
  · by_cases z1 : sh = 0 <;> by_cases z2 : sh < 3 <;> simp [z, z1, z2, b01] <;> first | rfl | omega
  · by_cases z1 : sh = 0 <;> by_cases z2 : sh < 3 <;> simp [z, z1, z2, b01, hs] <;> first | rfl | omega
theorem r_isOne (hF : 99999999 ≤ FU) (hP : PlR P I) (hW : WfP P) {s : Sd} (hs : inS s) : fX9_isOne FU 60 (nI (cR s)) (I, R0 pl nm hd rd) = some (b01 (vdB P s = true), (I, R0 pl nm hd rd)) := by
  have d1 := r_first (FU := FU) (pl := pl) (nm := nm) (hd := hd) (rd := rd) (I := I) hs
  have d2 := r_second (FU := FU) (pl := pl) (nm := nm) (hd := hd) (rd := rd) (I := I) hs
  have d3 := r_runner (FU := FU) (pl := pl) (nm := nm) (hd := hd) (rd := rd) (I := I) hs
  have d4 := r_shut (FU := FU) (pl := pl) (nm := nm) (hd := hd) (rd := rd) (I := I) hs
  obtain ⟨h1, h2, h3, h4, h5⟩ := hs
  have d5 := r_isShutRight (FU := FU) (pl := pl) (nm := nm) (hd := hd) (rd := rd) hF hP hW h5
  have a1 := hP.1
  have a2 := hP.2.2.1
  have hp := wf_p hW
  have hp2 := wf_h hW
  unfold fX9_isOne fX9_isOne_b58
  simp (discharger := omega) only [li_0, li_1, li_2, li_3, li_4, li_5, li_6, li_7, li_8, li_9, li_10, li_11, li_12, li_13, li_14, li_15, li_16, li_17, li_18, li_19, li_20, li_21, li_22, li_23, li_24, li_25, li_26, li_27, li_28, li_29, li_30, li_31, li_32, li_33, li_34, li_35, li_36, li_37, li_38, li_39, li_40, li_41, li_42, li_43, li_44, li_45, li_46, li_47, li_48, li_49, li_50, li_51, li_52, li_53, li_54, li_55, li_56, li_57, li_58, li_59, li_60, li_61, li_62, li_63, li_64, li_65, li_66, li_67, li_68, li_69, li_70, li_71, li_72, li_73, li_74, li_75, li_76, li_77, li_78, li_79, li_80, li_81, li_82, li_83, li_84, li_85, li_86, li_87, li_88, li_89, li_90, li_91, li_92, li_93, li_94, li_95, li_96, li_97, li_98, li_99, li_100, li_101, li_102, li_103, li_104, li_105, li_106, li_107, li_108, li_109, li_110, li_111, li_112, li_113, li_114, li_115, li_116, li_117, li_118, li_119, li_120, li_121, li_122, li_123, li_124, li_125, li_126, li_127, li_128, li_144, li_150, li_200, li_255, li_384, li_512, li_999, li_1000, li_1024, li_1152, li_1920, li_3776, li_4096, li_9216, li_10000, li_100000, li_1073741824, li_m, ↓rcb_60, ↓fIb_60, ↓pIb_60, ↓fRb_60_4, ↓fRb_60_5, ↓fRb_60_6, ↓fRb_60_7, ↓fRb_60_8, ↓fRb_60_10, ↓fRb_60_11, ↓fRb_60_12, ↓fRb_60_13, ↓fRb_60_14, ↓fRb_60_16, ↓fRb_60_17, ↓fRb_60_18, ↓fRb_60_24, ↓fRb_60_25, ↓fRb_60_26, ↓fRb_60_30, ↓fRb_60_31, ↓fRb_60_36, ↓fRb_60_37, ↓fRb_60_42, ↓fRb_60_43, ↓fRb_60_44, ↓fRb_60_45, ↓aIb_61, ↓sIb_61, ↓aIb_62, ↓sIb_62, ↓aIb_63, ↓sIb_63, ↓aIb_64, ↓sIb_64, ↓aIb_65, ↓sIb_65, ↓aIb_66, ↓sIb_66, ↓aIb_67, ↓sIb_67, ↓aIb_68, ↓sIb_68, ↓aIb_69, ↓sIb_69, ↓aIb_70, ↓sIb_70, ↓aIb_71, ↓sIb_71, ↓aIb_72, ↓sIb_72, ↓aIb_73, ↓sIb_73, ↓aIb_74, ↓sIb_74, ↓aIb_75, ↓sIb_75, ↓aIb_76, ↓sIb_76, ↓aIb_77, ↓sIb_77, ↓aIb_78, ↓sIb_78, ↓aIb_79, ↓sIb_79, ↓aIb_80, ↓sIb_80, ↓aIb_81, ↓sIb_81, ↓aIb_82, ↓sIb_82, ↓aIb_83, ↓sIb_83, ↓aIb_84, ↓sIb_84, r0_60_4, r0_60_5, r0_60_6, r0_60_7, r0_60_8, r0_60_10, r0_60_11, r0_60_12, r0_60_13, r0_60_14, r0_60_16, r0_60_17, r0_60_18, r0_60_24, r0_60_25, r0_60_26, r0_60_30, r0_60_31, r0_60_36, r0_60_37, r0_60_42, r0_60_43, r0_60_44, r0_60_45, rc_60, fI_60, fR_60, pI_60, aI_61, sI_61, aI_62, sI_62, aI_63, sI_63, aI_64, sI_64, aI_65, sI_65, aI_66, sI_66, aI_67, sI_67, aI_68, sI_68, aI_69, sI_69, aI_70, sI_70, aI_71, sI_71, aI_72, sI_72, aI_73, sI_73, aI_74, sI_74, aI_75, sI_75, aI_76, sI_76, aI_77, sI_77, aI_78, sI_78, aI_79, sI_79, aI_80, sI_80, aI_81, sI_81, aI_82, sI_82, aI_83, sI_83, aI_84, sI_84, ↓dn d1, ↓dn d2, ↓dn d3, ↓dn d4, ↓dn d5, w_bind, w_bd2, b01_eq0, b01_ok, b01_ok2, w_lt, w_le, w_eq, w_mlt, w_mle, w_ltm, w_lem, w_meq, w_eqm, w_mm, w_mmlt, w_mmle, nI_add, w_sub, pk_mul, w_div, w_rem, w_and, w_or, w_shr, w_shl1, w_a31, w_andn, a1, a2]
  have e : (vdB P s = true) ↔ (s.1 ≤ s.2.1 ∧ s.2.1 < Pp P ∧ s.2.2.1 < Pp P ∧ (Ph P = 2 ∨ s.1 = s.2.1) ∧ s.2.2.2.2 < shS P) := by
    rw [vdB_iff]
    unfold Vd
    rw [isPr_iff]
    omega
  by_cases z : vdB P s = true
  · rw [b01_pos z]
    have y := e.mp z
    rcases hp2 with q | q
    · simp [show ¬ s.2.1 < s.1 by omega, show ¬ Pp P ≤ s.2.1 by omega, show ¬ Pp P ≤ s.2.2.1 by omega, q, show s.1 = s.2.1 by omega, y.2.2.2.2]
    · simp [show ¬ s.2.1 < s.1 by omega, show ¬ Pp P ≤ s.2.1 by omega, show ¬ Pp P ≤ s.2.2.1 by omega, q, y.2.2.2.2]
  · rw [b01_neg z]
    have y : ¬ (s.1 ≤ s.2.1 ∧ s.2.1 < Pp P ∧ s.2.2.1 < Pp P ∧ (Ph P = 2 ∨ s.1 = s.2.1) ∧ s.2.2.2.2 < shS P) := fun q => z (e.mpr q)
    by_cases y1 : s.2.1 < s.1
    · simp [y1]
    · by_cases y2 : Pp P ≤ s.2.1
      · simp [y1, y2]
      · by_cases y3 : Pp P ≤ s.2.2.1
        · simp [y1, y2, y3]
        · by_cases y4 : Ph P = 2
          · simp [y1, y2, y3, y4, show ¬ s.2.2.2.2 < shS P by omega]
          · by_cases y5 : s.1 = s.2.1
            · have y6 : ¬ s.2.2.2.2 < shS P := by omega
              rw [if_neg y1, if_neg y2, if_neg y3, if_neg y4]
              simp [y5, y6]
            · simp [y1, y2, y3, y4, y5]
/-- of a layer: what the next turn leads to -/
def ldN (P : Pln) (lf : Sd → Option Nat) (s : Sd) (m : Nat) : Bool := match bhd P s m with
  | some t => (lf t).isNone
  | none => false
def ldE (P : Pln) (lf : Sd → Option Nat) (n : Nat) (s : Sd) (m : Nat) : Bool := match bhd P s m with
  | some t => lf t == some n
  | none => false
def isOfB (P : Pln) (lf : Sd → Option Nat) (n : Nat) (s : Sd) : Bool := (s.2.2.2.1 == 0 || !anyB (ldN P lf s) 33) && anyB (ldE P lf n s) 33
theorem anyB_cut {p : Nat → Bool} {a b : Nat} (h : a ≤ b) (hz : ∀ i, a ≤ i → i < b → p i = false) : anyB p b = anyB p a := by
  rw [Bool.eq_iff_iff, anyB_iff, anyB_iff]
  constructor
  · rintro ⟨i, h1, h2⟩
    refine ⟨i, ?_, h2⟩
    apply Classical.byContradiction
    intro z
    rw [hz i (by omega) h1] at h2
    cases h2
  · rintro ⟨i, h1, h2⟩
    exact ⟨i, by omega, h2⟩
def anyF (p : Nat → Bool) : Nat → Nat → Bool
  | _, 0 => false
  | m, n + 1 => p m || anyF p (m + 1) n
theorem anyF_iff {p : Nat → Bool} {n : Nat} : ∀ {m}, anyF p m n = true ↔ ∃ i, m ≤ i ∧ i < m + n ∧ p i = true := by
  induction n with
  | zero => intro m; exact ⟨fun h => (by cases h), fun ⟨i, h, h2, _⟩ => (by omega)⟩
  | succ n ih =>
    intro m
    unfold anyF
    rw [Bool.or_eq_true, ih]
    constructor
    · rintro (h | ⟨i, h1, h2, h3⟩)
      · exact ⟨m, by omega, by omega, h⟩
      · exact ⟨i, by omega, by omega, h3⟩
    · rintro ⟨i, h1, h2, h3⟩
      by_cases e : i = m
      · subst e; exact Or.inl h3
      · exact Or.inr ⟨i, by omega, by omega, h3⟩
theorem anyF_0 {p : Nat → Bool} {n : Nat} : anyF p 0 n = anyB p n := by
  rw [Bool.eq_iff_iff, anyF_iff, anyB_iff]
  constructor
  · rintro ⟨i, h1, h2, h3⟩; exact ⟨i, by omega, h3⟩
  · rintro ⟨i, h1, h2⟩; exact ⟨i, by omega, by omega, h2⟩
theorem r_isOf (hF : 99999999 ≤ FU) (hP : PlR P I) (hW : WfP P) {s : Sd} {lf : Sd → Option Nat} {l : Nat} (hs : Vd P s) (hl : l < 100000) (hlen : ∀ t, Vd P t → I 66 (cR t) = oI (lf t)) (hlt : ∀ t n, lf t = some n → n < 100000) : fX9_isOf FU 60 (nI (cR s)) (nI (l + 1)) (I, R0 pl nm hd rd) = some (b01 (isOfB P lf l s = true), (I, R0 pl nm hd rd)) := by
  have hin := Vd_in hW hs
  have d0 := r_turn (FU := FU) (pl := pl) (nm := nm) (hd := hd) (rd := rd) (I := I) hin
  have d5 := hs.2.2.1
  -- the loop from m on, to its end e
  have key : ∀ tu e, (tu = 0 ∧ e = 33) ∨ (tu = 1 ∧ e = 17) → ∀ n m F, n + m = e → n < F → fX9_isOf_L21 FU 60 (nI (cR s)) (nI (l + 1)) (nI tu) F (b01 (anyB (ldE P lf l s) m = true)) (nI m) (I, R0 pl nm hd rd) = some (b01 ((tu = 0 ∨ anyF (ldN P lf s) m n = false) ∧ anyB (ldE P lf l s) e = true), (I, R0 pl nm hd rd)) := by
    intro tu e htu n
    induction n with
    | zero =>
      intro m F hm hF'
      obtain ⟨F, rfl⟩ : ∃ G, F = G + 1 := ⟨F - 1, by omega⟩
      have : m = e := by omega
      subst this
      have q : ((tu = 0 ∨ anyF (ldN P lf s) m 0 = false) ∧ anyB (ldE P lf l s) m = true) ↔ anyB (ldE P lf l s) m = true := ⟨fun z => z.2, fun z => ⟨Or.inr rfl, z⟩⟩
      rw [fX9_isOf_L21]
      unfold fX9_isOf_b34
      rcases htu with ⟨z1, z2⟩ | ⟨z1, z2⟩
      · subst z1 z2
        simp (discharger := omega) only [li_0, li_1, li_2, li_3, li_4, li_5, li_6, li_7, li_8, li_9, li_10, li_11, li_12, li_13, li_14, li_15, li_16, li_17, li_18, li_19, li_20, li_21, li_22, li_23, li_24, li_25, li_26, li_27, li_28, li_29, li_30, li_31, li_32, li_33, li_34, li_35, li_36, li_37, li_38, li_39, li_40, li_41, li_42, li_43, li_44, li_45, li_46, li_47, li_48, li_49, li_50, li_51, li_52, li_53, li_54, li_55, li_56, li_57, li_58, li_59, li_60, li_61, li_62, li_63, li_64, li_65, li_66, li_67, li_68, li_69, li_70, li_71, li_72, li_73, li_74, li_75, li_76, li_77, li_78, li_79, li_80, li_81, li_82, li_83, li_84, li_85, li_86, li_87, li_88, li_89, li_90, li_91, li_92, li_93, li_94, li_95, li_96, li_97, li_98, li_99, li_100, li_101, li_102, li_103, li_104, li_105, li_106, li_107, li_108, li_109, li_110, li_111, li_112, li_113, li_114, li_115, li_116, li_117, li_118, li_119, li_120, li_121, li_122, li_123, li_124, li_125, li_126, li_127, li_128, li_144, li_150, li_200, li_255, li_384, li_512, li_999, li_1000, li_1024, li_1152, li_1920, li_3776, li_4096, li_9216, li_10000, li_100000, li_1073741824, li_m, ↓rcb_60, ↓fIb_60, ↓pIb_60, ↓fRb_60_4, ↓fRb_60_5, ↓fRb_60_6, ↓fRb_60_7, ↓fRb_60_8, ↓fRb_60_10, ↓fRb_60_11, ↓fRb_60_12, ↓fRb_60_13, ↓fRb_60_14, ↓fRb_60_16, ↓fRb_60_17, ↓fRb_60_18, ↓fRb_60_24, ↓fRb_60_25, ↓fRb_60_26, ↓fRb_60_30, ↓fRb_60_31, ↓fRb_60_36, ↓fRb_60_37, ↓fRb_60_42, ↓fRb_60_43, ↓fRb_60_44, ↓fRb_60_45, ↓aIb_61, ↓sIb_61, ↓aIb_62, ↓sIb_62, ↓aIb_63, ↓sIb_63, ↓aIb_64, ↓sIb_64, ↓aIb_65, ↓sIb_65, ↓aIb_66, ↓sIb_66, ↓aIb_67, ↓sIb_67, ↓aIb_68, ↓sIb_68, ↓aIb_69, ↓sIb_69, ↓aIb_70, ↓sIb_70, ↓aIb_71, ↓sIb_71, ↓aIb_72, ↓sIb_72, ↓aIb_73, ↓sIb_73, ↓aIb_74, ↓sIb_74, ↓aIb_75, ↓sIb_75, ↓aIb_76, ↓sIb_76, ↓aIb_77, ↓sIb_77, ↓aIb_78, ↓sIb_78, ↓aIb_79, ↓sIb_79, ↓aIb_80, ↓sIb_80, ↓aIb_81, ↓sIb_81, ↓aIb_82, ↓sIb_82, ↓aIb_83, ↓sIb_83, ↓aIb_84, ↓sIb_84, r0_60_4, r0_60_5, r0_60_6, r0_60_7, r0_60_8, r0_60_10, r0_60_11, r0_60_12, r0_60_13, r0_60_14, r0_60_16, r0_60_17, r0_60_18, r0_60_24, r0_60_25, r0_60_26, r0_60_30, r0_60_31, r0_60_36, r0_60_37, r0_60_42, r0_60_43, r0_60_44, r0_60_45, rc_60, fI_60, fR_60, pI_60, aI_61, sI_61, aI_62, sI_62, aI_63, sI_63, aI_64, sI_64, aI_65, sI_65, aI_66, sI_66, aI_67, sI_67, aI_68, sI_68, aI_69, sI_69, aI_70, sI_70, aI_71, sI_71, aI_72, sI_72, aI_73, sI_73, aI_74, sI_74, aI_75, sI_75, aI_76, sI_76, aI_77, sI_77, aI_78, sI_78, aI_79, sI_79, aI_80, sI_80, aI_81, sI_81, aI_82, sI_82, aI_83, sI_83, aI_84, sI_84, w_bind, w_bd2, b01_eq0, b01_ok, b01_ok2, w_lt, w_le, w_eq, w_mlt, w_mle, w_ltm, w_lem, w_meq, w_eqm, w_mm, w_mmlt, w_mmle, nI_add, w_sub, pk_mul, w_div, w_rem, w_and, w_or, w_shr, w_shl1, w_a31, w_andn]
        simp [anyF]
      · subst z1 z2
        simp (discharger := omega) only [li_0, li_1, li_2, li_3, li_4, li_5, li_6, li_7, li_8, li_9, li_10, li_11, li_12, li_13, li_14, li_15, li_16, li_17, li_18, li_19, li_20, li_21, li_22, li_23, li_24, li_25, li_26, li_27, li_28, li_29, li_30, li_31, li_32, li_33, li_34, li_35, li_36, li_37, li_38, li_39, li_40, li_41, li_42, li_43, li_44, li_45, li_46, li_47, li_48, li_49, li_50, li_51, li_52, li_53, li_54, li_55, li_56, li_57, li_58, li_59, li_60, li_61, li_62, li_63, li_64, li_65, li_66, li_67, li_68, li_69, li_70, li_71, li_72, li_73, li_74, li_75, li_76, li_77, li_78, li_79, li_80, li_81, li_82, li_83, li_84, li_85, li_86, li_87, li_88, li_89, li_90, li_91, li_92, li_93, li_94, li_95, li_96, li_97, li_98, li_99, li_100, li_101, li_102, li_103, li_104, li_105, li_106, li_107, li_108, li_109, li_110, li_111, li_112, li_113, li_114, li_115, li_116, li_117, li_118, li_119, li_120, li_121, li_122, li_123, li_124, li_125, li_126, li_127, li_128, li_144, li_150, li_200, li_255, li_384, li_512, li_999, li_1000, li_1024, li_1152, li_1920, li_3776, li_4096, li_9216, li_10000, li_100000, li_1073741824, li_m, ↓rcb_60, ↓fIb_60, ↓pIb_60, ↓fRb_60_4, ↓fRb_60_5, ↓fRb_60_6, ↓fRb_60_7, ↓fRb_60_8, ↓fRb_60_10, ↓fRb_60_11, ↓fRb_60_12, ↓fRb_60_13, ↓fRb_60_14, ↓fRb_60_16, ↓fRb_60_17, ↓fRb_60_18, ↓fRb_60_24, ↓fRb_60_25, ↓fRb_60_26, ↓fRb_60_30, ↓fRb_60_31, ↓fRb_60_36, ↓fRb_60_37, ↓fRb_60_42, ↓fRb_60_43, ↓fRb_60_44, ↓fRb_60_45, ↓aIb_61, ↓sIb_61, ↓aIb_62, ↓sIb_62, ↓aIb_63, ↓sIb_63, ↓aIb_64, ↓sIb_64, ↓aIb_65, ↓sIb_65, ↓aIb_66, ↓sIb_66, ↓aIb_67, ↓sIb_67, ↓aIb_68, ↓sIb_68, ↓aIb_69, ↓sIb_69, ↓aIb_70, ↓sIb_70, ↓aIb_71, ↓sIb_71, ↓aIb_72, ↓sIb_72, ↓aIb_73, ↓sIb_73, ↓aIb_74, ↓sIb_74, ↓aIb_75, ↓sIb_75, ↓aIb_76, ↓sIb_76, ↓aIb_77, ↓sIb_77, ↓aIb_78, ↓sIb_78, ↓aIb_79, ↓sIb_79, ↓aIb_80, ↓sIb_80, ↓aIb_81, ↓sIb_81, ↓aIb_82, ↓sIb_82, ↓aIb_83, ↓sIb_83, ↓aIb_84, ↓sIb_84, r0_60_4, r0_60_5, r0_60_6, r0_60_7, r0_60_8, r0_60_10, r0_60_11, r0_60_12, r0_60_13, r0_60_14, r0_60_16, r0_60_17, r0_60_18, r0_60_24, r0_60_25, r0_60_26, r0_60_30, r0_60_31, r0_60_36, r0_60_37, r0_60_42, r0_60_43, r0_60_44, r0_60_45, rc_60, fI_60, fR_60, pI_60, aI_61, sI_61, aI_62, sI_62, aI_63, sI_63, aI_64, sI_64, aI_65, sI_65, aI_66, sI_66, aI_67, sI_67, aI_68, sI_68, aI_69, sI_69, aI_70, sI_70, aI_71, sI_71, aI_72, sI_72, aI_73, sI_73, aI_74, sI_74, aI_75, sI_75, aI_76, sI_76, aI_77, sI_77, aI_78, sI_78, aI_79, sI_79, aI_80, sI_80, aI_81, sI_81, aI_82, sI_82, aI_83, sI_83, aI_84, sI_84, w_bind, w_bd2, b01_eq0, b01_ok, b01_ok2, w_lt, w_le, w_eq, w_mlt, w_mle, w_ltm, w_lem, w_meq, w_eqm, w_mm, w_mmlt, w_mmle, nI_add, w_sub, pk_mul, w_div, w_rem, w_and, w_or, w_shr, w_shl1, w_a31, w_andn]
        simp [anyF]
    | succ n ih =>
      intro m F hm hF'
      obtain ⟨F, rfl⟩ : ∃ G, F = G + 1 := ⟨F - 1, by omega⟩
      have d1 := r_bhd (FU := FU) (pl := pl) (nm := nm) (hd := hd) (rd := rd) hF hP hW hs (m := m) (by omega)
      have ih' := ih (m + 1) F (by omega) (by omega)
      have hc : ∀ v : Int32, (tu = 0 → v = nI 32) → (tu = 1 → v = nI 16) → ¬ v < nI m := by
        intro v v1 v2
        rcases htu with ⟨z1, z2⟩ | ⟨z1, z2⟩
        · rw [v1 z1, w_lt (by omega) (by omega)]; omega
        · rw [v2 z1, w_lt (by omega) (by omega)]; omega
      have goal34 : ∀ v : Int32, (tu = 0 → v = nI 32) → (tu = 1 → v = nI 16) → fX9_isOf_b34 FU (fX9_isOf_L21 FU 60 (nI (cR s)) (nI (l + 1)) (nI tu) F) 60 (nI (cR s)) (nI (l + 1)) (nI tu) (b01 (anyB (ldE P lf l s) m = true)) (nI m) (nI m) v (I, R0 pl nm hd rd) = some (b01 ((tu = 0 ∨ anyF (ldN P lf s) m (n + 1) = false) ∧ anyB (ldE P lf l s) e = true), (I, R0 pl nm hd rd)) := by
        intro v v1 v2
        unfold fX9_isOf_b34 fX9_isOf_b70 fX9_isOf_b88 fX9_isOf_b93 fX9_isOf_b95
        rw [if_neg (hc v v1 v2)]
        have sp : anyF (ldN P lf s) m (n + 1) = (ldN P lf s m || anyF (ldN P lf s) (m + 1) n) := rfl
        have an : anyB (ldE P lf l s) (m + 1) = (anyB (ldE P lf l s) m || ldE P lf l s m) := rfl
        cases eb : bhd P s m with
        | none =>
          have e1 : ldN P lf s m = false := by unfold ldN; rw [eb]
          have e2 : ldE P lf l s m = false := by unfold ldE; rw [eb]
          rw [an, e2, Bool.or_false] at ih'
          rw [eb] at d1
          simp (discharger := omega) only [li_0, li_1, li_2, li_3, li_4, li_5, li_6, li_7, li_8, li_9, li_10, li_11, li_12, li_13, li_14, li_15, li_16, li_17, li_18, li_19, li_20, li_21, li_22, li_23, li_24, li_25, li_26, li_27, li_28, li_29, li_30, li_31, li_32, li_33, li_34, li_35, li_36, li_37, li_38, li_39, li_40, li_41, li_42, li_43, li_44, li_45, li_46, li_47, li_48, li_49, li_50, li_51, li_52, li_53, li_54, li_55, li_56, li_57, li_58, li_59, li_60, li_61, li_62, li_63, li_64, li_65, li_66, li_67, li_68, li_69, li_70, li_71, li_72, li_73, li_74, li_75, li_76, li_77, li_78, li_79, li_80, li_81, li_82, li_83, li_84, li_85, li_86, li_87, li_88, li_89, li_90, li_91, li_92, li_93, li_94, li_95, li_96, li_97, li_98, li_99, li_100, li_101, li_102, li_103, li_104, li_105, li_106, li_107, li_108, li_109, li_110, li_111, li_112, li_113, li_114, li_115, li_116, li_117, li_118, li_119, li_120, li_121, li_122, li_123, li_124, li_125, li_126, li_127, li_128, li_144, li_150, li_200, li_255, li_384, li_512, li_999, li_1000, li_1024, li_1152, li_1920, li_3776, li_4096, li_9216, li_10000, li_100000, li_1073741824, li_m, ↓rcb_60, ↓fIb_60, ↓pIb_60, ↓fRb_60_4, ↓fRb_60_5, ↓fRb_60_6, ↓fRb_60_7, ↓fRb_60_8, ↓fRb_60_10, ↓fRb_60_11, ↓fRb_60_12, ↓fRb_60_13, ↓fRb_60_14, ↓fRb_60_16, ↓fRb_60_17, ↓fRb_60_18, ↓fRb_60_24, ↓fRb_60_25, ↓fRb_60_26, ↓fRb_60_30, ↓fRb_60_31, ↓fRb_60_36, ↓fRb_60_37, ↓fRb_60_42, ↓fRb_60_43, ↓fRb_60_44, ↓fRb_60_45, ↓aIb_61, ↓sIb_61, ↓aIb_62, ↓sIb_62, ↓aIb_63, ↓sIb_63, ↓aIb_64, ↓sIb_64, ↓aIb_65, ↓sIb_65, ↓aIb_66, ↓sIb_66, ↓aIb_67, ↓sIb_67, ↓aIb_68, ↓sIb_68, ↓aIb_69, ↓sIb_69, ↓aIb_70, ↓sIb_70, ↓aIb_71, ↓sIb_71, ↓aIb_72, ↓sIb_72, ↓aIb_73, ↓sIb_73, ↓aIb_74, ↓sIb_74, ↓aIb_75, ↓sIb_75, ↓aIb_76, ↓sIb_76, ↓aIb_77, ↓sIb_77, ↓aIb_78, ↓sIb_78, ↓aIb_79, ↓sIb_79, ↓aIb_80, ↓sIb_80, ↓aIb_81, ↓sIb_81, ↓aIb_82, ↓sIb_82, ↓aIb_83, ↓sIb_83, ↓aIb_84, ↓sIb_84, r0_60_4, r0_60_5, r0_60_6, r0_60_7, r0_60_8, r0_60_10, r0_60_11, r0_60_12, r0_60_13, r0_60_14, r0_60_16, r0_60_17, r0_60_18, r0_60_24, r0_60_25, r0_60_26, r0_60_30, r0_60_31, r0_60_36, r0_60_37, r0_60_42, r0_60_43, r0_60_44, r0_60_45, rc_60, fI_60, fR_60, pI_60, aI_61, sI_61, aI_62, sI_62, aI_63, sI_63, aI_64, sI_64, aI_65, sI_65, aI_66, sI_66, aI_67, sI_67, aI_68, sI_68, aI_69, sI_69, aI_70, sI_70, aI_71, sI_71, aI_72, sI_72, aI_73, sI_73, aI_74, sI_74, aI_75, sI_75, aI_76, sI_76, aI_77, sI_77, aI_78, sI_78, aI_79, sI_79, aI_80, sI_80, aI_81, sI_81, aI_82, sI_82, aI_83, sI_83, aI_84, sI_84, ↓dn d1, w_bind, w_bd2, b01_eq0, b01_ok, b01_ok2, w_lt, w_le, w_eq, w_mlt, w_mle, w_ltm, w_lem, w_meq, w_eqm, w_mm, w_mmlt, w_mmle, nI_add, w_sub, pk_mul, w_div, w_rem, w_and, w_or, w_shr, w_shl1, w_a31, w_andn, Option.map_none, oI]
          simp only [and_false, if_false, Nat.one_ne_zero, ih', sp, e1, Bool.false_or]
        | some t =>
          have d2 := hlen t (bhd_Vd hW hs eb)
          have d3 := cR_lt (Vd_in hW (bhd_Vd hW hs eb))
          rw [eb] at d1
          cases el : lf t with
          | none =>
            rw [el] at d2
            have e1 : ldN P lf s m = true := by unfold ldN; rw [eb]; simp [el]
            have e2 : ldE P lf l s m = false := by unfold ldE; rw [eb]; simp [el]
            rw [an, e2, Bool.or_false] at ih'
            simp (discharger := omega) only [li_0, li_1, li_2, li_3, li_4, li_5, li_6, li_7, li_8, li_9, li_10, li_11, li_12, li_13, li_14, li_15, li_16, li_17, li_18, li_19, li_20, li_21, li_22, li_23, li_24, li_25, li_26, li_27, li_28, li_29, li_30, li_31, li_32, li_33, li_34, li_35, li_36, li_37, li_38, li_39, li_40, li_41, li_42, li_43, li_44, li_45, li_46, li_47, li_48, li_49, li_50, li_51, li_52, li_53, li_54, li_55, li_56, li_57, li_58, li_59, li_60, li_61, li_62, li_63, li_64, li_65, li_66, li_67, li_68, li_69, li_70, li_71, li_72, li_73, li_74, li_75, li_76, li_77, li_78, li_79, li_80, li_81, li_82, li_83, li_84, li_85, li_86, li_87, li_88, li_89, li_90, li_91, li_92, li_93, li_94, li_95, li_96, li_97, li_98, li_99, li_100, li_101, li_102, li_103, li_104, li_105, li_106, li_107, li_108, li_109, li_110, li_111, li_112, li_113, li_114, li_115, li_116, li_117, li_118, li_119, li_120, li_121, li_122, li_123, li_124, li_125, li_126, li_127, li_128, li_144, li_150, li_200, li_255, li_384, li_512, li_999, li_1000, li_1024, li_1152, li_1920, li_3776, li_4096, li_9216, li_10000, li_100000, li_1073741824, li_m, ↓rcb_60, ↓fIb_60, ↓pIb_60, ↓fRb_60_4, ↓fRb_60_5, ↓fRb_60_6, ↓fRb_60_7, ↓fRb_60_8, ↓fRb_60_10, ↓fRb_60_11, ↓fRb_60_12, ↓fRb_60_13, ↓fRb_60_14, ↓fRb_60_16, ↓fRb_60_17, ↓fRb_60_18, ↓fRb_60_24, ↓fRb_60_25, ↓fRb_60_26, ↓fRb_60_30, ↓fRb_60_31, ↓fRb_60_36, ↓fRb_60_37, ↓fRb_60_42, ↓fRb_60_43, ↓fRb_60_44, ↓fRb_60_45, ↓aIb_61, ↓sIb_61, ↓aIb_62, ↓sIb_62, ↓aIb_63, ↓sIb_63, ↓aIb_64, ↓sIb_64, ↓aIb_65, ↓sIb_65, ↓aIb_66, ↓sIb_66, ↓aIb_67, ↓sIb_67, ↓aIb_68, ↓sIb_68, ↓aIb_69, ↓sIb_69, ↓aIb_70, ↓sIb_70, ↓aIb_71, ↓sIb_71, ↓aIb_72, ↓sIb_72, ↓aIb_73, ↓sIb_73, ↓aIb_74, ↓sIb_74, ↓aIb_75, ↓sIb_75, ↓aIb_76, ↓sIb_76, ↓aIb_77, ↓sIb_77, ↓aIb_78, ↓sIb_78, ↓aIb_79, ↓sIb_79, ↓aIb_80, ↓sIb_80, ↓aIb_81, ↓sIb_81, ↓aIb_82, ↓sIb_82, ↓aIb_83, ↓sIb_83, ↓aIb_84, ↓sIb_84, r0_60_4, r0_60_5, r0_60_6, r0_60_7, r0_60_8, r0_60_10, r0_60_11, r0_60_12, r0_60_13, r0_60_14, r0_60_16, r0_60_17, r0_60_18, r0_60_24, r0_60_25, r0_60_26, r0_60_30, r0_60_31, r0_60_36, r0_60_37, r0_60_42, r0_60_43, r0_60_44, r0_60_45, rc_60, fI_60, fR_60, pI_60, aI_61, sI_61, aI_62, sI_62, aI_63, sI_63, aI_64, sI_64, aI_65, sI_65, aI_66, sI_66, aI_67, sI_67, aI_68, sI_68, aI_69, sI_69, aI_70, sI_70, aI_71, sI_71, aI_72, sI_72, aI_73, sI_73, aI_74, sI_74, aI_75, sI_75, aI_76, sI_76, aI_77, sI_77, aI_78, sI_78, aI_79, sI_79, aI_80, sI_80, aI_81, sI_81, aI_82, sI_82, aI_83, sI_83, aI_84, sI_84, ↓dn d1, w_bind, w_bd2, b01_eq0, b01_ok, b01_ok2, w_lt, w_le, w_eq, w_mlt, w_mle, w_ltm, w_lem, w_meq, w_eqm, w_mm, w_mmlt, w_mmle, nI_add, w_sub, pk_mul, w_div, w_rem, w_and, w_or, w_shr, w_shl1, w_a31, w_andn, Option.map_some, oI, d2, Nat.add_sub_cancel]
            rcases htu with ⟨z1, z2⟩ | ⟨z1, z2⟩
            · subst z1
              by_cases y : anyB (ldE P lf l s) m = true
              · rw [b01_pos y] at ih'
                simp [y, ih']
              · rw [b01_neg y] at ih'
                simp [y, ih']
            · subst z1
              simp [sp, e1, b01]
              rfl
          | some j =>
            rw [el] at d2
            have d4 := hlt t j el
            have e1 : ldN P lf s m = false := by unfold ldN; rw [eb]; simp [el]
            have e2 : ldE P lf l s m = (j == l) := by unfold ldE; rw [eb]; simp [el]
            rw [an, e2] at ih'
            simp (discharger := omega) only [li_0, li_1, li_2, li_3, li_4, li_5, li_6, li_7, li_8, li_9, li_10, li_11, li_12, li_13, li_14, li_15, li_16, li_17, li_18, li_19, li_20, li_21, li_22, li_23, li_24, li_25, li_26, li_27, li_28, li_29, li_30, li_31, li_32, li_33, li_34, li_35, li_36, li_37, li_38, li_39, li_40, li_41, li_42, li_43, li_44, li_45, li_46, li_47, li_48, li_49, li_50, li_51, li_52, li_53, li_54, li_55, li_56, li_57, li_58, li_59, li_60, li_61, li_62, li_63, li_64, li_65, li_66, li_67, li_68, li_69, li_70, li_71, li_72, li_73, li_74, li_75, li_76, li_77, li_78, li_79, li_80, li_81, li_82, li_83, li_84, li_85, li_86, li_87, li_88, li_89, li_90, li_91, li_92, li_93, li_94, li_95, li_96, li_97, li_98, li_99, li_100, li_101, li_102, li_103, li_104, li_105, li_106, li_107, li_108, li_109, li_110, li_111, li_112, li_113, li_114, li_115, li_116, li_117, li_118, li_119, li_120, li_121, li_122, li_123, li_124, li_125, li_126, li_127, li_128, li_144, li_150, li_200, li_255, li_384, li_512, li_999, li_1000, li_1024, li_1152, li_1920, li_3776, li_4096, li_9216, li_10000, li_100000, li_1073741824, li_m, ↓rcb_60, ↓fIb_60, ↓pIb_60, ↓fRb_60_4, ↓fRb_60_5, ↓fRb_60_6, ↓fRb_60_7, ↓fRb_60_8, ↓fRb_60_10, ↓fRb_60_11, ↓fRb_60_12, ↓fRb_60_13, ↓fRb_60_14, ↓fRb_60_16, ↓fRb_60_17, ↓fRb_60_18, ↓fRb_60_24, ↓fRb_60_25, ↓fRb_60_26, ↓fRb_60_30, ↓fRb_60_31, ↓fRb_60_36, ↓fRb_60_37, ↓fRb_60_42, ↓fRb_60_43, ↓fRb_60_44, ↓fRb_60_45, ↓aIb_61, ↓sIb_61, ↓aIb_62, ↓sIb_62, ↓aIb_63, ↓sIb_63, ↓aIb_64, ↓sIb_64, ↓aIb_65, ↓sIb_65, ↓aIb_66, ↓sIb_66, ↓aIb_67, ↓sIb_67, ↓aIb_68, ↓sIb_68, ↓aIb_69, ↓sIb_69, ↓aIb_70, ↓sIb_70, ↓aIb_71, ↓sIb_71, ↓aIb_72, ↓sIb_72, ↓aIb_73, ↓sIb_73, ↓aIb_74, ↓sIb_74, ↓aIb_75, ↓sIb_75, ↓aIb_76, ↓sIb_76, ↓aIb_77, ↓sIb_77, ↓aIb_78, ↓sIb_78, ↓aIb_79, ↓sIb_79, ↓aIb_80, ↓sIb_80, ↓aIb_81, ↓sIb_81, ↓aIb_82, ↓sIb_82, ↓aIb_83, ↓sIb_83, ↓aIb_84, ↓sIb_84, r0_60_4, r0_60_5, r0_60_6, r0_60_7, r0_60_8, r0_60_10, r0_60_11, r0_60_12, r0_60_13, r0_60_14, r0_60_16, r0_60_17, r0_60_18, r0_60_24, r0_60_25, r0_60_26, r0_60_30, r0_60_31, r0_60_36, r0_60_37, r0_60_42, r0_60_43, r0_60_44, r0_60_45, rc_60, fI_60, fR_60, pI_60, aI_61, sI_61, aI_62, sI_62, aI_63, sI_63, aI_64, sI_64, aI_65, sI_65, aI_66, sI_66, aI_67, sI_67, aI_68, sI_68, aI_69, sI_69, aI_70, sI_70, aI_71, sI_71, aI_72, sI_72, aI_73, sI_73, aI_74, sI_74, aI_75, sI_75, aI_76, sI_76, aI_77, sI_77, aI_78, sI_78, aI_79, sI_79, aI_80, sI_80, aI_81, sI_81, aI_82, sI_82, aI_83, sI_83, aI_84, sI_84, ↓dn d1, w_bind, w_bd2, b01_eq0, b01_ok, b01_ok2, w_lt, w_le, w_eq, w_mlt, w_mle, w_ltm, w_lem, w_meq, w_eqm, w_mm, w_mmlt, w_mmle, nI_add, w_sub, pk_mul, w_div, w_rem, w_and, w_or, w_shr, w_shl1, w_a31, w_andn, Option.map_some, oI, d2, Nat.add_sub_cancel]
            simp only [sp, e1, Bool.false_or]
            rw [← ih']
            by_cases y : anyB (ldE P lf l s) m = true
            · simp [y, b01]; rfl
            · by_cases y2 : j = l
              · simp [y, y2, b01]; rfl
              · have y3 : (j == l) = false := by simpa using y2
                simp [y, y2, y3, b01]; rfl
      rw [fX9_isOf_L21]
      rcases htu with ⟨z1, z2⟩ | ⟨z1, z2⟩
      · subst z1
        rw [if_pos (by decide)]
        exact goal34 (nI 32) (fun _ => rfl) (fun z => by omega)
      · subst z1
        rw [if_neg (by decide)]
        exact goal34 (nI 16) (fun y => by omega) (fun _ => rfl)
  unfold fX9_isOf fX9_isOf_b14
  simp (discharger := omega) only [li_0, li_1, li_2, li_3, li_4, li_5, li_6, li_7, li_8, li_9, li_10, li_11, li_12, li_13, li_14, li_15, li_16, li_17, li_18, li_19, li_20, li_21, li_22, li_23, li_24, li_25, li_26, li_27, li_28, li_29, li_30, li_31, li_32, li_33, li_34, li_35, li_36, li_37, li_38, li_39, li_40, li_41, li_42, li_43, li_44, li_45, li_46, li_47, li_48, li_49, li_50, li_51, li_52, li_53, li_54, li_55, li_56, li_57, li_58, li_59, li_60, li_61, li_62, li_63, li_64, li_65, li_66, li_67, li_68, li_69, li_70, li_71, li_72, li_73, li_74, li_75, li_76, li_77, li_78, li_79, li_80, li_81, li_82, li_83, li_84, li_85, li_86, li_87, li_88, li_89, li_90, li_91, li_92, li_93, li_94, li_95, li_96, li_97, li_98, li_99, li_100, li_101, li_102, li_103, li_104, li_105, li_106, li_107, li_108, li_109, li_110, li_111, li_112, li_113, li_114, li_115, li_116, li_117, li_118, li_119, li_120, li_121, li_122, li_123, li_124, li_125, li_126, li_127, li_128, li_144, li_150, li_200, li_255, li_384, li_512, li_999, li_1000, li_1024, li_1152, li_1920, li_3776, li_4096, li_9216, li_10000, li_100000, li_1073741824, li_m, ↓rcb_60, ↓fIb_60, ↓pIb_60, ↓fRb_60_4, ↓fRb_60_5, ↓fRb_60_6, ↓fRb_60_7, ↓fRb_60_8, ↓fRb_60_10, ↓fRb_60_11, ↓fRb_60_12, ↓fRb_60_13, ↓fRb_60_14, ↓fRb_60_16, ↓fRb_60_17, ↓fRb_60_18, ↓fRb_60_24, ↓fRb_60_25, ↓fRb_60_26, ↓fRb_60_30, ↓fRb_60_31, ↓fRb_60_36, ↓fRb_60_37, ↓fRb_60_42, ↓fRb_60_43, ↓fRb_60_44, ↓fRb_60_45, ↓aIb_61, ↓sIb_61, ↓aIb_62, ↓sIb_62, ↓aIb_63, ↓sIb_63, ↓aIb_64, ↓sIb_64, ↓aIb_65, ↓sIb_65, ↓aIb_66, ↓sIb_66, ↓aIb_67, ↓sIb_67, ↓aIb_68, ↓sIb_68, ↓aIb_69, ↓sIb_69, ↓aIb_70, ↓sIb_70, ↓aIb_71, ↓sIb_71, ↓aIb_72, ↓sIb_72, ↓aIb_73, ↓sIb_73, ↓aIb_74, ↓sIb_74, ↓aIb_75, ↓sIb_75, ↓aIb_76, ↓sIb_76, ↓aIb_77, ↓sIb_77, ↓aIb_78, ↓sIb_78, ↓aIb_79, ↓sIb_79, ↓aIb_80, ↓sIb_80, ↓aIb_81, ↓sIb_81, ↓aIb_82, ↓sIb_82, ↓aIb_83, ↓sIb_83, ↓aIb_84, ↓sIb_84, r0_60_4, r0_60_5, r0_60_6, r0_60_7, r0_60_8, r0_60_10, r0_60_11, r0_60_12, r0_60_13, r0_60_14, r0_60_16, r0_60_17, r0_60_18, r0_60_24, r0_60_25, r0_60_26, r0_60_30, r0_60_31, r0_60_36, r0_60_37, r0_60_42, r0_60_43, r0_60_44, r0_60_45, rc_60, fI_60, fR_60, pI_60, aI_61, sI_61, aI_62, sI_62, aI_63, sI_63, aI_64, sI_64, aI_65, sI_65, aI_66, sI_66, aI_67, sI_67, aI_68, sI_68, aI_69, sI_69, aI_70, sI_70, aI_71, sI_71, aI_72, sI_72, aI_73, sI_73, aI_74, sI_74, aI_75, sI_75, aI_76, sI_76, aI_77, sI_77, aI_78, sI_78, aI_79, sI_79, aI_80, sI_80, aI_81, sI_81, aI_82, sI_82, aI_83, sI_83, aI_84, sI_84, ↓dn d0, w_bind, w_bd2, b01_eq0, b01_ok, b01_ok2, w_lt, w_le, w_eq, w_mlt, w_mle, w_ltm, w_lem, w_meq, w_eqm, w_mm, w_mmlt, w_mmle, nI_add, w_sub, pk_mul, w_div, w_rem, w_and, w_or, w_shr, w_shl1, w_a31, w_andn]
  have k0 := key 0 33 (Or.inl ⟨rfl, rfl⟩) 33 0 FU (by omega) (by omega)
  have k1 := key 1 17 (Or.inr ⟨rfl, rfl⟩) 17 0 FU (by omega) (by omega)
  have e0 : b01 (anyB (ldE P lf l s) 0 = true) = nI 0 := rfl
  rw [e0, anyF_0] at k0 k1
  unfold isOfB
  obtain z | z : s.2.2.2.1 = 0 ∨ s.2.2.2.1 = 1 := by omega
  · simp only [z, Nat.zero_ne_one, not_false_eq_true, if_true]
    rw [k0]
    simp
  · simp only [z, not_true, if_false]
    rw [k1]
    have c1 : anyB (ldN P lf s) 33 = anyB (ldN P lf s) 17 := anyB_cut (by omega) (by intro i h1 h2; unfold ldN; rw [bhd_run16 hW z (by omega)])
    have c2 : anyB (ldE P lf l s) 33 = anyB (ldE P lf l s) 17 := anyB_cut (by omega) (by intro i h1 h2; unfold ldE; rw [bhd_run16 hW z (by omega)])
    rw [c1, c2]
    simp
end RefS
