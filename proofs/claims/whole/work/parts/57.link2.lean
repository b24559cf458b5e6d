/-! the class's links: the loops -/
section Link2
variable {FU c : Nat} {P : Pln} {I J I0 : Nat → Nat → Int32} {nm hd rd : Option Nat}
theorem LI.pl {D : Sd → Nat → Bool} {g : Nat → Sd × Nat} {ne : Nat} (hc : c = 1 ∨ c = 9) (hP : PlC c P I0) (h : LI P I0 D g ne I) : PlC c P I := hP.congr (fun k _ _ => h.2.1 k (by omega) (by omega) (by omega) (by omega) (by omega) (by omega))
theorem okE_b (hW : WfP P) {q : Sd} {m : Nat} (h : okE P q m) : q.1 < 8 ∧ q.2.1 < 8 ∧ q.2.2.1 < Pp P ∧ q.2.2.2.1 < 2 ∧ m ≤ 32 ∧ q.1 ≠ q.2.2.1 ∧ q.2.1 ≠ q.2.2.1 ∧ q.2.2.2.2 = 0 := by
  have := Vd_in hW h.1
  exact ⟨this.1, this.2.1, h.1.2.1, h.1.2.2.1, h.2.2.2.1, h.2.2.1.1, h.2.2.1.2, h.2.1⟩
def DH (x m r : Nat) (q : Sd) (k : Nat) : Bool := decide (q.1 * 8 + q.2.1 < x ∨ (q.1 * 8 + q.2.1 = x ∧ q.2.2.2.1 = 0 ∧ (k < m ∨ (k = m ∧ q.2.2.1 < r))))
def DR (x r m : Nat) (q : Sd) (k : Nat) : Bool := decide (q.1 * 8 + q.2.1 < x ∨ (q.1 * 8 + q.2.1 = x ∧ (q.2.2.2.1 = 0 ∨ (q.2.2.2.1 = 1 ∧ (q.2.2.1 < r ∨ (q.2.2.1 = r ∧ k < m))))))
def DP (x : Nat) (q : Sd) (_ : Nat) : Bool := decide (q.1 * 8 + q.2.1 < x)
theorem sd_eq {q : Sd} {a b r t : Nat} (h1 : q.1 * 8 + q.2.1 = a * 8 + b) (h2 : q.2.1 < 8) (h3 : b < 8) (h4 : q.2.2.1 = r) (h5 : q.2.2.2.1 = t) (h6 : q.2.2.2.2 = 0) : q = (a, b, r, t, 0) := by
  obtain ⟨q1, q2, q3, q4, q5⟩ := q
  simp only at h1 h2 h4 h5 h6
  rw [Prod.mk.injEq, Prod.mk.injEq, Prod.mk.injEq, Prod.mk.injEq]
  omega
theorem c_linkH1 (hF : 99999999 ≤ FU) (hc : c = 1 ∨ c = 9) (hP : PlC c P I0) (hW : WfP P) {h i m : Nat} {w : Nat × Nat} (hpr : isPr P h i = true) (hm : m ≤ 32) (hw : pAft P h i m = some w) {g : Nat → Sd × Nat} {ne : Nat} (hL : LI P I0 (DH (h * 8 + i) m 0) g ne I) (hne : ne + 8 ≤ 3776) : ∃ J g' ne', LI P I0 (DH (h * 8 + i) (m + 1) 0) g' ne' J ∧ ne' ≤ ne + 8 ∧ ∀ K, fX6_linkHunters_L45 FU K 17 (nI (h * 8 + i)) (nI (plcM h i)) (nI m) (nI (w.1 * 8 + w.2)) (oI (psd P m)) FU (nI 0) (I, R0 (some c) nm hd rd) = K (nI (m + 1)) (J, R0 (some c) nm hd rd) := by
  have hp := wf_p hW
  have hpr' := isPr_iff.mp hpr
  have hpl := plc_lt (h := h) (i := i) (by omega) (by omega)
  have st : ∀ r (s : Int32 × Mem), r < Pp P → (∃ T g' ne', s = (nI r, (T, R0 (some c) nm hd rd)) ∧ LI P I0 (DH (h * 8 + i) m r) g' ne' T ∧ ne' ≤ ne + r) → ∃ s', (∃ T g' ne', s' = (nI (r + 1), (T, R0 (some c) nm hd rd)) ∧ LI P I0 (DH (h * 8 + i) m (r + 1)) g' ne' T ∧ ne' ≤ ne + (r + 1)) ∧ ∀ (K : Int32 → Mem → Option Mem) F, fX6_linkHunters_L45 FU K 17 (nI (h * 8 + i)) (nI (plcM h i)) (nI m) (nI (w.1 * 8 + w.2)) (oI (psd P m)) (F + 1) s.1 s.2 = fX6_linkHunters_L45 FU K 17 (nI (h * 8 + i)) (nI (plcM h i)) (nI m) (nI (w.1 * 8 + w.2)) (oI (psd P m)) F s'.1 s'.2 := by
    rintro r _ hr ⟨T, g', ne', rfl, hT, hn⟩
    have a0 := (hT.pl hc hP).1
    by_cases z : (plcM h i).testBit r = true
    · have z' := z
      rw [tb_plc, Bool.or_eq_true, decide_eq_true_iff, decide_eq_true_iff] at z'
      refine ⟨(nI (r + 1), (T, R0 (some c) nm hd rd)), ⟨T, g', ne', rfl, hT.mono (fun q k ho => ?_), by omega⟩, fun K F => ?_⟩
      · have b := okE_b hW ho
        unfold DH
        apply decide_eq_decide.mpr
        have : q.1 * 8 + q.2.1 = h * 8 + i → q.1 = h ∧ q.2.1 = i := by intro e; omega
        constructor <;> intro y <;> omega
      · simp only
        rw [fX6_linkHunters_L45]
        unfold fX6_linkHunters_b91
        simp (discharger := omega) only [li_0, li_1, li_2, li_3, li_4, li_5, li_6, li_7, li_8, li_9, li_10, li_11, li_12, li_13, li_14, li_15, li_16, li_17, li_18, li_19, li_20, li_21, li_22, li_23, li_24, li_25, li_26, li_27, li_28, li_29, li_30, li_31, li_32, li_33, li_34, li_35, li_36, li_37, li_38, li_39, li_40, li_41, li_42, li_43, li_44, li_45, li_46, li_47, li_48, li_49, li_50, li_51, li_52, li_53, li_54, li_55, li_56, li_57, li_58, li_59, li_60, li_61, li_62, li_63, li_64, li_65, li_66, li_67, li_68, li_69, li_70, li_71, li_72, li_73, li_74, li_75, li_76, li_77, li_78, li_79, li_80, li_81, li_82, li_83, li_84, li_85, li_86, li_87, li_88, li_89, li_90, li_91, li_92, li_93, li_94, li_95, li_96, li_97, li_98, li_99, li_100, li_101, li_102, li_103, li_104, li_105, li_106, li_107, li_108, li_109, li_110, li_111, li_112, li_113, li_114, li_115, li_116, li_117, li_118, li_119, li_120, li_121, li_122, li_123, li_124, li_125, li_126, li_127, li_128, li_144, li_150, li_200, li_255, li_384, li_512, li_999, li_1000, li_1024, li_1152, li_1920, li_3776, li_4096, li_9216, li_10000, li_100000, li_1073741824, li_m, ↓rcb_17, ↓fIb_17, ↓pIb_17, ↓fRb_17_5, ↓fRb_17_6, ↓fRb_17_7, ↓fRb_17_9, ↓fRb_17_10, ↓fRb_17_11, ↓fRb_17_12, ↓fRb_17_15, ↓fRb_17_16, ↓fRb_17_17, ↓fRb_17_0, ↓aIb_18, ↓sIb_18, ↓aIb_19, ↓sIb_19, ↓aIb_20, ↓sIb_20, ↓aIb_21, ↓sIb_21, ↓aIb_22, ↓sIb_22, ↓aIb_23, ↓sIb_23, ↓aIb_24, ↓sIb_24, ↓aIb_25, ↓sIb_25, ↓aIb_26, ↓sIb_26, ↓aIb_27, ↓sIb_27, r0_17_5, r0_17_6, r0_17_7, r0_17_9, r0_17_10, r0_17_11, r0_17_12, r0_17_15, r0_17_16, r0_17_17, r0_17_0, rc_17, fI_17, fR_17, pI_17, pR_17, aI_18, sI_18, aI_19, sI_19, aI_20, sI_20, aI_21, sI_21, aI_22, sI_22, aI_23, sI_23, aI_24, sI_24, aI_25, sI_25, aI_26, sI_26, aI_27, sI_27, ↓rcb_P hc, ↓fIb_P hc, ↓pIb_P hc, ↓fRb_P1 hc, ↓aIb_P1 hc, ↓sIb_P1 hc, ↓fRb_P2 hc, ↓aIb_P2 hc, ↓sIb_P2 hc, ↓fRb_P3 hc, ↓aIb_P3 hc, ↓sIb_P3 hc, ↓fRb_P4 hc, ↓aIb_P4 hc, ↓sIb_P4 hc, ↓fRb_P5 hc, ↓aIb_P5 hc, ↓sIb_P5 hc, ↓fRb_P6 hc, ↓aIb_P6 hc, ↓sIb_P6 hc, ↓fRb_P7 hc, ↓aIb_P7 hc, ↓sIb_P7 hc, rc_P hc, fI_P hc, fR_P hc, pI_P hc, r0_P1 hc, aI_P1 hc, sI_P1 hc, r0_P2 hc, aI_P2 hc, sI_P2 hc, r0_P3 hc, aI_P3 hc, sI_P3 hc, r0_P4 hc, aI_P4 hc, sI_P4 hc, r0_P5 hc, aI_P5 hc, sI_P5 hc, r0_P6 hc, aI_P6 hc, sI_P6 hc, r0_P7 hc, aI_P7 hc, sI_P7 hc, w_bind, w_bd2, b01_eq0, b01_ok, b01_ok2, w_lt, w_le, w_eq, w_mlt, w_mle, w_ltm, w_lem, w_meq, w_eqm, w_mm, w_mmlt, w_mmle, nI_add, w_sub, pk_mul, w_div, w_rem, w_and, w_or, w_shr, w_shl1, w_a31, w_andn, ↓reduceIte, Nat.reduceAdd, Nat.reduceEqDiff, Nat.zero_lt_one, Nat.not_lt_zero, Nat.one_ne_zero, Nat.zero_ne_one, not_true_eq_false, not_false_eq_true, Bool.false_eq_true, Bool.true_eq_false, a0, Nat.not_le.mpr hr, w_a1, w_bit0, z, Bool.true_eq_false]
    · have z' := z
      rw [tb_plc, Bool.or_eq_true, decide_eq_true_iff, decide_eq_true_iff] at z'
      have z2 : (plcM h i).testBit r = false := by simpa using z
      have hs1 : 0 < shS P := by unfold shS; split; · omega
                                 · split <;> omega
      have ht : tgO P (h, i, r, 0, 0) m = some (512 + (w.1 * 8 + w.2) * 8 + r) := by
        unfold tgO
        simp [hw]
      have ho : okE P (h, i, r, 0, 0) m := ⟨⟨hpr, hr, Nat.zero_lt_two, hs1⟩, rfl, ⟨by show h ≠ r; omega, by show i ≠ r; omega⟩, hm, by rw [ht]; rfl⟩
      obtain ⟨J, j1, j2⟩ := c_edgeH (FU := FU) (pl := some c) (nm := nm) (hd := hd) (rd := rd) hW (D' := DH (h * 8 + i) m (r + 1)) hT (by omega) ho rfl ht (by unfold DH; simp) (by
        intro q k hoq
        have b := okE_b hW hoq
        unfold DH
        rw [decide_eq_true_iff, decide_eq_true_iff]
        constructor
        · intro y
          by_cases y2 : q.1 * 8 + q.2.1 = h * 8 + i ∧ q.2.2.2.1 = 0 ∧ k = m ∧ q.2.2.1 = r
          · right
            rw [sd_eq y2.1 b.2.1 (by omega) y2.2.2.2 y2.2.1 b.2.2.2.2.2.2.2, y2.2.2.1]
          · left; omega
        · rintro (y | y)
          · omega
          · rw [Prod.mk.injEq] at y
            obtain ⟨y1, y2⟩ := y
            subst y1
            exact Or.inr ⟨rfl, rfl, Or.inr ⟨y2, Nat.lt_succ_self _⟩⟩)
      have cq : cC (h, i, r, 0, 0) = (h * 8 + i) * 8 + r := by unfold cC; simp
      rw [cq] at j1
      refine ⟨(nI (r + 1), (J, R0 (some c) nm hd rd)), ⟨J, _, _, rfl, j2, by omega⟩, fun K F => ?_⟩
      simp only
      rw [fX6_linkHunters_L45]
      unfold fX6_linkHunters_b91
      simp (discharger := omega) only [li_0, li_1, li_2, li_3, li_4, li_5, li_6, li_7, li_8, li_9, li_10, li_11, li_12, li_13, li_14, li_15, li_16, li_17, li_18, li_19, li_20, li_21, li_22, li_23, li_24, li_25, li_26, li_27, li_28, li_29, li_30, li_31, li_32, li_33, li_34, li_35, li_36, li_37, li_38, li_39, li_40, li_41, li_42, li_43, li_44, li_45, li_46, li_47, li_48, li_49, li_50, li_51, li_52, li_53, li_54, li_55, li_56, li_57, li_58, li_59, li_60, li_61, li_62, li_63, li_64, li_65, li_66, li_67, li_68, li_69, li_70, li_71, li_72, li_73, li_74, li_75, li_76, li_77, li_78, li_79, li_80, li_81, li_82, li_83, li_84, li_85, li_86, li_87, li_88, li_89, li_90, li_91, li_92, li_93, li_94, li_95, li_96, li_97, li_98, li_99, li_100, li_101, li_102, li_103, li_104, li_105, li_106, li_107, li_108, li_109, li_110, li_111, li_112, li_113, li_114, li_115, li_116, li_117, li_118, li_119, li_120, li_121, li_122, li_123, li_124, li_125, li_126, li_127, li_128, li_144, li_150, li_200, li_255, li_384, li_512, li_999, li_1000, li_1024, li_1152, li_1920, li_3776, li_4096, li_9216, li_10000, li_100000, li_1073741824, li_m, ↓rcb_17, ↓fIb_17, ↓pIb_17, ↓fRb_17_5, ↓fRb_17_6, ↓fRb_17_7, ↓fRb_17_9, ↓fRb_17_10, ↓fRb_17_11, ↓fRb_17_12, ↓fRb_17_15, ↓fRb_17_16, ↓fRb_17_17, ↓fRb_17_0, ↓aIb_18, ↓sIb_18, ↓aIb_19, ↓sIb_19, ↓aIb_20, ↓sIb_20, ↓aIb_21, ↓sIb_21, ↓aIb_22, ↓sIb_22, ↓aIb_23, ↓sIb_23, ↓aIb_24, ↓sIb_24, ↓aIb_25, ↓sIb_25, ↓aIb_26, ↓sIb_26, ↓aIb_27, ↓sIb_27, r0_17_5, r0_17_6, r0_17_7, r0_17_9, r0_17_10, r0_17_11, r0_17_12, r0_17_15, r0_17_16, r0_17_17, r0_17_0, rc_17, fI_17, fR_17, pI_17, pR_17, aI_18, sI_18, aI_19, sI_19, aI_20, sI_20, aI_21, sI_21, aI_22, sI_22, aI_23, sI_23, aI_24, sI_24, aI_25, sI_25, aI_26, sI_26, aI_27, sI_27, ↓rcb_P hc, ↓fIb_P hc, ↓pIb_P hc, ↓fRb_P1 hc, ↓aIb_P1 hc, ↓sIb_P1 hc, ↓fRb_P2 hc, ↓aIb_P2 hc, ↓sIb_P2 hc, ↓fRb_P3 hc, ↓aIb_P3 hc, ↓sIb_P3 hc, ↓fRb_P4 hc, ↓aIb_P4 hc, ↓sIb_P4 hc, ↓fRb_P5 hc, ↓aIb_P5 hc, ↓sIb_P5 hc, ↓fRb_P6 hc, ↓aIb_P6 hc, ↓sIb_P6 hc, ↓fRb_P7 hc, ↓aIb_P7 hc, ↓sIb_P7 hc, rc_P hc, fI_P hc, fR_P hc, pI_P hc, r0_P1 hc, aI_P1 hc, sI_P1 hc, r0_P2 hc, aI_P2 hc, sI_P2 hc, r0_P3 hc, aI_P3 hc, sI_P3 hc, r0_P4 hc, aI_P4 hc, sI_P4 hc, r0_P5 hc, aI_P5 hc, sI_P5 hc, r0_P6 hc, aI_P6 hc, sI_P6 hc, r0_P7 hc, aI_P7 hc, sI_P7 hc, w_bind, w_bd2, b01_eq0, b01_ok, b01_ok2, w_lt, w_le, w_eq, w_mlt, w_mle, w_ltm, w_lem, w_meq, w_eqm, w_mm, w_mmlt, w_mmle, nI_add, w_sub, pk_mul, w_div, w_rem, w_and, w_or, w_shr, w_shl1, w_a31, w_andn, ↓reduceIte, Nat.reduceAdd, Nat.reduceEqDiff, Nat.zero_lt_one, Nat.not_lt_zero, Nat.one_ne_zero, Nat.zero_ne_one, not_true_eq_false, not_false_eq_true, Bool.false_eq_true, Bool.true_eq_false, a0, Nat.not_le.mpr hr, w_a1, w_bit0, z2, dn1 j1]
  obtain ⟨s', ⟨T, g', ne', rfl, g1, g2⟩, hl⟩ := lpK (fun K F (s : Int32 × Mem) => fX6_linkHunters_L45 FU K 17 (nI (h * 8 + i)) (nI (plcM h i)) (nI m) (nI (w.1 * 8 + w.2)) (oI (psd P m)) F s.1 s.2) _ (Pp P) st (Pp P) 0 (nI 0, (I, R0 (some c) nm hd rd)) FU (by omega) (by omega) ⟨I, g, ne, rfl, hL, by omega⟩
  refine ⟨T, g', ne', g1.mono (fun q k ho => ?_), by omega, fun K => ?_⟩
  · have b := okE_b hW ho
    unfold DH
    apply decide_eq_decide.mpr
    constructor <;> intro y <;> omega
  · have hl := hl K
    simp only at hl
    obtain ⟨G, hG⟩ : ∃ G, FU - Pp P = G + 1 := ⟨FU - Pp P - 1, by omega⟩
    have a0 := (g1.pl hc hP).1
    rw [hl, hG, fX6_linkHunters_L45]
    unfold fX6_linkHunters_b97
    simp (discharger := omega) only [li_0, li_1, li_2, li_3, li_4, li_5, li_6, li_7, li_8, li_9, li_10, li_11, li_12, li_13, li_14, li_15, li_16, li_17, li_18, li_19, li_20, li_21, li_22, li_23, li_24, li_25, li_26, li_27, li_28, li_29, li_30, li_31, li_32, li_33, li_34, li_35, li_36, li_37, li_38, li_39, li_40, li_41, li_42, li_43, li_44, li_45, li_46, li_47, li_48, li_49, li_50, li_51, li_52, li_53, li_54, li_55, li_56, li_57, li_58, li_59, li_60, li_61, li_62, li_63, li_64, li_65, li_66, li_67, li_68, li_69, li_70, li_71, li_72, li_73, li_74, li_75, li_76, li_77, li_78, li_79, li_80, li_81, li_82, li_83, li_84, li_85, li_86, li_87, li_88, li_89, li_90, li_91, li_92, li_93, li_94, li_95, li_96, li_97, li_98, li_99, li_100, li_101, li_102, li_103, li_104, li_105, li_106, li_107, li_108, li_109, li_110, li_111, li_112, li_113, li_114, li_115, li_116, li_117, li_118, li_119, li_120, li_121, li_122, li_123, li_124, li_125, li_126, li_127, li_128, li_144, li_150, li_200, li_255, li_384, li_512, li_999, li_1000, li_1024, li_1152, li_1920, li_3776, li_4096, li_9216, li_10000, li_100000, li_1073741824, li_m, ↓rcb_17, ↓fIb_17, ↓pIb_17, ↓fRb_17_5, ↓fRb_17_6, ↓fRb_17_7, ↓fRb_17_9, ↓fRb_17_10, ↓fRb_17_11, ↓fRb_17_12, ↓fRb_17_15, ↓fRb_17_16, ↓fRb_17_17, ↓fRb_17_0, ↓aIb_18, ↓sIb_18, ↓aIb_19, ↓sIb_19, ↓aIb_20, ↓sIb_20, ↓aIb_21, ↓sIb_21, ↓aIb_22, ↓sIb_22, ↓aIb_23, ↓sIb_23, ↓aIb_24, ↓sIb_24, ↓aIb_25, ↓sIb_25, ↓aIb_26, ↓sIb_26, ↓aIb_27, ↓sIb_27, r0_17_5, r0_17_6, r0_17_7, r0_17_9, r0_17_10, r0_17_11, r0_17_12, r0_17_15, r0_17_16, r0_17_17, r0_17_0, rc_17, fI_17, fR_17, pI_17, pR_17, aI_18, sI_18, aI_19, sI_19, aI_20, sI_20, aI_21, sI_21, aI_22, sI_22, aI_23, sI_23, aI_24, sI_24, aI_25, sI_25, aI_26, sI_26, aI_27, sI_27, ↓rcb_P hc, ↓fIb_P hc, ↓pIb_P hc, ↓fRb_P1 hc, ↓aIb_P1 hc, ↓sIb_P1 hc, ↓fRb_P2 hc, ↓aIb_P2 hc, ↓sIb_P2 hc, ↓fRb_P3 hc, ↓aIb_P3 hc, ↓sIb_P3 hc, ↓fRb_P4 hc, ↓aIb_P4 hc, ↓sIb_P4 hc, ↓fRb_P5 hc, ↓aIb_P5 hc, ↓sIb_P5 hc, ↓fRb_P6 hc, ↓aIb_P6 hc, ↓sIb_P6 hc, ↓fRb_P7 hc, ↓aIb_P7 hc, ↓sIb_P7 hc, rc_P hc, fI_P hc, fR_P hc, pI_P hc, r0_P1 hc, aI_P1 hc, sI_P1 hc, r0_P2 hc, aI_P2 hc, sI_P2 hc, r0_P3 hc, aI_P3 hc, sI_P3 hc, r0_P4 hc, aI_P4 hc, sI_P4 hc, r0_P5 hc, aI_P5 hc, sI_P5 hc, r0_P6 hc, aI_P6 hc, sI_P6 hc, r0_P7 hc, aI_P7 hc, sI_P7 hc, w_bind, w_bd2, b01_eq0, b01_ok, b01_ok2, w_lt, w_le, w_eq, w_mlt, w_mle, w_ltm, w_lem, w_meq, w_eqm, w_mm, w_mmlt, w_mmle, nI_add, w_sub, pk_mul, w_div, w_rem, w_and, w_or, w_shr, w_shl1, w_a31, w_andn, ↓reduceIte, Nat.reduceAdd, Nat.reduceEqDiff, Nat.zero_lt_one, Nat.not_lt_zero, Nat.one_ne_zero, Nat.zero_ne_one, not_true_eq_false, not_false_eq_true, Bool.false_eq_true, Bool.true_eq_false, a0, Nat.le_refl]
theorem c_linkHunters (hF : 99999999 ≤ FU) (hc : c = 1 ∨ c = 9) (hP : PlC c P I0) (hW : WfP P) {h i : Nat} (hpr : isPr P h i = true) {g : Nat → Sd × Nat} {ne nb : Nat} (hL : LI P I0 (DP (h * 8 + i)) g ne I) (hne : ne ≤ nb) (hb : nb + 8 * cnt (fun m => (pAft P h i m).isSome) 33 ≤ 3776) : ∃ J g' ne', fX6_linkHunters FU 17 (nI (h * 8 + i)) (I, R0 (some c) nm hd rd) = some (J, R0 (some c) nm hd rd) ∧ LI P I0 (DR (h * 8 + i) 0 0) g' ne' J ∧ ne' ≤ nb + 8 * cnt (fun m => (pAft P h i m).isSome) 33 := by
  have hp := wf_p hW
  have hpr' := isPr_iff.mp hpr
  have hpl := plc_lt (h := h) (i := i) (by omega) (by omega)
  have st : ∀ m (s : Int32 × Mem), m < 33 → (∃ T g' ne', s = (nI m, (T, R0 (some c) nm hd rd)) ∧ LI P I0 (DH (h * 8 + i) m 0) g' ne' T ∧ ne' ≤ nb + 8 * cnt (fun m => (pAft P h i m).isSome) m) → ∃ s', (∃ T g' ne', s' = (nI (m + 1), (T, R0 (some c) nm hd rd)) ∧ LI P I0 (DH (h * 8 + i) (m + 1) 0) g' ne' T ∧ ne' ≤ nb + 8 * cnt (fun m => (pAft P h i m).isSome) (m + 1)) ∧ ∀ F, fX6_linkHunters_L7 FU 17 (nI (h * 8 + i)) (nI (plcM h i)) (F + 1) s.1 s.2 = fX6_linkHunters_L7 FU 17 (nI (h * 8 + i)) (nI (plcM h i)) F s'.1 s'.2 := by
    rintro m _ hm ⟨T, g', ne', rfl, hT, hn⟩
    have hPT := hT.pl hc hP
    have d1 := c_pairAfter (FU := FU) (pl := some c) (nm := nm) (hd := hd) (rd := rd) hc hPT hW (h := h) (i := i) (m := m) (by omega) (by omega) (by omega)
    have cm : cnt (fun m => (pAft P h i m).isSome) (m + 1) ≤ cnt (fun m => (pAft P h i m).isSome) 33 := cnt_mono _ (by omega)
    have cs : cnt (fun m => (pAft P h i m).isSome) (m + 1) = cnt (fun m => (pAft P h i m).isSome) m + if (pAft P h i m).isSome = true then 1 else 0 := rfl
    cases e : pAft P h i m with
    | none =>
      rw [e] at d1 cs
      simp only [Option.isSome_none, Bool.false_eq_true, if_false, Nat.add_zero] at cs
      refine ⟨(nI (m + 1), (T, R0 (some c) nm hd rd)), ⟨T, g', ne', rfl, hT.mono (fun q k ho => ?_), by omega⟩, fun F => ?_⟩
      · have b := okE_b hW ho
        unfold DH
        apply decide_eq_decide.mpr
        have nn : ¬ (q.1 * 8 + q.2.1 = h * 8 + i ∧ q.2.2.2.1 = 0 ∧ k = m) := by
          rintro ⟨y1, y2, y3⟩
          have y4 := ho.2.2.2.2
          unfold tgO at y4
          rw [y3, y2, show q.1 = h by omega, show q.2.1 = i by omega, e] at y4
          simp at y4
        constructor <;> intro y <;> omega
      · simp only
        rw [fX6_linkHunters_L7]
        unfold fX6_linkHunters_b97
        simp (discharger := omega) only [li_0, li_1, li_2, li_3, li_4, li_5, li_6, li_7, li_8, li_9, li_10, li_11, li_12, li_13, li_14, li_15, li_16, li_17, li_18, li_19, li_20, li_21, li_22, li_23, li_24, li_25, li_26, li_27, li_28, li_29, li_30, li_31, li_32, li_33, li_34, li_35, li_36, li_37, li_38, li_39, li_40, li_41, li_42, li_43, li_44, li_45, li_46, li_47, li_48, li_49, li_50, li_51, li_52, li_53, li_54, li_55, li_56, li_57, li_58, li_59, li_60, li_61, li_62, li_63, li_64, li_65, li_66, li_67, li_68, li_69, li_70, li_71, li_72, li_73, li_74, li_75, li_76, li_77, li_78, li_79, li_80, li_81, li_82, li_83, li_84, li_85, li_86, li_87, li_88, li_89, li_90, li_91, li_92, li_93, li_94, li_95, li_96, li_97, li_98, li_99, li_100, li_101, li_102, li_103, li_104, li_105, li_106, li_107, li_108, li_109, li_110, li_111, li_112, li_113, li_114, li_115, li_116, li_117, li_118, li_119, li_120, li_121, li_122, li_123, li_124, li_125, li_126, li_127, li_128, li_144, li_150, li_200, li_255, li_384, li_512, li_999, li_1000, li_1024, li_1152, li_1920, li_3776, li_4096, li_9216, li_10000, li_100000, li_1073741824, li_m, ↓rcb_17, ↓fIb_17, ↓pIb_17, ↓fRb_17_5, ↓fRb_17_6, ↓fRb_17_7, ↓fRb_17_9, ↓fRb_17_10, ↓fRb_17_11, ↓fRb_17_12, ↓fRb_17_15, ↓fRb_17_16, ↓fRb_17_17, ↓fRb_17_0, ↓aIb_18, ↓sIb_18, ↓aIb_19, ↓sIb_19, ↓aIb_20, ↓sIb_20, ↓aIb_21, ↓sIb_21, ↓aIb_22, ↓sIb_22, ↓aIb_23, ↓sIb_23, ↓aIb_24, ↓sIb_24, ↓aIb_25, ↓sIb_25, ↓aIb_26, ↓sIb_26, ↓aIb_27, ↓sIb_27, r0_17_5, r0_17_6, r0_17_7, r0_17_9, r0_17_10, r0_17_11, r0_17_12, r0_17_15, r0_17_16, r0_17_17, r0_17_0, rc_17, fI_17, fR_17, pI_17, pR_17, aI_18, sI_18, aI_19, sI_19, aI_20, sI_20, aI_21, sI_21, aI_22, sI_22, aI_23, sI_23, aI_24, sI_24, aI_25, sI_25, aI_26, sI_26, aI_27, sI_27, ↓rcb_P hc, ↓fIb_P hc, ↓pIb_P hc, ↓fRb_P1 hc, ↓aIb_P1 hc, ↓sIb_P1 hc, ↓fRb_P2 hc, ↓aIb_P2 hc, ↓sIb_P2 hc, ↓fRb_P3 hc, ↓aIb_P3 hc, ↓sIb_P3 hc, ↓fRb_P4 hc, ↓aIb_P4 hc, ↓sIb_P4 hc, ↓fRb_P5 hc, ↓aIb_P5 hc, ↓sIb_P5 hc, ↓fRb_P6 hc, ↓aIb_P6 hc, ↓sIb_P6 hc, ↓fRb_P7 hc, ↓aIb_P7 hc, ↓sIb_P7 hc, rc_P hc, fI_P hc, fR_P hc, pI_P hc, r0_P1 hc, aI_P1 hc, sI_P1 hc, r0_P2 hc, aI_P2 hc, sI_P2 hc, r0_P3 hc, aI_P3 hc, sI_P3 hc, r0_P4 hc, aI_P4 hc, sI_P4 hc, r0_P5 hc, aI_P5 hc, sI_P5 hc, r0_P6 hc, aI_P6 hc, sI_P6 hc, r0_P7 hc, aI_P7 hc, sI_P7 hc, ↓dn d1, w_bind, w_bd2, b01_eq0, b01_ok, b01_ok2, w_lt, w_le, w_eq, w_mlt, w_mle, w_ltm, w_lem, w_meq, w_eqm, w_mm, w_mmlt, w_mmle, nI_add, w_sub, pk_mul, w_div, w_rem, w_and, w_or, w_shr, w_shl1, w_a31, w_andn, ↓reduceIte, Nat.reduceAdd, Nat.reduceEqDiff, Nat.zero_lt_one, Nat.not_lt_zero, Nat.one_ne_zero, Nat.zero_ne_one, not_true_eq_false, not_false_eq_true, Bool.false_eq_true, Bool.true_eq_false, show ¬ 32 < m by omega, pI2, and_false]
    | some w =>
      have ok := pAft_ok hW hpr e
      have ok2 := isPr_iff.mp ok.1
      have d2 := c_shutterPassed (FU := FU) (pl := some c) (nm := nm) (hd := hd) (rd := rd) hc hPT hW (m := m) (by omega) ok.2
      rw [e] at d1 cs
      simp only [Option.isSome_some, if_true] at cs
      obtain ⟨J, g'', ne'', q1, q2, q3⟩ := c_linkH1 (nm := nm) (hd := hd) (rd := rd) hF hc hP hW hpr (m := m) (by omega) e hT (by omega)
      refine ⟨(nI (m + 1), (J, R0 (some c) nm hd rd)), ⟨J, g'', ne'', rfl, q1, by omega⟩, fun F => ?_⟩
      simp only
      rw [fX6_linkHunters_L7]
      simp (discharger := omega) only [li_0, li_1, li_2, li_3, li_4, li_5, li_6, li_7, li_8, li_9, li_10, li_11, li_12, li_13, li_14, li_15, li_16, li_17, li_18, li_19, li_20, li_21, li_22, li_23, li_24, li_25, li_26, li_27, li_28, li_29, li_30, li_31, li_32, li_33, li_34, li_35, li_36, li_37, li_38, li_39, li_40, li_41, li_42, li_43, li_44, li_45, li_46, li_47, li_48, li_49, li_50, li_51, li_52, li_53, li_54, li_55, li_56, li_57, li_58, li_59, li_60, li_61, li_62, li_63, li_64, li_65, li_66, li_67, li_68, li_69, li_70, li_71, li_72, li_73, li_74, li_75, li_76, li_77, li_78, li_79, li_80, li_81, li_82, li_83, li_84, li_85, li_86, li_87, li_88, li_89, li_90, li_91, li_92, li_93, li_94, li_95, li_96, li_97, li_98, li_99, li_100, li_101, li_102, li_103, li_104, li_105, li_106, li_107, li_108, li_109, li_110, li_111, li_112, li_113, li_114, li_115, li_116, li_117, li_118, li_119, li_120, li_121, li_122, li_123, li_124, li_125, li_126, li_127, li_128, li_144, li_150, li_200, li_255, li_384, li_512, li_999, li_1000, li_1024, li_1152, li_1920, li_3776, li_4096, li_9216, li_10000, li_100000, li_1073741824, li_m, ↓rcb_17, ↓fIb_17, ↓pIb_17, ↓fRb_17_5, ↓fRb_17_6, ↓fRb_17_7, ↓fRb_17_9, ↓fRb_17_10, ↓fRb_17_11, ↓fRb_17_12, ↓fRb_17_15, ↓fRb_17_16, ↓fRb_17_17, ↓fRb_17_0, ↓aIb_18, ↓sIb_18, ↓aIb_19, ↓sIb_19, ↓aIb_20, ↓sIb_20, ↓aIb_21, ↓sIb_21, ↓aIb_22, ↓sIb_22, ↓aIb_23, ↓sIb_23, ↓aIb_24, ↓sIb_24, ↓aIb_25, ↓sIb_25, ↓aIb_26, ↓sIb_26, ↓aIb_27, ↓sIb_27, r0_17_5, r0_17_6, r0_17_7, r0_17_9, r0_17_10, r0_17_11, r0_17_12, r0_17_15, r0_17_16, r0_17_17, r0_17_0, rc_17, fI_17, fR_17, pI_17, pR_17, aI_18, sI_18, aI_19, sI_19, aI_20, sI_20, aI_21, sI_21, aI_22, sI_22, aI_23, sI_23, aI_24, sI_24, aI_25, sI_25, aI_26, sI_26, aI_27, sI_27, ↓rcb_P hc, ↓fIb_P hc, ↓pIb_P hc, ↓fRb_P1 hc, ↓aIb_P1 hc, ↓sIb_P1 hc, ↓fRb_P2 hc, ↓aIb_P2 hc, ↓sIb_P2 hc, ↓fRb_P3 hc, ↓aIb_P3 hc, ↓sIb_P3 hc, ↓fRb_P4 hc, ↓aIb_P4 hc, ↓sIb_P4 hc, ↓fRb_P5 hc, ↓aIb_P5 hc, ↓sIb_P5 hc, ↓fRb_P6 hc, ↓aIb_P6 hc, ↓sIb_P6 hc, ↓fRb_P7 hc, ↓aIb_P7 hc, ↓sIb_P7 hc, rc_P hc, fI_P hc, fR_P hc, pI_P hc, r0_P1 hc, aI_P1 hc, sI_P1 hc, r0_P2 hc, aI_P2 hc, sI_P2 hc, r0_P3 hc, aI_P3 hc, sI_P3 hc, r0_P4 hc, aI_P4 hc, sI_P4 hc, r0_P5 hc, aI_P5 hc, sI_P5 hc, r0_P6 hc, aI_P6 hc, sI_P6 hc, r0_P7 hc, aI_P7 hc, sI_P7 hc, ↓dn d1, ↓dn d2, w_bind, w_bd2, b01_eq0, b01_ok, b01_ok2, w_lt, w_le, w_eq, w_mlt, w_mle, w_ltm, w_lem, w_meq, w_eqm, w_mm, w_mmlt, w_mmle, nI_add, w_sub, pk_mul, w_div, w_rem, w_and, w_or, w_shr, w_shl1, w_a31, w_andn, ↓reduceIte, Nat.reduceAdd, Nat.reduceEqDiff, Nat.zero_lt_one, Nat.not_lt_zero, Nat.one_ne_zero, Nat.zero_ne_one, not_true_eq_false, not_false_eq_true, Bool.false_eq_true, Bool.true_eq_false, show ¬ 32 < m by omega, pI2, Nat.zero_le]
      exact q3 _
  obtain ⟨s', ⟨T, g', ne', rfl, g1, g2⟩, hl⟩ := lpI (fun F (s : Int32 × Mem) => fX6_linkHunters_L7 FU 17 (nI (h * 8 + i)) (nI (plcM h i)) F s.1 s.2) _ 33 st 33 0 (nI 0, (I, R0 (some c) nm hd rd)) FU (by omega) (by omega) ⟨I, g, ne, rfl, hL.mono (fun q k ho => by
    unfold DH DP
    apply decide_eq_decide.mpr
    constructor <;> intro y <;> omega), by show ne ≤ nb + 8 * 0; omega⟩
  simp only at hl
  refine ⟨T, g', ne', ?_, g1.mono (fun q k ho => ?_), g2⟩
  · have d0 := c_placesOf (FU := FU) (I := I) (pl := some c) (nm := nm) (hd := hd) (rd := rd) (h := h) (i := i) (by omega) (by omega)
    obtain ⟨G, hG⟩ : ∃ G, FU - 33 = G + 1 := ⟨FU - 33 - 1, by omega⟩
    unfold fX6_linkHunters
    simp (discharger := omega) only [li_0, li_1, li_2, li_3, li_4, li_5, li_6, li_7, li_8, li_9, li_10, li_11, li_12, li_13, li_14, li_15, li_16, li_17, li_18, li_19, li_20, li_21, li_22, li_23, li_24, li_25, li_26, li_27, li_28, li_29, li_30, li_31, li_32, li_33, li_34, li_35, li_36, li_37, li_38, li_39, li_40, li_41, li_42, li_43, li_44, li_45, li_46, li_47, li_48, li_49, li_50, li_51, li_52, li_53, li_54, li_55, li_56, li_57, li_58, li_59, li_60, li_61, li_62, li_63, li_64, li_65, li_66, li_67, li_68, li_69, li_70, li_71, li_72, li_73, li_74, li_75, li_76, li_77, li_78, li_79, li_80, li_81, li_82, li_83, li_84, li_85, li_86, li_87, li_88, li_89, li_90, li_91, li_92, li_93, li_94, li_95, li_96, li_97, li_98, li_99, li_100, li_101, li_102, li_103, li_104, li_105, li_106, li_107, li_108, li_109, li_110, li_111, li_112, li_113, li_114, li_115, li_116, li_117, li_118, li_119, li_120, li_121, li_122, li_123, li_124, li_125, li_126, li_127, li_128, li_144, li_150, li_200, li_255, li_384, li_512, li_999, li_1000, li_1024, li_1152, li_1920, li_3776, li_4096, li_9216, li_10000, li_100000, li_1073741824, li_m, ↓dn d0]
    rw [hl, hG, fX6_linkHunters_L7]
    simp (discharger := omega) only [li_0, li_1, li_2, li_3, li_4, li_5, li_6, li_7, li_8, li_9, li_10, li_11, li_12, li_13, li_14, li_15, li_16, li_17, li_18, li_19, li_20, li_21, li_22, li_23, li_24, li_25, li_26, li_27, li_28, li_29, li_30, li_31, li_32, li_33, li_34, li_35, li_36, li_37, li_38, li_39, li_40, li_41, li_42, li_43, li_44, li_45, li_46, li_47, li_48, li_49, li_50, li_51, li_52, li_53, li_54, li_55, li_56, li_57, li_58, li_59, li_60, li_61, li_62, li_63, li_64, li_65, li_66, li_67, li_68, li_69, li_70, li_71, li_72, li_73, li_74, li_75, li_76, li_77, li_78, li_79, li_80, li_81, li_82, li_83, li_84, li_85, li_86, li_87, li_88, li_89, li_90, li_91, li_92, li_93, li_94, li_95, li_96, li_97, li_98, li_99, li_100, li_101, li_102, li_103, li_104, li_105, li_106, li_107, li_108, li_109, li_110, li_111, li_112, li_113, li_114, li_115, li_116, li_117, li_118, li_119, li_120, li_121, li_122, li_123, li_124, li_125, li_126, li_127, li_128, li_144, li_150, li_200, li_255, li_384, li_512, li_999, li_1000, li_1024, li_1152, li_1920, li_3776, li_4096, li_9216, li_10000, li_100000, li_1073741824, li_m, w_lt, w_le, w_eq, w_mlt, w_mle, w_ltm, w_lem, w_meq, w_eqm, w_mm, w_mmlt, w_mmle, nI_add, w_sub, pk_mul, w_div, w_rem, w_and, w_or, w_shr, w_shl1, w_a31, w_andn, ↓reduceIte, Nat.reduceAdd, Nat.reduceEqDiff, Nat.zero_lt_one, Nat.not_lt_zero, Nat.one_ne_zero, Nat.zero_ne_one, not_true_eq_false, not_false_eq_true, Bool.false_eq_true, Bool.true_eq_false, show 32 < 33 by omega]
  · have b := okE_b hW ho
    unfold DH DR
    apply decide_eq_decide.mpr
    constructor <;> intro y <;> omega
/-- how many moves the runner has at places below r -/
def vs (P : Pln) (h i : Nat) : Nat → Nat
  | 0 => 0
  | r + 1 => vs P h i r + cnt (fun m => (rAft P h i r m).isSome) 33
theorem vs_mono {h i a b : Nat} (hab : a ≤ b) : vs P h i a ≤ vs P h i b := by
  induction b with
  | zero => have : a = 0 := by omega
            subst this; exact Nat.le_refl _
  | succ b ih =>
    by_cases e : a = b + 1
    · subst e; exact Nat.le_refl _
    · have := ih (by omega)
      show _ ≤ vs P h i b + _
      omega
theorem c_linkR1 (hF : 99999999 ≤ FU) (hc : c = 1 ∨ c = 9) (hP : PlC c P I0) (hW : WfP P) (hT0 : ShT P I0) (h14 : I0 17 14 = nI (shS P)) {h i r : Nat} (hpr : isPr P h i = true) (hr : r < Pp P) (h1 : h ≠ r) (h2 : i ≠ r) {g : Nat → Sd × Nat} {ne : Nat} (hL : LI P I0 (DR (h * 8 + i) r 0) g ne I) (hne : ne + cnt (fun m => (rAft P h i r m).isSome) 33 ≤ 3776) : ∃ J g' ne', LI P I0 (DR (h * 8 + i) (r + 1) 0) g' ne' J ∧ ne' ≤ ne + cnt (fun m => (rAft P h i r m).isSome) 33 ∧ ∀ K, fX6_linkRunner_L44 FU K 17 (nI (h * 8 + i)) (nI (plcM h i)) (nI r) (nI (512 + (h * 8 + i) * 8 + r)) FU (nI 0) (I, R0 (some c) nm hd rd) = K (nI (r + 1)) (J, R0 (some c) nm hd rd) := by
  have hp := wf_p hW
  have hn16 := wf_n hW
  have hpr' := isPr_iff.mp hpr
  have hs1 : 0 < shS P := by unfold shS; split; · omega
                             · split <;> omega
  have st : ∀ m (s : Int32 × Mem), m < Pn P + 1 → (∃ T g' ne', s = (nI m, (T, R0 (some c) nm hd rd)) ∧ LI P I0 (DR (h * 8 + i) r m) g' ne' T ∧ ne' ≤ ne + cnt (fun m => (rAft P h i r m).isSome) m) → ∃ s', (∃ T g' ne', s' = (nI (m + 1), (T, R0 (some c) nm hd rd)) ∧ LI P I0 (DR (h * 8 + i) r (m + 1)) g' ne' T ∧ ne' ≤ ne + cnt (fun m => (rAft P h i r m).isSome) (m + 1)) ∧ ∀ (K : Int32 → Mem → Option Mem) F, fX6_linkRunner_L44 FU K 17 (nI (h * 8 + i)) (nI (plcM h i)) (nI r) (nI (512 + (h * 8 + i) * 8 + r)) (F + 1) s.1 s.2 = fX6_linkRunner_L44 FU K 17 (nI (h * 8 + i)) (nI (plcM h i)) (nI r) (nI (512 + (h * 8 + i) * 8 + r)) F s'.1 s'.2 := by
    rintro m _ hm ⟨T, g', ne', rfl, hT, hn⟩
    have hPT := hT.pl hc hP
    have a8 := hPT.2.1
    have d1 := c_runnerAfter (FU := FU) (pl := some c) (nm := nm) (hd := hd) (rd := rd) hc hPT hW (h := h) (i := i) (r := r) (m := m) (by omega) (by omega) hr (by omega)
    have cm : cnt (fun m => (rAft P h i r m).isSome) (m + 1) ≤ cnt (fun m => (rAft P h i r m).isSome) 33 := cnt_mono _ (by omega)
    have cs : cnt (fun m => (rAft P h i r m).isSome) (m + 1) = cnt (fun m => (rAft P h i r m).isSome) m + if (rAft P h i r m).isSome = true then 1 else 0 := rfl
    cases e : rAft P h i r m with
    | none =>
      rw [e] at d1 cs
      simp only [Option.isSome_none, Bool.false_eq_true, if_false, Nat.add_zero] at cs
      refine ⟨(nI (m + 1), (T, R0 (some c) nm hd rd)), ⟨T, g', ne', rfl, hT.mono (fun q k ho => ?_), by omega⟩, fun K F => ?_⟩
      · have b := okE_b hW ho
        unfold DR
        apply decide_eq_decide.mpr
        have nn : ¬ (q.1 * 8 + q.2.1 = h * 8 + i ∧ q.2.2.2.1 = 1 ∧ q.2.2.1 = r ∧ k = m) := by
          rintro ⟨y1, y2, y3, y4⟩
          have y5 := ho.2.2.2.2
          unfold tgO at y5
          rw [y4, y3, y2, show q.1 = h by omega, show q.2.1 = i by omega, e] at y5
          simp at y5
        constructor <;> intro y <;> omega
      · simp only
        rw [fX6_linkRunner_L44]
        unfold fX6_linkRunner_b108
        simp (discharger := omega) only [li_0, li_1, li_2, li_3, li_4, li_5, li_6, li_7, li_8, li_9, li_10, li_11, li_12, li_13, li_14, li_15, li_16, li_17, li_18, li_19, li_20, li_21, li_22, li_23, li_24, li_25, li_26, li_27, li_28, li_29, li_30, li_31, li_32, li_33, li_34, li_35, li_36, li_37, li_38, li_39, li_40, li_41, li_42, li_43, li_44, li_45, li_46, li_47, li_48, li_49, li_50, li_51, li_52, li_53, li_54, li_55, li_56, li_57, li_58, li_59, li_60, li_61, li_62, li_63, li_64, li_65, li_66, li_67, li_68, li_69, li_70, li_71, li_72, li_73, li_74, li_75, li_76, li_77, li_78, li_79, li_80, li_81, li_82, li_83, li_84, li_85, li_86, li_87, li_88, li_89, li_90, li_91, li_92, li_93, li_94, li_95, li_96, li_97, li_98, li_99, li_100, li_101, li_102, li_103, li_104, li_105, li_106, li_107, li_108, li_109, li_110, li_111, li_112, li_113, li_114, li_115, li_116, li_117, li_118, li_119, li_120, li_121, li_122, li_123, li_124, li_125, li_126, li_127, li_128, li_144, li_150, li_200, li_255, li_384, li_512, li_999, li_1000, li_1024, li_1152, li_1920, li_3776, li_4096, li_9216, li_10000, li_100000, li_1073741824, li_m, ↓rcb_17, ↓fIb_17, ↓pIb_17, ↓fRb_17_5, ↓fRb_17_6, ↓fRb_17_7, ↓fRb_17_9, ↓fRb_17_10, ↓fRb_17_11, ↓fRb_17_12, ↓fRb_17_15, ↓fRb_17_16, ↓fRb_17_17, ↓fRb_17_0, ↓aIb_18, ↓sIb_18, ↓aIb_19, ↓sIb_19, ↓aIb_20, ↓sIb_20, ↓aIb_21, ↓sIb_21, ↓aIb_22, ↓sIb_22, ↓aIb_23, ↓sIb_23, ↓aIb_24, ↓sIb_24, ↓aIb_25, ↓sIb_25, ↓aIb_26, ↓sIb_26, ↓aIb_27, ↓sIb_27, r0_17_5, r0_17_6, r0_17_7, r0_17_9, r0_17_10, r0_17_11, r0_17_12, r0_17_15, r0_17_16, r0_17_17, r0_17_0, rc_17, fI_17, fR_17, pI_17, pR_17, aI_18, sI_18, aI_19, sI_19, aI_20, sI_20, aI_21, sI_21, aI_22, sI_22, aI_23, sI_23, aI_24, sI_24, aI_25, sI_25, aI_26, sI_26, aI_27, sI_27, ↓rcb_P hc, ↓fIb_P hc, ↓pIb_P hc, ↓fRb_P1 hc, ↓aIb_P1 hc, ↓sIb_P1 hc, ↓fRb_P2 hc, ↓aIb_P2 hc, ↓sIb_P2 hc, ↓fRb_P3 hc, ↓aIb_P3 hc, ↓sIb_P3 hc, ↓fRb_P4 hc, ↓aIb_P4 hc, ↓sIb_P4 hc, ↓fRb_P5 hc, ↓aIb_P5 hc, ↓sIb_P5 hc, ↓fRb_P6 hc, ↓aIb_P6 hc, ↓sIb_P6 hc, ↓fRb_P7 hc, ↓aIb_P7 hc, ↓sIb_P7 hc, rc_P hc, fI_P hc, fR_P hc, pI_P hc, r0_P1 hc, aI_P1 hc, sI_P1 hc, r0_P2 hc, aI_P2 hc, sI_P2 hc, r0_P3 hc, aI_P3 hc, sI_P3 hc, r0_P4 hc, aI_P4 hc, sI_P4 hc, r0_P5 hc, aI_P5 hc, sI_P5 hc, r0_P6 hc, aI_P6 hc, sI_P6 hc, r0_P7 hc, aI_P7 hc, sI_P7 hc, ↓dn d1, w_bind, w_bd2, b01_eq0, b01_ok, b01_ok2, w_lt, w_le, w_eq, w_mlt, w_mle, w_ltm, w_lem, w_meq, w_eqm, w_mm, w_mmlt, w_mmle, nI_add, w_sub, pk_mul, w_div, w_rem, w_and, w_or, w_shr, w_shl1, w_a31, w_andn, ↓reduceIte, Nat.reduceAdd, Nat.reduceEqDiff, Nat.zero_lt_one, Nat.not_lt_zero, Nat.one_ne_zero, Nat.zero_ne_one, not_true_eq_false, not_false_eq_true, Bool.false_eq_true, Bool.true_eq_false, a8, show ¬ Pn P < m by omega, oI]
    | some y =>
      have ok := rAft_ok hW hr e
      have d2 := c_shutterPassed (FU := FU) (pl := some c) (nm := nm) (hd := hd) (rd := rd) hc hPT hW (m := m) (by omega) ok.2
      rw [e] at d1 cs
      simp only [Option.isSome_some, if_true] at cs
      have ht : tgO P (h, i, r, 1, 0) m = some ((h * 8 + i) * 8 + y) := by
        unfold tgO
        simp [e]
      have ho : okE P (h, i, r, 1, 0) m := ⟨⟨hpr, hr, Nat.one_lt_two, hs1⟩, rfl, ⟨h1, h2⟩, by omega, by rw [ht]; rfl⟩
      obtain ⟨J, J', j1, j2, j3⟩ := c_edgeR (FU := FU) (pl := some c) (nm := nm) (hd := hd) (rd := rd) hF hW hT0 h14 (D' := DR (h * 8 + i) r (m + 1)) hT (by omega) ho rfl ht ok.2 (by unfold DR; simp) (by
        intro q k hoq
        have b := okE_b hW hoq
        unfold DR
        rw [decide_eq_true_iff, decide_eq_true_iff]
        constructor
        · intro y
          by_cases y2 : q.1 * 8 + q.2.1 = h * 8 + i ∧ q.2.2.2.1 = 1 ∧ k = m ∧ q.2.2.1 = r
          · right
            rw [sd_eq y2.1 b.2.1 (by omega) y2.2.2.2 y2.2.1 b.2.2.2.2.2.2.2, y2.2.2.1]
          · left; omega
        · rintro (y | y)
          · omega
          · rw [Prod.mk.injEq] at y
            obtain ⟨y1, y2⟩ := y
            subst y1
            exact Or.inr ⟨rfl, Or.inr ⟨rfl, Or.inr ⟨rfl, by omega⟩⟩⟩)
      have cq : cC (h, i, r, 1, 0) = 512 + (h * 8 + i) * 8 + r := by unfold cC; simp; omega
      rw [cq] at j1 j2
      have ps : (if m = 0 then none else shO P ((m - 1) % 16)) = psd P m := rfl
      rw [ps] at d2
      refine ⟨(nI (m + 1), (J', R0 (some c) nm hd rd)), ⟨J', _, _, rfl, j3, by omega⟩, fun K F => ?_⟩
      simp only
      rw [fX6_linkRunner_L44]
      unfold fX6_linkRunner_b108
      simp (discharger := omega) only [li_0, li_1, li_2, li_3, li_4, li_5, li_6, li_7, li_8, li_9, li_10, li_11, li_12, li_13, li_14, li_15, li_16, li_17, li_18, li_19, li_20, li_21, li_22, li_23, li_24, li_25, li_26, li_27, li_28, li_29, li_30, li_31, li_32, li_33, li_34, li_35, li_36, li_37, li_38, li_39, li_40, li_41, li_42, li_43, li_44, li_45, li_46, li_47, li_48, li_49, li_50, li_51, li_52, li_53, li_54, li_55, li_56, li_57, li_58, li_59, li_60, li_61, li_62, li_63, li_64, li_65, li_66, li_67, li_68, li_69, li_70, li_71, li_72, li_73, li_74, li_75, li_76, li_77, li_78, li_79, li_80, li_81, li_82, li_83, li_84, li_85, li_86, li_87, li_88, li_89, li_90, li_91, li_92, li_93, li_94, li_95, li_96, li_97, li_98, li_99, li_100, li_101, li_102, li_103, li_104, li_105, li_106, li_107, li_108, li_109, li_110, li_111, li_112, li_113, li_114, li_115, li_116, li_117, li_118, li_119, li_120, li_121, li_122, li_123, li_124, li_125, li_126, li_127, li_128, li_144, li_150, li_200, li_255, li_384, li_512, li_999, li_1000, li_1024, li_1152, li_1920, li_3776, li_4096, li_9216, li_10000, li_100000, li_1073741824, li_m, ↓rcb_17, ↓fIb_17, ↓pIb_17, ↓fRb_17_5, ↓fRb_17_6, ↓fRb_17_7, ↓fRb_17_9, ↓fRb_17_10, ↓fRb_17_11, ↓fRb_17_12, ↓fRb_17_15, ↓fRb_17_16, ↓fRb_17_17, ↓fRb_17_0, ↓aIb_18, ↓sIb_18, ↓aIb_19, ↓sIb_19, ↓aIb_20, ↓sIb_20, ↓aIb_21, ↓sIb_21, ↓aIb_22, ↓sIb_22, ↓aIb_23, ↓sIb_23, ↓aIb_24, ↓sIb_24, ↓aIb_25, ↓sIb_25, ↓aIb_26, ↓sIb_26, ↓aIb_27, ↓sIb_27, r0_17_5, r0_17_6, r0_17_7, r0_17_9, r0_17_10, r0_17_11, r0_17_12, r0_17_15, r0_17_16, r0_17_17, r0_17_0, rc_17, fI_17, fR_17, pI_17, pR_17, aI_18, sI_18, aI_19, sI_19, aI_20, sI_20, aI_21, sI_21, aI_22, sI_22, aI_23, sI_23, aI_24, sI_24, aI_25, sI_25, aI_26, sI_26, aI_27, sI_27, ↓rcb_P hc, ↓fIb_P hc, ↓pIb_P hc, ↓fRb_P1 hc, ↓aIb_P1 hc, ↓sIb_P1 hc, ↓fRb_P2 hc, ↓aIb_P2 hc, ↓sIb_P2 hc, ↓fRb_P3 hc, ↓aIb_P3 hc, ↓sIb_P3 hc, ↓fRb_P4 hc, ↓aIb_P4 hc, ↓sIb_P4 hc, ↓fRb_P5 hc, ↓aIb_P5 hc, ↓sIb_P5 hc, ↓fRb_P6 hc, ↓aIb_P6 hc, ↓sIb_P6 hc, ↓fRb_P7 hc, ↓aIb_P7 hc, ↓sIb_P7 hc, rc_P hc, fI_P hc, fR_P hc, pI_P hc, r0_P1 hc, aI_P1 hc, sI_P1 hc, r0_P2 hc, aI_P2 hc, sI_P2 hc, r0_P3 hc, aI_P3 hc, sI_P3 hc, r0_P4 hc, aI_P4 hc, sI_P4 hc, r0_P5 hc, aI_P5 hc, sI_P5 hc, r0_P6 hc, aI_P6 hc, sI_P6 hc, r0_P7 hc, aI_P7 hc, sI_P7 hc, ↓dn d1, ↓dn d2, w_bind, w_bd2, b01_eq0, b01_ok, b01_ok2, w_lt, w_le, w_eq, w_mlt, w_mle, w_ltm, w_lem, w_meq, w_eqm, w_mm, w_mmlt, w_mmle, nI_add, w_sub, pk_mul, w_div, w_rem, w_and, w_or, w_shr, w_shl1, w_a31, w_andn, ↓reduceIte, Nat.reduceAdd, Nat.reduceEqDiff, Nat.zero_lt_one, Nat.not_lt_zero, Nat.one_ne_zero, Nat.zero_ne_one, not_true_eq_false, not_false_eq_true, Bool.false_eq_true, Bool.true_eq_false, a8, show ¬ Pn P < m by omega, oI_some, dn1 j1, dn1 j2]
  obtain ⟨s', ⟨T, g', ne', rfl, g1, g2⟩, hl⟩ := lpK (fun K F (s : Int32 × Mem) => fX6_linkRunner_L44 FU K 17 (nI (h * 8 + i)) (nI (plcM h i)) (nI r) (nI (512 + (h * 8 + i) * 8 + r)) F s.1 s.2) _ (Pn P + 1) st (Pn P + 1) 0 (nI 0, (I, R0 (some c) nm hd rd)) FU (by omega) (by omega) ⟨I, g, ne, rfl, hL, by show ne ≤ ne + 0; omega⟩
  have cm : cnt (fun m => (rAft P h i r m).isSome) (Pn P + 1) ≤ cnt (fun m => (rAft P h i r m).isSome) 33 := cnt_mono _ (by omega)
  refine ⟨T, g', ne', g1.mono (fun q k ho => ?_), by omega, fun K => ?_⟩
  · have b := okE_b hW ho
    unfold DR
    apply decide_eq_decide.mpr
    have nn : q.1 * 8 + q.2.1 = h * 8 + i ∧ q.2.2.2.1 = 1 ∧ q.2.2.1 = r → k < Pn P + 1 := by
      rintro ⟨y1, y2, y3⟩
      apply Classical.byContradiction
      intro y6
      have y5 := ho.2.2.2.2
      unfold tgO rAft at y5
      rw [y2, if_pos rfl, if_neg (by omega), if_pos (by omega)] at y5
      simp at y5
    constructor <;> intro y <;> omega
  · have hl := hl K
    simp only at hl
    obtain ⟨G, hG⟩ : ∃ G, FU - (Pn P + 1) = G + 1 := ⟨FU - (Pn P + 1) - 1, by omega⟩
    have a8 := (g1.pl hc hP).2.1
    rw [hl, hG, fX6_linkRunner_L44]
    unfold fX6_linkRunner_b114
    simp (discharger := omega) only [li_0, li_1, li_2, li_3, li_4, li_5, li_6, li_7, li_8, li_9, li_10, li_11, li_12, li_13, li_14, li_15, li_16, li_17, li_18, li_19, li_20, li_21, li_22, li_23, li_24, li_25, li_26, li_27, li_28, li_29, li_30, li_31, li_32, li_33, li_34, li_35, li_36, li_37, li_38, li_39, li_40, li_41, li_42, li_43, li_44, li_45, li_46, li_47, li_48, li_49, li_50, li_51, li_52, li_53, li_54, li_55, li_56, li_57, li_58, li_59, li_60, li_61, li_62, li_63, li_64, li_65, li_66, li_67, li_68, li_69, li_70, li_71, li_72, li_73, li_74, li_75, li_76, li_77, li_78, li_79, li_80, li_81, li_82, li_83, li_84, li_85, li_86, li_87, li_88, li_89, li_90, li_91, li_92, li_93, li_94, li_95, li_96, li_97, li_98, li_99, li_100, li_101, li_102, li_103, li_104, li_105, li_106, li_107, li_108, li_109, li_110, li_111, li_112, li_113, li_114, li_115, li_116, li_117, li_118, li_119, li_120, li_121, li_122, li_123, li_124, li_125, li_126, li_127, li_128, li_144, li_150, li_200, li_255, li_384, li_512, li_999, li_1000, li_1024, li_1152, li_1920, li_3776, li_4096, li_9216, li_10000, li_100000, li_1073741824, li_m, ↓rcb_17, ↓fIb_17, ↓pIb_17, ↓fRb_17_5, ↓fRb_17_6, ↓fRb_17_7, ↓fRb_17_9, ↓fRb_17_10, ↓fRb_17_11, ↓fRb_17_12, ↓fRb_17_15, ↓fRb_17_16, ↓fRb_17_17, ↓fRb_17_0, ↓aIb_18, ↓sIb_18, ↓aIb_19, ↓sIb_19, ↓aIb_20, ↓sIb_20, ↓aIb_21, ↓sIb_21, ↓aIb_22, ↓sIb_22, ↓aIb_23, ↓sIb_23, ↓aIb_24, ↓sIb_24, ↓aIb_25, ↓sIb_25, ↓aIb_26, ↓sIb_26, ↓aIb_27, ↓sIb_27, r0_17_5, r0_17_6, r0_17_7, r0_17_9, r0_17_10, r0_17_11, r0_17_12, r0_17_15, r0_17_16, r0_17_17, r0_17_0, rc_17, fI_17, fR_17, pI_17, pR_17, aI_18, sI_18, aI_19, sI_19, aI_20, sI_20, aI_21, sI_21, aI_22, sI_22, aI_23, sI_23, aI_24, sI_24, aI_25, sI_25, aI_26, sI_26, aI_27, sI_27, ↓rcb_P hc, ↓fIb_P hc, ↓pIb_P hc, ↓fRb_P1 hc, ↓aIb_P1 hc, ↓sIb_P1 hc, ↓fRb_P2 hc, ↓aIb_P2 hc, ↓sIb_P2 hc, ↓fRb_P3 hc, ↓aIb_P3 hc, ↓sIb_P3 hc, ↓fRb_P4 hc, ↓aIb_P4 hc, ↓sIb_P4 hc, ↓fRb_P5 hc, ↓aIb_P5 hc, ↓sIb_P5 hc, ↓fRb_P6 hc, ↓aIb_P6 hc, ↓sIb_P6 hc, ↓fRb_P7 hc, ↓aIb_P7 hc, ↓sIb_P7 hc, rc_P hc, fI_P hc, fR_P hc, pI_P hc, r0_P1 hc, aI_P1 hc, sI_P1 hc, r0_P2 hc, aI_P2 hc, sI_P2 hc, r0_P3 hc, aI_P3 hc, sI_P3 hc, r0_P4 hc, aI_P4 hc, sI_P4 hc, r0_P5 hc, aI_P5 hc, sI_P5 hc, r0_P6 hc, aI_P6 hc, sI_P6 hc, r0_P7 hc, aI_P7 hc, sI_P7 hc, w_bind, w_bd2, b01_eq0, b01_ok, b01_ok2, w_lt, w_le, w_eq, w_mlt, w_mle, w_ltm, w_lem, w_meq, w_eqm, w_mm, w_mmlt, w_mmle, nI_add, w_sub, pk_mul, w_div, w_rem, w_and, w_or, w_shr, w_shl1, w_a31, w_andn, ↓reduceIte, Nat.reduceAdd, Nat.reduceEqDiff, Nat.zero_lt_one, Nat.not_lt_zero, Nat.one_ne_zero, Nat.zero_ne_one, not_true_eq_false, not_false_eq_true, Bool.false_eq_true, Bool.true_eq_false, a8, Nat.lt_succ_self]
theorem c_linkRunner (hF : 99999999 ≤ FU) (hc : c = 1 ∨ c = 9) (hP : PlC c P I0) (hW : WfP P) (hT0 : ShT P I0) (h14 : I0 17 14 = nI (shS P)) {h i : Nat} (hpr : isPr P h i = true) {g : Nat → Sd × Nat} {ne nb : Nat} (hL : LI P I0 (DR (h * 8 + i) 0 0) g ne I) (hne : ne ≤ nb) (hb : nb + vs P h i (Pp P) ≤ 3776) : ∃ J g' ne', fX6_linkRunner FU 17 (nI (h * 8 + i)) (I, R0 (some c) nm hd rd) = some (J, R0 (some c) nm hd rd) ∧ LI P I0 (DP (h * 8 + i + 1)) g' ne' J ∧ ne' ≤ nb + vs P h i (Pp P) := by
  have hp := wf_p hW
  have hpr' := isPr_iff.mp hpr
  have hpl := plc_lt (h := h) (i := i) (by omega) (by omega)
  have st : ∀ r (s : Int32 × Mem), r < Pp P → (∃ T g' ne', s = (nI r, (T, R0 (some c) nm hd rd)) ∧ LI P I0 (DR (h * 8 + i) r 0) g' ne' T ∧ ne' ≤ nb + vs P h i r) → ∃ s', (∃ T g' ne', s' = (nI (r + 1), (T, R0 (some c) nm hd rd)) ∧ LI P I0 (DR (h * 8 + i) (r + 1) 0) g' ne' T ∧ ne' ≤ nb + vs P h i (r + 1)) ∧ ∀ F, fX6_linkRunner_L7 FU 17 (nI (h * 8 + i)) (nI (plcM h i)) (F + 1) s.1 s.2 = fX6_linkRunner_L7 FU 17 (nI (h * 8 + i)) (nI (plcM h i)) F s'.1 s'.2 := by
    rintro r _ hr ⟨T, g', ne', rfl, hT, hn⟩
    have a0 := (hT.pl hc hP).1
    have vm := vs_mono (P := P) (h := h) (i := i) (show r + 1 ≤ Pp P by omega)
    have ve : vs P h i (r + 1) = vs P h i r + cnt (fun m => (rAft P h i r m).isSome) 33 := rfl
    by_cases z : (plcM h i).testBit r = true
    · have z' := z
      rw [tb_plc, Bool.or_eq_true, decide_eq_true_iff, decide_eq_true_iff] at z'
      refine ⟨(nI (r + 1), (T, R0 (some c) nm hd rd)), ⟨T, g', ne', rfl, hT.mono (fun q k ho => ?_), by omega⟩, fun F => ?_⟩
      · have b := okE_b hW ho
        unfold DR
        apply decide_eq_decide.mpr
        have : q.1 * 8 + q.2.1 = h * 8 + i → q.1 = h ∧ q.2.1 = i := by intro e; omega
        constructor <;> intro y <;> omega
      · simp only
        rw [fX6_linkRunner_L7]
        unfold fX6_linkRunner_b114
        simp (discharger := omega) only [li_0, li_1, li_2, li_3, li_4, li_5, li_6, li_7, li_8, li_9, li_10, li_11, li_12, li_13, li_14, li_15, li_16, li_17, li_18, li_19, li_20, li_21, li_22, li_23, li_24, li_25, li_26, li_27, li_28, li_29, li_30, li_31, li_32, li_33, li_34, li_35, li_36, li_37, li_38, li_39, li_40, li_41, li_42, li_43, li_44, li_45, li_46, li_47, li_48, li_49, li_50, li_51, li_52, li_53, li_54, li_55, li_56, li_57, li_58, li_59, li_60, li_61, li_62, li_63, li_64, li_65, li_66, li_67, li_68, li_69, li_70, li_71, li_72, li_73, li_74, li_75, li_76, li_77, li_78, li_79, li_80, li_81, li_82, li_83, li_84, li_85, li_86, li_87, li_88, li_89, li_90, li_91, li_92, li_93, li_94, li_95, li_96, li_97, li_98, li_99, li_100, li_101, li_102, li_103, li_104, li_105, li_106, li_107, li_108, li_109, li_110, li_111, li_112, li_113, li_114, li_115, li_116, li_117, li_118, li_119, li_120, li_121, li_122, li_123, li_124, li_125, li_126, li_127, li_128, li_144, li_150, li_200, li_255, li_384, li_512, li_999, li_1000, li_1024, li_1152, li_1920, li_3776, li_4096, li_9216, li_10000, li_100000, li_1073741824, li_m, ↓rcb_17, ↓fIb_17, ↓pIb_17, ↓fRb_17_5, ↓fRb_17_6, ↓fRb_17_7, ↓fRb_17_9, ↓fRb_17_10, ↓fRb_17_11, ↓fRb_17_12, ↓fRb_17_15, ↓fRb_17_16, ↓fRb_17_17, ↓fRb_17_0, ↓aIb_18, ↓sIb_18, ↓aIb_19, ↓sIb_19, ↓aIb_20, ↓sIb_20, ↓aIb_21, ↓sIb_21, ↓aIb_22, ↓sIb_22, ↓aIb_23, ↓sIb_23, ↓aIb_24, ↓sIb_24, ↓aIb_25, ↓sIb_25, ↓aIb_26, ↓sIb_26, ↓aIb_27, ↓sIb_27, r0_17_5, r0_17_6, r0_17_7, r0_17_9, r0_17_10, r0_17_11, r0_17_12, r0_17_15, r0_17_16, r0_17_17, r0_17_0, rc_17, fI_17, fR_17, pI_17, pR_17, aI_18, sI_18, aI_19, sI_19, aI_20, sI_20, aI_21, sI_21, aI_22, sI_22, aI_23, sI_23, aI_24, sI_24, aI_25, sI_25, aI_26, sI_26, aI_27, sI_27, ↓rcb_P hc, ↓fIb_P hc, ↓pIb_P hc, ↓fRb_P1 hc, ↓aIb_P1 hc, ↓sIb_P1 hc, ↓fRb_P2 hc, ↓aIb_P2 hc, ↓sIb_P2 hc, ↓fRb_P3 hc, ↓aIb_P3 hc, ↓sIb_P3 hc, ↓fRb_P4 hc, ↓aIb_P4 hc, ↓sIb_P4 hc, ↓fRb_P5 hc, ↓aIb_P5 hc, ↓sIb_P5 hc, ↓fRb_P6 hc, ↓aIb_P6 hc, ↓sIb_P6 hc, ↓fRb_P7 hc, ↓aIb_P7 hc, ↓sIb_P7 hc, rc_P hc, fI_P hc, fR_P hc, pI_P hc, r0_P1 hc, aI_P1 hc, sI_P1 hc, r0_P2 hc, aI_P2 hc, sI_P2 hc, r0_P3 hc, aI_P3 hc, sI_P3 hc, r0_P4 hc, aI_P4 hc, sI_P4 hc, r0_P5 hc, aI_P5 hc, sI_P5 hc, r0_P6 hc, aI_P6 hc, sI_P6 hc, r0_P7 hc, aI_P7 hc, sI_P7 hc, w_bind, w_bd2, b01_eq0, b01_ok, b01_ok2, w_lt, w_le, w_eq, w_mlt, w_mle, w_ltm, w_lem, w_meq, w_eqm, w_mm, w_mmlt, w_mmle, nI_add, w_sub, pk_mul, w_div, w_rem, w_and, w_or, w_shr, w_shl1, w_a31, w_andn, ↓reduceIte, Nat.reduceAdd, Nat.reduceEqDiff, Nat.zero_lt_one, Nat.not_lt_zero, Nat.one_ne_zero, Nat.zero_ne_one, not_true_eq_false, not_false_eq_true, Bool.false_eq_true, Bool.true_eq_false, a0, Nat.not_le.mpr hr, w_a1, w_bit0, z, Bool.true_eq_false]
    · have z' := z
      rw [tb_plc, Bool.or_eq_true, decide_eq_true_iff, decide_eq_true_iff] at z'
      have z2 : (plcM h i).testBit r = false := by simpa using z
      obtain ⟨J, g'', ne'', q1, q2, q3⟩ := c_linkR1 (nm := nm) (hd := hd) (rd := rd) hF hc hP hW hT0 h14 hpr hr (by omega) (by omega) hT (by omega)
      refine ⟨(nI (r + 1), (J, R0 (some c) nm hd rd)), ⟨J, g'', ne'', rfl, q1, by omega⟩, fun F => ?_⟩
      simp only
      rw [fX6_linkRunner_L7]
      simp (discharger := omega) only [li_0, li_1, li_2, li_3, li_4, li_5, li_6, li_7, li_8, li_9, li_10, li_11, li_12, li_13, li_14, li_15, li_16, li_17, li_18, li_19, li_20, li_21, li_22, li_23, li_24, li_25, li_26, li_27, li_28, li_29, li_30, li_31, li_32, li_33, li_34, li_35, li_36, li_37, li_38, li_39, li_40, li_41, li_42, li_43, li_44, li_45, li_46, li_47, li_48, li_49, li_50, li_51, li_52, li_53, li_54, li_55, li_56, li_57, li_58, li_59, li_60, li_61, li_62, li_63, li_64, li_65, li_66, li_67, li_68, li_69, li_70, li_71, li_72, li_73, li_74, li_75, li_76, li_77, li_78, li_79, li_80, li_81, li_82, li_83, li_84, li_85, li_86, li_87, li_88, li_89, li_90, li_91, li_92, li_93, li_94, li_95, li_96, li_97, li_98, li_99, li_100, li_101, li_102, li_103, li_104, li_105, li_106, li_107, li_108, li_109, li_110, li_111, li_112, li_113, li_114, li_115, li_116, li_117, li_118, li_119, li_120, li_121, li_122, li_123, li_124, li_125, li_126, li_127, li_128, li_144, li_150, li_200, li_255, li_384, li_512, li_999, li_1000, li_1024, li_1152, li_1920, li_3776, li_4096, li_9216, li_10000, li_100000, li_1073741824, li_m, ↓rcb_17, ↓fIb_17, ↓pIb_17, ↓fRb_17_5, ↓fRb_17_6, ↓fRb_17_7, ↓fRb_17_9, ↓fRb_17_10, ↓fRb_17_11, ↓fRb_17_12, ↓fRb_17_15, ↓fRb_17_16, ↓fRb_17_17, ↓fRb_17_0, ↓aIb_18, ↓sIb_18, ↓aIb_19, ↓sIb_19, ↓aIb_20, ↓sIb_20, ↓aIb_21, ↓sIb_21, ↓aIb_22, ↓sIb_22, ↓aIb_23, ↓sIb_23, ↓aIb_24, ↓sIb_24, ↓aIb_25, ↓sIb_25, ↓aIb_26, ↓sIb_26, ↓aIb_27, ↓sIb_27, r0_17_5, r0_17_6, r0_17_7, r0_17_9, r0_17_10, r0_17_11, r0_17_12, r0_17_15, r0_17_16, r0_17_17, r0_17_0, rc_17, fI_17, fR_17, pI_17, pR_17, aI_18, sI_18, aI_19, sI_19, aI_20, sI_20, aI_21, sI_21, aI_22, sI_22, aI_23, sI_23, aI_24, sI_24, aI_25, sI_25, aI_26, sI_26, aI_27, sI_27, ↓rcb_P hc, ↓fIb_P hc, ↓pIb_P hc, ↓fRb_P1 hc, ↓aIb_P1 hc, ↓sIb_P1 hc, ↓fRb_P2 hc, ↓aIb_P2 hc, ↓sIb_P2 hc, ↓fRb_P3 hc, ↓aIb_P3 hc, ↓sIb_P3 hc, ↓fRb_P4 hc, ↓aIb_P4 hc, ↓sIb_P4 hc, ↓fRb_P5 hc, ↓aIb_P5 hc, ↓sIb_P5 hc, ↓fRb_P6 hc, ↓aIb_P6 hc, ↓sIb_P6 hc, ↓fRb_P7 hc, ↓aIb_P7 hc, ↓sIb_P7 hc, rc_P hc, fI_P hc, fR_P hc, pI_P hc, r0_P1 hc, aI_P1 hc, sI_P1 hc, r0_P2 hc, aI_P2 hc, sI_P2 hc, r0_P3 hc, aI_P3 hc, sI_P3 hc, r0_P4 hc, aI_P4 hc, sI_P4 hc, r0_P5 hc, aI_P5 hc, sI_P5 hc, r0_P6 hc, aI_P6 hc, sI_P6 hc, r0_P7 hc, aI_P7 hc, sI_P7 hc, w_bind, w_bd2, b01_eq0, b01_ok, b01_ok2, w_lt, w_le, w_eq, w_mlt, w_mle, w_ltm, w_lem, w_meq, w_eqm, w_mm, w_mmlt, w_mmle, nI_add, w_sub, pk_mul, w_div, w_rem, w_and, w_or, w_shr, w_shl1, w_a31, w_andn, ↓reduceIte, Nat.reduceAdd, Nat.reduceEqDiff, Nat.zero_lt_one, Nat.not_lt_zero, Nat.one_ne_zero, Nat.zero_ne_one, not_true_eq_false, not_false_eq_true, Bool.false_eq_true, Bool.true_eq_false, a0, Nat.not_le.mpr hr, w_a1, w_bit0, z2]
      exact q3 _
  obtain ⟨s', ⟨T, g', ne', rfl, g1, g2⟩, hl⟩ := lpI (fun F (s : Int32 × Mem) => fX6_linkRunner_L7 FU 17 (nI (h * 8 + i)) (nI (plcM h i)) F s.1 s.2) _ (Pp P) st (Pp P) 0 (nI 0, (I, R0 (some c) nm hd rd)) FU (by omega) (by omega) ⟨I, g, ne, rfl, hL, by show ne ≤ nb + 0; omega⟩
  simp only at hl
  refine ⟨T, g', ne', ?_, g1.mono (fun q k ho => ?_), g2⟩
  · have d0 := c_placesOf (FU := FU) (I := I) (pl := some c) (nm := nm) (hd := hd) (rd := rd) (h := h) (i := i) (by omega) (by omega)
    have a0 := (g1.pl hc hP).1
    obtain ⟨G, hG⟩ : ∃ G, FU - Pp P = G + 1 := ⟨FU - Pp P - 1, by omega⟩
    unfold fX6_linkRunner
    simp (discharger := omega) only [li_0, li_1, li_2, li_3, li_4, li_5, li_6, li_7, li_8, li_9, li_10, li_11, li_12, li_13, li_14, li_15, li_16, li_17, li_18, li_19, li_20, li_21, li_22, li_23, li_24, li_25, li_26, li_27, li_28, li_29, li_30, li_31, li_32, li_33, li_34, li_35, li_36, li_37, li_38, li_39, li_40, li_41, li_42, li_43, li_44, li_45, li_46, li_47, li_48, li_49, li_50, li_51, li_52, li_53, li_54, li_55, li_56, li_57, li_58, li_59, li_60, li_61, li_62, li_63, li_64, li_65, li_66, li_67, li_68, li_69, li_70, li_71, li_72, li_73, li_74, li_75, li_76, li_77, li_78, li_79, li_80, li_81, li_82, li_83, li_84, li_85, li_86, li_87, li_88, li_89, li_90, li_91, li_92, li_93, li_94, li_95, li_96, li_97, li_98, li_99, li_100, li_101, li_102, li_103, li_104, li_105, li_106, li_107, li_108, li_109, li_110, li_111, li_112, li_113, li_114, li_115, li_116, li_117, li_118, li_119, li_120, li_121, li_122, li_123, li_124, li_125, li_126, li_127, li_128, li_144, li_150, li_200, li_255, li_384, li_512, li_999, li_1000, li_1024, li_1152, li_1920, li_3776, li_4096, li_9216, li_10000, li_100000, li_1073741824, li_m, ↓dn d0]
    rw [hl, hG, fX6_linkRunner_L7]
    simp (discharger := omega) only [li_0, li_1, li_2, li_3, li_4, li_5, li_6, li_7, li_8, li_9, li_10, li_11, li_12, li_13, li_14, li_15, li_16, li_17, li_18, li_19, li_20, li_21, li_22, li_23, li_24, li_25, li_26, li_27, li_28, li_29, li_30, li_31, li_32, li_33, li_34, li_35, li_36, li_37, li_38, li_39, li_40, li_41, li_42, li_43, li_44, li_45, li_46, li_47, li_48, li_49, li_50, li_51, li_52, li_53, li_54, li_55, li_56, li_57, li_58, li_59, li_60, li_61, li_62, li_63, li_64, li_65, li_66, li_67, li_68, li_69, li_70, li_71, li_72, li_73, li_74, li_75, li_76, li_77, li_78, li_79, li_80, li_81, li_82, li_83, li_84, li_85, li_86, li_87, li_88, li_89, li_90, li_91, li_92, li_93, li_94, li_95, li_96, li_97, li_98, li_99, li_100, li_101, li_102, li_103, li_104, li_105, li_106, li_107, li_108, li_109, li_110, li_111, li_112, li_113, li_114, li_115, li_116, li_117, li_118, li_119, li_120, li_121, li_122, li_123, li_124, li_125, li_126, li_127, li_128, li_144, li_150, li_200, li_255, li_384, li_512, li_999, li_1000, li_1024, li_1152, li_1920, li_3776, li_4096, li_9216, li_10000, li_100000, li_1073741824, li_m, ↓rcb_17, ↓fIb_17, ↓pIb_17, ↓fRb_17_5, ↓fRb_17_6, ↓fRb_17_7, ↓fRb_17_9, ↓fRb_17_10, ↓fRb_17_11, ↓fRb_17_12, ↓fRb_17_15, ↓fRb_17_16, ↓fRb_17_17, ↓fRb_17_0, ↓aIb_18, ↓sIb_18, ↓aIb_19, ↓sIb_19, ↓aIb_20, ↓sIb_20, ↓aIb_21, ↓sIb_21, ↓aIb_22, ↓sIb_22, ↓aIb_23, ↓sIb_23, ↓aIb_24, ↓sIb_24, ↓aIb_25, ↓sIb_25, ↓aIb_26, ↓sIb_26, ↓aIb_27, ↓sIb_27, r0_17_5, r0_17_6, r0_17_7, r0_17_9, r0_17_10, r0_17_11, r0_17_12, r0_17_15, r0_17_16, r0_17_17, r0_17_0, rc_17, fI_17, fR_17, pI_17, pR_17, aI_18, sI_18, aI_19, sI_19, aI_20, sI_20, aI_21, sI_21, aI_22, sI_22, aI_23, sI_23, aI_24, sI_24, aI_25, sI_25, aI_26, sI_26, aI_27, sI_27, ↓rcb_P hc, ↓fIb_P hc, ↓pIb_P hc, ↓fRb_P1 hc, ↓aIb_P1 hc, ↓sIb_P1 hc, ↓fRb_P2 hc, ↓aIb_P2 hc, ↓sIb_P2 hc, ↓fRb_P3 hc, ↓aIb_P3 hc, ↓sIb_P3 hc, ↓fRb_P4 hc, ↓aIb_P4 hc, ↓sIb_P4 hc, ↓fRb_P5 hc, ↓aIb_P5 hc, ↓sIb_P5 hc, ↓fRb_P6 hc, ↓aIb_P6 hc, ↓sIb_P6 hc, ↓fRb_P7 hc, ↓aIb_P7 hc, ↓sIb_P7 hc, rc_P hc, fI_P hc, fR_P hc, pI_P hc, r0_P1 hc, aI_P1 hc, sI_P1 hc, r0_P2 hc, aI_P2 hc, sI_P2 hc, r0_P3 hc, aI_P3 hc, sI_P3 hc, r0_P4 hc, aI_P4 hc, sI_P4 hc, r0_P5 hc, aI_P5 hc, sI_P5 hc, r0_P6 hc, aI_P6 hc, sI_P6 hc, r0_P7 hc, aI_P7 hc, sI_P7 hc, w_bind, w_bd2, b01_eq0, b01_ok, b01_ok2, w_lt, w_le, w_eq, w_mlt, w_mle, w_ltm, w_lem, w_meq, w_eqm, w_mm, w_mmlt, w_mmle, nI_add, w_sub, pk_mul, w_div, w_rem, w_and, w_or, w_shr, w_shl1, w_a31, w_andn, ↓reduceIte, Nat.reduceAdd, Nat.reduceEqDiff, Nat.zero_lt_one, Nat.not_lt_zero, Nat.one_ne_zero, Nat.zero_ne_one, not_true_eq_false, not_false_eq_true, Bool.false_eq_true, Bool.true_eq_false, a0, Nat.le_refl]
  · have b := okE_b hW ho
    unfold DP DR
    apply decide_eq_decide.mpr
    constructor <;> intro y <;> omega
end Link2
