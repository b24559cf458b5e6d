/-! calls: start, joined -/
section Start7
variable {FU ver : Nat} {P : Pln} {I J : Nat → Nat → Int32} {pl nm hd rd : Option Nat}
def gStart (P : Pln) (s : Sd) : Gme := (s, lookK P s (knS P s), 0, 0, fun _ => (s, 0))
/-- both answer alike and keep the game alike -/
def GO (P : Pln) (g : Option Gme) (I J : Nat → Nat → Int32) (R : Nat → Nat → Option Nat) (o8 o9 : Option (Int32 × Mem)) : Prop := ∃ r g', WGo P g' ∧ (∀ N, GN N g → GN N g') ∧ (∃ I', o8 = some (r, (I', R)) ∧ CG g' I' ∧ (∀ k, k ≠ 35 → I' k = I k)) ∧ (∃ J', o9 = some (r, (J', R)) ∧ RG g' J' ∧ (∀ k, k ≠ 60 → J' k = J k) ∧ (∀ i, i < 19 ∨ 23 < i → J' 60 i = J 60 i))
theorem k_startG (hF : 99999999 ≤ FU) (hC : PlC 1 P I) (hR : PlR P J) (hW : WfP P) {g : Option Gme} {x1 x2 : Int32} {a b r : Nat} (vs : Vd P (a, b, r, 0, 0)) (e1 : fX3_pairOf FU 1 x1 x2 (I, R0 pl nm hd rd) = some (nI (a * 8 + b), (I, R0 pl nm hd rd))) (cy : fX3_has FU 1 (nI r) (I, R0 pl nm hd rd) = some (nI 1, (I, R0 pl nm hd rd))) (e2 : fX9_standingOf FU 60 x1 x2 (nI r) (nI 0) (nI 0) (J, R0 pl nm hd rd) = some (nI (cR (a, b, r, 0, 0)), (J, R0 pl nm hd rd))) (met : (plcM a b).testBit r = false) (cg : cgtB P (a, b, r, 0, 0) = false) : GO P g I J (R0 pl nm hd rd) (fX8_start FU 0 x1 x2 (nI r) (I, R0 pl nm hd rd)) (fX9_start FU 60 x1 x2 (nI r) (J, R0 pl nm hd rd)) := by
  have hp := wf_p hW
  have hin := Vd_in hW vs
  have a1 : a < 8 := hin.1
  have a2 : b < 8 := hin.2.1
  have a3 : r < 8 := hin.2.2.1
  have kl := knS_lt hW (a, b, r, 0, 0)
  have ql := lookK_lt hW vs kl
  have cl := cR_lt hin
  have c1 : (a * 8 + b) * 8 + r = cC (a, b, r, 0, 0) := by unfold cC; simp
  have eb := c_begin0 (FU := FU) (pl := pl) (nm := nm) (hd := hd) (rd := rd) hF hC hW vs a1 a2 c1 rfl kl rfl
  have c8 := c_startG (x1 := x1) (x2 := x2) a1 a2 a3 e1 cy met eb (by rw [up2_s])
  have c9 := r_startG (FU := FU) (pl := pl) (nm := nm) (hd := hd) (rd := rd) (x1 := x1) (x2 := x2) (x3 := nI r) (k := knS P (a, b, r, 0, 0)) hF hR hW vs a1 a2 rfl hp.2 (by omega) rfl e2 cg rfl kl
  refine ⟨_, some (gStart P (a, b, r, 0, 0)), ?_, ?_, ⟨_, c8, ?_, ?_⟩, ⟨_, c9, ?_, ?_, ?_⟩⟩
  · intro x e
    have e := Option.some.inj e
    subst e
    exact ⟨vs, ql, by show 0 < 2 ^ 30; decide, by show 0 ≤ 64; decide, Nat.le_refl 0, fun j hj => absurd hj (Nat.not_lt_zero j)⟩
  · intro N _ x e
    have e := Option.some.inj e
    subst e
    exact Nat.zero_le N
  · refine ⟨?_, ?_, ?_, ?_, ?_, fun j _ j2 => absurd j2 (Nat.not_lt_zero j)⟩
    · rw [up2_i (by decide), up2_i (by decide), up2_i (by decide), up2_i (by decide), up2_i (by decide), up2_s]
    · rw [up2_i (by decide), up2_i (by decide), up2_s]; rfl
    · rw [up2_s]; rfl
    · rw [up2_i (by decide), up2_i (by decide), up2_i (by decide), up2_i (by decide), up2_s]; rfl
    · rw [up2_i (by decide), up2_i (by decide), up2_i (by decide), up2_s]; rfl
  · intro k hk
    rw [up2_ne hk, up2_ne hk, up2_ne hk, up2_ne hk, up2_ne hk, up2_ne hk]
  · refine ⟨?_, ?_, ?_, ?_, ?_, fun j j2 => absurd j2 (Nat.not_lt_zero j)⟩
    · rw [up2_i (by decide), up2_i (by decide), up2_i (by decide), up2_i (by decide), up2_i (by decide), up2_s]
    · rw [up2_i (by decide), up2_i (by decide), up2_i (by decide), up2_i (by decide), up2_s]; rfl
    · rw [up2_s]; rfl
    · rw [up2_i (by decide), up2_i (by decide), up2_i (by decide), up2_s]; rfl
    · rw [up2_i (by decide), up2_i (by decide), up2_s]; rfl
  · intro k hk
    rw [up2_ne hk, up2_ne hk, up2_ne hk, up2_ne hk, up2_ne hk, up2_ne hk]
  · intro i hi
    rw [up2_i (by omega), up2_i (by omega), up2_i (by omega), up2_i (by omega), up2_i (by omega), up2_i (by omega)]
theorem k_start (hF : 99999999 ≤ FU) (hC : PlC 1 P I) (hR : PlR P J) (hW : WfP P) {g : Option Gme} (hg : WGo P g) (hCG : CG g I) (hRG : RG g J) (x1 x2 x3 : Int32) : GO P g I J (R0 pl nm hd rd) (fX8_start FU 0 x1 x2 x3 (I, R0 pl nm hd rd)) (fX9_start FU 60 x1 x2 x3 (J, R0 pl nm hd rd)) := by
  have hc : (1 : Nat) = 1 ∨ (1 : Nat) = 9 := Or.inl rfl
  have hp := wf_p hW
  have no : ∀ r, fX8_start FU 0 x1 x2 x3 (I, R0 pl nm hd rd) = some (r, (I, R0 pl nm hd rd)) → fX9_start FU 60 x1 x2 x3 (J, R0 pl nm hd rd) = some (r, (J, R0 pl nm hd rd)) → GO P g I J (R0 pl nm hd rd) (fX8_start FU 0 x1 x2 x3 (I, R0 pl nm hd rd)) (fX9_start FU 60 x1 x2 x3 (J, R0 pl nm hd rd)) := fun r a b => ⟨r, g, hg, fun _ h => h, ⟨I, a, hCG, fun _ _ => rfl⟩, ⟨J, b, hRG, fun _ _ => rfl, fun _ _ => rfl⟩⟩
  by_cases hA : ∃ h i r t b, AOK P x1 x2 x3 (nI 0) (nI 0) h i r t b
  · obtain ⟨h, i, r, t, b, hA⟩ := hA
    have vs := aok_Vd hW hA
    have e2 := r_stand (FU := FU) (pl := pl) (nm := nm) (hd := hd) (rd := rd) hF hR hW hA
    obtain ⟨q1, q2, q3, q4, q5, hh, hi, hr, ht, hb⟩ := hA
    have t0 : t = 0 := ((nI_eq (by omega) (by omega)).mp q4).symm
    have b0 : b = 0 := ((nI_eq (by omega) (by have := shS_le P; omega)).mp q5).symm
    subst t0 b0 q3
    have sl := srt_lt hh hi
    have dp := c_pairOf (FU := FU) (pl := pl) (nm := nm) (hd := hd) (rd := rd) hc hC hW x1 x2
    have e3 : fX3_pairOf_b13 FU 1 x1 (secI P x1 x2) (I, R0 pl nm hd rd) = some (nI ((srt h i).1 * 8 + (srt h i).2), (I, R0 pl nm hd rd)) := by
      have dh1 := c_has (FU := FU) (pl := pl) (nm := nm) (hd := hd) (rd := rd) hc hC hW (x := h) (by omega)
      have dh2 := c_has (FU := FU) (pl := pl) (nm := nm) (hd := hd) (rd := rd) hc hC hW (x := i) (by omega)
      have es := c_sortedPair (FU := FU) (pl := pl) (nm := nm) (hd := hd) (rd := rd) (I := I) (x := h) (y := i) (by omega) (by omega)
      rw [q2, q1]
      unfold fX3_pairOf_b13
      simp (discharger := omega) only [li_0, li_1, li_2, li_3, li_4, li_5, li_6, li_7, li_8, li_9, li_10, li_11, li_12, li_13, li_14, li_15, li_16, li_17, li_18, li_19, li_20, li_21, li_22, li_23, li_24, li_25, li_26, li_27, li_28, li_29, li_30, li_31, li_32, li_33, li_34, li_35, li_36, li_37, li_38, li_39, li_40, li_41, li_42, li_43, li_44, li_45, li_46, li_47, li_48, li_49, li_50, li_51, li_52, li_53, li_54, li_55, li_56, li_57, li_58, li_59, li_60, li_61, li_62, li_63, li_64, li_65, li_66, li_67, li_68, li_69, li_70, li_71, li_72, li_73, li_74, li_75, li_76, li_77, li_78, li_79, li_80, li_81, li_82, li_83, li_84, li_85, li_86, li_87, li_88, li_89, li_90, li_91, li_92, li_93, li_94, li_95, li_96, li_97, li_98, li_99, li_100, li_101, li_102, li_103, li_104, li_105, li_106, li_107, li_108, li_109, li_110, li_111, li_112, li_113, li_114, li_115, li_116, li_117, li_118, li_119, li_120, li_121, li_122, li_123, li_124, li_125, li_126, li_127, li_128, li_144, li_150, li_200, li_255, li_384, li_512, li_999, li_1000, li_1024, li_1152, li_1920, li_3776, li_4096, li_9216, li_10000, li_100000, li_1073741824, li_m, ↓rcb_P hc, ↓fIb_P hc, ↓pIb_P hc, ↓fRb_P1 hc, ↓aIb_P1 hc, ↓sIb_P1 hc, ↓fRb_P2 hc, ↓aIb_P2 hc, ↓sIb_P2 hc, ↓fRb_P3 hc, ↓aIb_P3 hc, ↓sIb_P3 hc, ↓fRb_P4 hc, ↓aIb_P4 hc, ↓sIb_P4 hc, ↓fRb_P5 hc, ↓aIb_P5 hc, ↓sIb_P5 hc, ↓fRb_P6 hc, ↓aIb_P6 hc, ↓sIb_P6 hc, ↓fRb_P7 hc, ↓aIb_P7 hc, ↓sIb_P7 hc, rc_P hc, fI_P hc, fR_P hc, pI_P hc, r0_P1 hc, aI_P1 hc, sI_P1 hc, r0_P2 hc, aI_P2 hc, sI_P2 hc, r0_P3 hc, aI_P3 hc, sI_P3 hc, r0_P4 hc, aI_P4 hc, sI_P4 hc, r0_P5 hc, aI_P5 hc, sI_P5 hc, r0_P6 hc, aI_P6 hc, sI_P6 hc, r0_P7 hc, aI_P7 hc, sI_P7 hc, ↓dn dh1, ↓dn dh2, ↓dn es, w_bind, w_bd2, b01_eq0, b01_ok, b01_ok2, w_lt, w_le, w_eq, w_mlt, w_mle, w_ltm, w_lem, w_meq, w_eqm, w_mm, w_mmlt, w_mmle, nI_add, w_sub, pk_mul, w_div, w_rem, w_and, w_or, w_shr, w_shl1, w_a31, w_andn, ↓reduceIte, Nat.reduceAdd, Nat.reduceEqDiff, Nat.zero_lt_one, Nat.not_lt_zero, Nat.one_ne_zero, Nat.zero_ne_one, not_true_eq_false, not_false_eq_true, Bool.false_eq_true, Bool.true_eq_false, n_leT, n_leF, n_ltT, n_ltF, n_eqT, n_eqF, and_true, true_and, and_false, false_and, or_true, true_or, or_false, false_or, not_true_eq_false, not_false_eq_true]
    have e1 := dp.trans e3
    have cy := c_has (FU := FU) (pl := pl) (nm := nm) (hd := hd) (rd := rd) hc hC hW (x := r) (by omega)
    rw [b01_pos hr] at cy
    have tb := tb_plc (srt h i).1 (srt h i).2 r
    have cge : cgtB P ((srt h i).1, (srt h i).2, r, 0, 0) = (plcM (srt h i).1 (srt h i).2).testBit r := by
      rw [tb]
      unfold cgtB
      simp only [Nat.zero_ne_one, beq_iff_eq]
      by_cases z1 : (srt h i).1 = r <;> by_cases z2 : (srt h i).2 = r <;> simp [z1, z2]
    have crl := cR_lt (Vd_in hW vs)
    by_cases met : (plcM (srt h i).1 (srt h i).2).testBit r = true
    · exact no (-3) (c_startM (by omega) (by omega) (by omega) e1 cy met) (r_startM hF hR hW vs (by omega) rfl e2 (by rw [cge, met]))
    · have met : (plcM (srt h i).1 (srt h i).2).testBit r = false := by simpa using met
      exact k_startG hF hC hR hW vs e1 cy e2 met (by rw [cge, met])
  · have e2 := r_standN (FU := FU) (pl := pl) (nm := nm) (hd := hd) (rd := rd) hF hR hW hA
    have n9 := r_startN e2 (by decide)
    have dp := c_pairOf (FU := FU) (pl := pl) (nm := nm) (hd := hd) (rd := rd) hc hC hW x1 x2
    rcases c_pair13 (FU := FU) (pl := pl) (nm := nm) (hd := hd) (rd := rd) hc hC hW x1 (secI P x1 x2) with e | ⟨h, i, hh, hi, ex, ey, e⟩
    · exact no (-2) (c_startN1 (dp.trans e) (by decide)) n9
    · have sl := srt_lt hh hi
      have f0 : ¬ nI ((srt h i).1 * 8 + (srt h i).2) < 0 := by rw [li_0, w_lt (by omega) (by omega)]; omega
      rcases c_place (FU := FU) (pl := pl) (nm := nm) (hd := hd) (rd := rd) hc hC hW x3 with ⟨cn, nx⟩ | ⟨r, hr, er, cy⟩
      · exact no (-2) (c_startN2 (dp.trans e) f0 cn) n9
      · exact absurd ⟨h, i, r, 0, 0, ex, ey, er, rfl, rfl, hh, hi, hr, by decide, shS_pos P⟩ hA
end Start7
