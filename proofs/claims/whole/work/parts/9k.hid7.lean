/-! calls: sure, first -/
section Hid7
variable {FU ver : Nat} {P : Pln} {I J : Nat → Nat → Int32} {pl nm hd rd : Option Nat}
theorem lv_own {r h i s j : Nat} (e : lv P r h i s = some j) : lv P j h i s = some j := by
  induction r with
  | zero =>
    have := lv_le 0 h i s j e
    have z : j = 0 := by omega
    subst z
    exact e
  | succ r ih =>
    have e' := e
    rw [lvm_33] at e
    unfold lvm at e
    cases q : lv P r h i s with
    | some k =>
      rw [q] at e
      exact ih (by rw [q]; exact e)
    | none =>
      rw [q] at e
      simp only at e
      split at e
      · have e := Option.some.inj e
        subst e
        exact e'
      · cases e
theorem lv_up {r h i s j : Nat} (e : lv P r h i s = some j) (d : Nat) : lv P (r + d) h i s = some j := by
  induction d with
  | zero => exact e
  | succ d ih => exact lv_s ih
theorem lv_cut {r k h i s : Nat} (hk : k < r + 1) : (∃ j, lv P r h i s = some j ∧ j ≤ k) ↔ (lv P k h i s).isSome = true := by
  constructor
  · rintro ⟨j, h1, h2⟩
    have := lv_up (lv_own h1) (k - j)
    rw [show j + (k - j) = k by omega] at this
    rw [this]
    rfl
  · intro e
    obtain ⟨j, hj⟩ := Option.isSome_iff_exists.mp e
    have := lv_up hj (r - k)
    rw [show k + (r - k) = r by omega] at this
    exact ⟨j, this, lv_le k h i s j hj⟩
theorem mv_keep {r h i s : Nat} (e : mv P r h i s ≠ 0) (d : Nat) : mv P (r + d) h i s = mv P r h i s := by
  induction d with
  | zero => rfl
  | succ d ih =>
    show (if mv P (r + d) h i s ≠ 0 then mv P (r + d) h i s else _) = _
    rw [if_pos (by rw [ih]; exact e), ih]
theorem mv_new {r h i s : Nat} (e : mv P r h i s = 0) (d : Nat) : mv P (r + d) h i s = 0 ∨ r < mv P (r + d) h i s := by
  induction d with
  | zero => exact Or.inl e
  | succ d ih =>
    show (if mv P (r + d) h i s ≠ 0 then mv P (r + d) h i s else if isM P (fun s => (lv P (r + d) h i s).isSome) h i s = true then r + d + 1 else 0) = 0 ∨ r < (if mv P (r + d) h i s ≠ 0 then mv P (r + d) h i s else if isM P (fun s => (lv P (r + d) h i s).isSome) h i s = true then r + d + 1 else 0)
    by_cases z : mv P (r + d) h i s ≠ 0
    · rw [if_pos z]
      exact ih
    · rw [if_neg z]
      split
      · right
        omega
      · exact Or.inl rfl
theorem mv_cut {R k h i s : Nat} (hk : k + 1 ≤ R) : (mv P R h i s ≠ 0 ∧ mv P R h i s ≤ k + 1) ↔ isM P (fun s => (lv P k h i s).isSome) h i s = true := by
  rw [← mv_iff]
  have ml := mv_le (P := P) (k + 1) h i s
  by_cases z : mv P (k + 1) h i s = 0
  · have := mv_new z (R - (k + 1))
    rw [show k + 1 + (R - (k + 1)) = R by omega] at this
    omega
  · have := mv_keep z (R - (k + 1))
    rw [show k + 1 + (R - (k + 1)) = R by omega] at this
    omega
/-- what the class keeps of the hidden game -/
def K31 (P : Pln) (ver : Nat) (hd : Option Nat) (I : Nat → Nat → Int32) : Prop := I 31 0 = mI 1 ∨ ∃ v, I 31 0 = nI v ∧ v ≤ ver ∧ (v = ver → hd = some 1 ∧ HidC P I)
def HCs (P : Pln) (ver : Nat) (hd : Option Nat) (I : Nat → Nat → Int32) (hd' : Option Nat) (I' : Nat → Nat → Int32) : Prop := (hd' = hd ∧ I' = I) ∨ (hd' = some 1 ∧ I' 31 0 = nI ver ∧ HidC P I' ∧ ∀ q, q < 31 ∨ 34 < q → I' q = I q)
def HRs (P : Pln) (J J' : Nat → Nat → Int32) : Prop := J' = J ∨ (J' 60 15 = nI 1 ∧ RPre P J' ∧ RLv P 12 J' ∧ (∀ j, j < 4096 → J' 73 j = nI 0) ∧ (∀ q, q ≠ 60 → q ≠ 70 → q ≠ 71 → q ≠ 72 → q ≠ 73 → J' q = J q) ∧ (∀ i, i ≠ 15 → J' 60 i = J 60 i))
def HO (P : Pln) (ver : Nat) (pl nm hd rd : Option Nat) (I J : Nat → Nat → Int32) (o8 : Option (Int32 × Mem)) (o9 : Mem → Option (Int32 × Mem)) : Prop := ∃ r, (∃ I' hd', o8 = some (r, (I', R0 pl nm hd' rd)) ∧ HCs P ver hd I hd' I') ∧ (∀ hd2, ∃ J', o9 (J, R0 pl nm hd2 rd) = some (r, (J', R0 pl nm hd2 rd)) ∧ HRs P J J')
theorem c_solvedHid (hF : 99999999 ≤ FU) (hC : PlC 1 P I) (hW : WfP P) (p6 : Pp P ≤ 6) (hv : I 1 12 = nI ver) (hver : ver < 2 ^ 30) (hK : K31 P ver hd I) : ∃ I', fX8_solvedHidden FU 0 (I, R0 pl nm hd rd) = some (some 31, (I', R0 pl nm (some 1) rd)) ∧ HidC P I' ∧ I' 31 0 = nI ver ∧ (∀ q, q < 31 ∨ 34 < q → I' q = I q) := by
  by_cases y : I 31 0 = nI ver
  · have hl : hd = some 1 ∧ HidC P I := by
      rcases hK with e | ⟨v, e1, e2, e3⟩
      · rw [e] at y
        have : (mI 1 = nI ver) = _ := w_meq (by omega) (by omega)
        rw [this] at y
        omega
      · rw [e1] at y
        exact e3 ((nI_eq (by omega) (by omega)).mp y)
    obtain ⟨h1, h2⟩ := hl
    subst h1
    refine ⟨I, ?_, h2, y, fun _ _ => rfl⟩
    unfold fX8_solvedHidden
    rw [fRb_0_4, fIb_31, fRb_0_0, fIb_1, hv, if_pos y, fRb_0_4]
  · obtain ⟨I', a1, a2, a3, a4⟩ := c_hidSolve (FU := FU) (pl := pl) (nm := nm) (hd := hd) (rd := rd) hF hC hW p6
    refine ⟨I', ?_, a2, by rw [a3, hv], a4⟩
    unfold fX8_solvedHidden
    rw [fRb_0_4, fIb_31, fRb_0_0, fIb_1, hv, if_neg y, fRb_0_4, fRb_0_0, show rc 1 (some 31) = some 31 from rfl, w_bind, dn1 a1, fRb_0_4]
/-- refused alike, or not -/
theorem hidCase (hF : 99999999 ≤ FU) (hC : PlC 1 P I) (hR : PlR P J) (hW : WfP P) (x1 x2 x3 : Int32) : (∃ v : Int32, v ≠ 0 ∧ fX8_hiddenRefusal FU 0 x1 x2 x3 (I, R0 pl nm hd rd) = some (v, (I, R0 pl nm hd rd)) ∧ ∀ hd2, fX9_lacksHidden FU 60 x1 x2 x3 (J, R0 pl nm hd2 rd) = some (v, (J, R0 pl nm hd2 rd))) ∨ (∃ h i s, h < Pp P ∧ i < Pp P ∧ s < 2 ^ Pp P ∧ x1 = nI h ∧ secI P x1 x2 = nI i ∧ x3 = nI s ∧ Pp P ≤ 6 ∧ fX8_hiddenRefusal FU 0 x1 x2 x3 (I, R0 pl nm hd rd) = some (nI 0, (I, R0 pl nm hd rd)) ∧ ∀ hd2, fX9_lacksHidden FU 60 x1 x2 x3 (J, R0 pl nm hd2 rd) = some (nI 0, (J, R0 pl nm hd2 rd))) := by
  have hc : (1 : Nat) = 1 ∨ (1 : Nat) = 9 := Or.inl rfl
  have hp := wf_p hW
  have hp2 := wf_h hW
  have h2 := wf_sh hW
  have R2 := hR.2.2.1
  have R0' := hR.1
  have p1 : 1 ≤ 2 ^ Pp P := Nat.one_le_two_pow
  have p8 : 2 ^ Pp P ≤ 256 := Nat.pow_le_pow_right (n := 2) (j := 8) (by decide) hp.2
  have dp := c_pairOf (FU := FU) (pl := pl) (nm := nm) (hd := hd) (rd := rd) hc hC hW x1 x2
  have da := c_allPlaces (FU := FU) (pl := pl) (nm := nm) (hd := hd) (rd := rd) hc hC hW
  have dS := fun hd2 => r_shutters (FU := FU) (pl := pl) (nm := nm) (hd := hd2) (rd := rd) hF hR hW
  have v9 : ∀ hd2, fX9_lacksHidden FU 60 x1 x2 x3 (J, R0 pl nm hd2 rd) = fX9_lacksHidden_b13 FU 60 x1 x3 (secI P x1 x2) (J, R0 pl nm hd2 rd) := by
    intro hd2
    unfold fX9_lacksHidden secI
    rcases hp2 with z | z
    · rw [fIb_60, R2, z, if_neg (by decide), if_pos rfl]
    · rw [fIb_60, R2, z, if_pos (by decide), if_neg (by decide)]
  rcases c_pair13 (FU := FU) (pl := pl) (nm := nm) (hd := hd) (rd := rd) hc hC hW x1 (secI P x1 x2) with e | ⟨h, i, hh, hi, ex, ey, e⟩
  · left
    refine ⟨-2, by decide, ?_, fun hd2 => ?_⟩
    · unfold fX8_hiddenRefusal
      rw [fRb_0_0, show rc 3 (some 1) = some 1 from rfl, w_bind, dn (dp.trans e), if_pos (by decide)]
    · rw [v9]
      unfold fX9_lacksHidden_b13
      rcases r_place (FU := FU) (pl := pl) (nm := nm) (hd := hd2) (rd := rd) hR hW x1 with ⟨d1, _⟩ | ⟨a, ha, ea, d1⟩
      · rw [show rc 9 (some 60) = some 60 from rfl, w_bind, dn d1, if_pos (by decide)]
      · rcases r_place (FU := FU) (pl := pl) (nm := nm) (hd := hd2) (rd := rd) hR hW (secI P x1 x2) with ⟨d2, _⟩ | ⟨b, hb, eb, d2⟩
        · rw [show rc 9 (some 60) = some 60 from rfl, w_bind, dn d1, if_neg (by decide), w_bind, dn d2, if_pos (by decide)]
        · exfalso
          rw [eb, ea] at e
          have dh1 := c_has (FU := FU) (pl := pl) (nm := nm) (hd := hd) (rd := rd) hc hC hW (x := a) (by omega)
          have dh2 := c_has (FU := FU) (pl := pl) (nm := nm) (hd := hd) (rd := rd) hc hC hW (x := b) (by omega)
          have es := c_sortedPair (FU := FU) (pl := pl) (nm := nm) (hd := hd) (rd := rd) (I := I) (x := a) (y := b) (by omega) (by omega)
          have sl := srt_lt ha hb
          unfold fX3_pairOf_b13 at e
          simp (discharger := omega) only [li_0, li_1, li_2, li_3, li_4, li_5, li_6, li_7, li_8, li_9, li_10, li_11, li_12, li_13, li_14, li_15, li_16, li_17, li_18, li_19, li_20, li_21, li_22, li_23, li_24, li_25, li_26, li_27, li_28, li_29, li_30, li_31, li_32, li_33, li_34, li_35, li_36, li_37, li_38, li_39, li_40, li_41, li_42, li_43, li_44, li_45, li_46, li_47, li_48, li_49, li_50, li_51, li_52, li_53, li_54, li_55, li_56, li_57, li_58, li_59, li_60, li_61, li_62, li_63, li_64, li_65, li_66, li_67, li_68, li_69, li_70, li_71, li_72, li_73, li_74, li_75, li_76, li_77, li_78, li_79, li_80, li_81, li_82, li_83, li_84, li_85, li_86, li_87, li_88, li_89, li_90, li_91, li_92, li_93, li_94, li_95, li_96, li_97, li_98, li_99, li_100, li_101, li_102, li_103, li_104, li_105, li_106, li_107, li_108, li_109, li_110, li_111, li_112, li_113, li_114, li_115, li_116, li_117, li_118, li_119, li_120, li_121, li_122, li_123, li_124, li_125, li_126, li_127, li_128, li_144, li_150, li_200, li_255, li_384, li_512, li_999, li_1000, li_1024, li_1152, li_1920, li_3776, li_4096, li_9216, li_10000, li_100000, li_1073741824, li_m, ↓rcb_P hc, ↓fIb_P hc, ↓pIb_P hc, ↓fRb_P1 hc, ↓aIb_P1 hc, ↓sIb_P1 hc, ↓fRb_P2 hc, ↓aIb_P2 hc, ↓sIb_P2 hc, ↓fRb_P3 hc, ↓aIb_P3 hc, ↓sIb_P3 hc, ↓fRb_P4 hc, ↓aIb_P4 hc, ↓sIb_P4 hc, ↓fRb_P5 hc, ↓aIb_P5 hc, ↓sIb_P5 hc, ↓fRb_P6 hc, ↓aIb_P6 hc, ↓sIb_P6 hc, ↓fRb_P7 hc, ↓aIb_P7 hc, ↓sIb_P7 hc, rc_P hc, fI_P hc, fR_P hc, pI_P hc, r0_P1 hc, aI_P1 hc, sI_P1 hc, r0_P2 hc, aI_P2 hc, sI_P2 hc, r0_P3 hc, aI_P3 hc, sI_P3 hc, r0_P4 hc, aI_P4 hc, sI_P4 hc, r0_P5 hc, aI_P5 hc, sI_P5 hc, r0_P6 hc, aI_P6 hc, sI_P6 hc, r0_P7 hc, aI_P7 hc, sI_P7 hc, ↓dn dh1, ↓dn dh2, ↓dn es, w_bind, w_bd2, b01_eq0, b01_ok, b01_ok2, w_lt, w_le, w_eq, w_mlt, w_mle, w_ltm, w_lem, w_meq, w_eqm, w_mm, w_mmlt, w_mmle, nI_add, w_sub, pk_mul, w_div, w_rem, w_and, w_or, w_shr, w_shl1, w_a31, w_andn, ↓reduceIte, Nat.reduceAdd, Nat.reduceEqDiff, Nat.zero_lt_one, Nat.not_lt_zero, Nat.one_ne_zero, Nat.zero_ne_one, not_true_eq_false, not_false_eq_true, Bool.false_eq_true, Bool.true_eq_false, n_leT, n_leF, n_ltT, n_ltF, n_eqT, n_eqF, and_true, true_and, and_false, false_and, or_true, true_or, or_false, false_or, not_true_eq_false, not_false_eq_true] at e
          have e := (Prod.mk.inj (Option.some.inj e)).1
          have : (nI ((srt a b).1 * 8 + (srt a b).2) = mI 1) = _ := w_eqm (by omega) (by omega)
          rw [this] at e
          omega
  · have sl := srt_lt hh hi
    have f0 : ¬ nI ((srt h i).1 * 8 + (srt h i).2) < 0 := by rw [li_0, w_lt (by omega) (by omega)]; omega
    have d1 := fun hd2 => r_isPlace (FU := FU) (pl := pl) (nm := nm) (hd := hd2) (rd := rd) hR hW (x := h) (by omega)
    have d2 := fun hd2 => r_isPlace (FU := FU) (pl := pl) (nm := nm) (hd := hd2) (rd := rd) hR hW (x := i) (by omega)
    have mx : (1 : Int32) <<< (nI (Pp P) &&& 31) - (1 : Int32) = nI (2 ^ Pp P - 1) := by simp (discharger := omega) only [li_0, li_1, li_2, li_3, li_4, li_5, li_6, li_7, li_8, li_9, li_10, li_11, li_12, li_13, li_14, li_15, li_16, li_17, li_18, li_19, li_20, li_21, li_22, li_23, li_24, li_25, li_26, li_27, li_28, li_29, li_30, li_31, li_32, li_33, li_34, li_35, li_36, li_37, li_38, li_39, li_40, li_41, li_42, li_43, li_44, li_45, li_46, li_47, li_48, li_49, li_50, li_51, li_52, li_53, li_54, li_55, li_56, li_57, li_58, li_59, li_60, li_61, li_62, li_63, li_64, li_65, li_66, li_67, li_68, li_69, li_70, li_71, li_72, li_73, li_74, li_75, li_76, li_77, li_78, li_79, li_80, li_81, li_82, li_83, li_84, li_85, li_86, li_87, li_88, li_89, li_90, li_91, li_92, li_93, li_94, li_95, li_96, li_97, li_98, li_99, li_100, li_101, li_102, li_103, li_104, li_105, li_106, li_107, li_108, li_109, li_110, li_111, li_112, li_113, li_114, li_115, li_116, li_117, li_118, li_119, li_120, li_121, li_122, li_123, li_124, li_125, li_126, li_127, li_128, li_144, li_150, li_200, li_255, li_384, li_512, li_999, li_1000, li_1024, li_1152, li_1920, li_3776, li_4096, li_9216, li_10000, li_100000, li_1073741824, li_m, w_lt, w_le, w_eq, w_mlt, w_mle, w_ltm, w_lem, w_meq, w_eqm, w_mm, w_mmlt, w_mmle, nI_add, w_sub, pk_mul, w_div, w_rem, w_and, w_or, w_shr, w_shl1, w_a31, w_andn]
    have n9 : ∀ hd2, fX9_lacksHidden FU 60 x1 x2 x3 (J, R0 pl nm hd2 rd) = bd2 (fX9_in FU 60 x3 (0 : Int32) (nI (2 ^ Pp P - 1)) (J, R0 pl nm hd2 rd)) fun r43 M43 => if ¬ r43 = 0 then ((rc 9 (some 60)).bind fun b53 => bd2 (fX9_shutters FU b53 M43) fun r53 M53 => if 0 < r53 then (fX9_lacksHidden_b68 FU M53) else ((fI 9 M53 (some 60) 0).bind fun a60 => if a60 ≤ (6 : Int32) then (some ((0 : Int32), M53)) else (fX9_lacksHidden_b68 FU M53))) else (some ((-2 : Int32), M43)) := by
      intro hd2
      have d1' := d1 hd2
      have d2' := d2 hd2
      rw [b01_pos hh] at d1'
      rw [b01_pos hi] at d2'
      rw [v9, ey, ex]
      unfold fX9_lacksHidden_b13
      rw [show rc 9 (some 60) = some 60 from rfl, w_bind, dn d1', if_neg (by decide), w_bind, dn d2', if_neg (by decide), fIb_60, R0', mx, w_bind]
    have n8 : fX8_hiddenRefusal FU 0 x1 x2 x3 (I, R0 pl nm hd rd) = if x3 < 0 then (some ((-2 : Int32), (I, R0 pl nm hd rd))) else (if x3 ≤ nI (2 ^ Pp P - 1) then (if 0 < nI (shN P (Pn P)) then (fX8_hiddenRefusal_b52 FU (I, R0 pl nm hd rd)) else (if nI (Pp P) ≤ (6 : Int32) then (some ((0 : Int32), (I, R0 pl nm hd rd))) else (fX8_hiddenRefusal_b52 FU (I, R0 pl nm hd rd)))) else (some ((-2 : Int32), (I, R0 pl nm hd rd)))) := by
      unfold fX8_hiddenRefusal
      rw [fRb_0_0, show rc 3 (some 1) = some 1 from rfl, w_bind, dn (dp.trans e), if_neg f0, fRb_0_0, show rc 3 (some 1) = some 1 from rfl, w_bind, dn da, fRb_0_0, fIb_1, hC.2.2.1, fRb_0_0, fIb_1, hC.1]
    have bad : fX8_hiddenRefusal FU 0 x1 x2 x3 (I, R0 pl nm hd rd) = some (-2, (I, R0 pl nm hd rd)) → (∀ hd2, fX9_in FU 60 x3 (0 : Int32) (nI (2 ^ Pp P - 1)) (J, R0 pl nm hd2 rd) = some (nI 0, (J, R0 pl nm hd2 rd))) → ∃ v : Int32, v ≠ 0 ∧ fX8_hiddenRefusal FU 0 x1 x2 x3 (I, R0 pl nm hd rd) = some (v, (I, R0 pl nm hd rd)) ∧ ∀ hd2, fX9_lacksHidden FU 60 x1 x2 x3 (J, R0 pl nm hd2 rd) = some (v, (J, R0 pl nm hd2 rd)) := by
      intro q1 q2
      refine ⟨-2, by decide, q1, fun hd2 => ?_⟩
      rw [n9, dn (q2 hd2), if_neg (fun h => h rfl)]
    rcases i32c x3 with ⟨s, hs', rfl⟩ | ⟨s, hs0, hs', rfl⟩
    · have g0 : ¬ nI s < 0 := by rw [li_0, w_lt (by omega) (by omega)]; omega
      by_cases hs : s < 2 ^ Pp P
      · have g1 : nI s ≤ nI (2 ^ Pp P - 1) := by rw [w_le (by omega) (by omega)]; omega
        have q2 : ∀ hd2, fX9_in FU 60 (nI s) (0 : Int32) (nI (2 ^ Pp P - 1)) (J, R0 pl nm hd2 rd) = some (nI 1, (J, R0 pl nm hd2 rd)) := by
          intro hd2
          unfold fX9_in
          simp (discharger := omega) only [li_0, li_1, li_2, li_3, li_4, li_5, li_6, li_7, li_8, li_9, li_10, li_11, li_12, li_13, li_14, li_15, li_16, li_17, li_18, li_19, li_20, li_21, li_22, li_23, li_24, li_25, li_26, li_27, li_28, li_29, li_30, li_31, li_32, li_33, li_34, li_35, li_36, li_37, li_38, li_39, li_40, li_41, li_42, li_43, li_44, li_45, li_46, li_47, li_48, li_49, li_50, li_51, li_52, li_53, li_54, li_55, li_56, li_57, li_58, li_59, li_60, li_61, li_62, li_63, li_64, li_65, li_66, li_67, li_68, li_69, li_70, li_71, li_72, li_73, li_74, li_75, li_76, li_77, li_78, li_79, li_80, li_81, li_82, li_83, li_84, li_85, li_86, li_87, li_88, li_89, li_90, li_91, li_92, li_93, li_94, li_95, li_96, li_97, li_98, li_99, li_100, li_101, li_102, li_103, li_104, li_105, li_106, li_107, li_108, li_109, li_110, li_111, li_112, li_113, li_114, li_115, li_116, li_117, li_118, li_119, li_120, li_121, li_122, li_123, li_124, li_125, li_126, li_127, li_128, li_144, li_150, li_200, li_255, li_384, li_512, li_999, li_1000, li_1024, li_1152, li_1920, li_3776, li_4096, li_9216, li_10000, li_100000, li_1073741824, li_m, w_lt, w_le, w_eq, w_mlt, w_mle, w_ltm, w_lem, w_meq, w_eqm, w_mm, w_mmlt, w_mmle, nI_add, w_sub, pk_mul, w_div, w_rem, w_and, w_or, w_shr, w_shl1, w_a31, w_andn, ↓reduceIte, Nat.reduceAdd, Nat.reduceEqDiff, Nat.zero_lt_one, Nat.not_lt_zero, Nat.one_ne_zero, Nat.zero_ne_one, not_true_eq_false, not_false_eq_true, Bool.false_eq_true, Bool.true_eq_false, n_leT, n_leF, n_ltT, n_ltF, n_eqT, n_eqF, and_true, true_and, and_false, false_and, or_true, true_or, or_false, false_or, not_true_eq_false, not_false_eq_true]
        by_cases z : 0 < shN P (Pn P)
        · left
          refine ⟨-3, by decide, ?_, fun hd2 => ?_⟩
          · rw [n8, if_neg g0, if_pos g1, if_pos (by rw [li_0, w_lt (by omega) (by omega)]; exact z)]
            rfl
          · rw [n9, dn (q2 hd2), if_pos (by decide), show rc 9 (some 60) = some 60 from rfl, w_bind, dn (dS hd2), if_pos (by rw [li_0, w_lt (by omega) (by omega)]; exact z)]
            rfl
        · have z2 : ¬ (0 : Int32) < nI (shN P (Pn P)) := by rw [li_0, w_lt (by omega) (by omega)]; exact z
          by_cases p6 : Pp P ≤ 6
          · right
            have g6 : nI (Pp P) ≤ (6 : Int32) := by rw [li_6, w_le (by omega) (by omega)]; exact p6
            refine ⟨h, i, s, hh, hi, hs, ex, ey, rfl, p6, ?_, fun hd2 => ?_⟩
            · rw [n8, if_neg g0, if_pos g1, if_neg z2, if_pos g6]
              rfl
            · rw [n9, dn (q2 hd2), if_pos (by decide), show rc 9 (some 60) = some 60 from rfl, w_bind, dn (dS hd2), if_neg z2, fIb_60, R0', if_pos g6]
              rfl
          · left
            have g6 : ¬ nI (Pp P) ≤ (6 : Int32) := by rw [li_6, w_le (by omega) (by omega)]; exact p6
            refine ⟨-3, by decide, ?_, fun hd2 => ?_⟩
            · rw [n8, if_neg g0, if_pos g1, if_neg z2, if_neg g6]
              rfl
            · rw [n9, dn (q2 hd2), if_pos (by decide), show rc 9 (some 60) = some 60 from rfl, w_bind, dn (dS hd2), if_neg z2, fIb_60, R0', if_neg g6]
              rfl
      · left
        apply bad
        · rw [n8, if_neg g0, if_neg (by rw [w_le (by omega) (by omega)]; omega)]
        · intro hd2
          unfold fX9_in
          simp (discharger := omega) only [li_0, li_1, li_2, li_3, li_4, li_5, li_6, li_7, li_8, li_9, li_10, li_11, li_12, li_13, li_14, li_15, li_16, li_17, li_18, li_19, li_20, li_21, li_22, li_23, li_24, li_25, li_26, li_27, li_28, li_29, li_30, li_31, li_32, li_33, li_34, li_35, li_36, li_37, li_38, li_39, li_40, li_41, li_42, li_43, li_44, li_45, li_46, li_47, li_48, li_49, li_50, li_51, li_52, li_53, li_54, li_55, li_56, li_57, li_58, li_59, li_60, li_61, li_62, li_63, li_64, li_65, li_66, li_67, li_68, li_69, li_70, li_71, li_72, li_73, li_74, li_75, li_76, li_77, li_78, li_79, li_80, li_81, li_82, li_83, li_84, li_85, li_86, li_87, li_88, li_89, li_90, li_91, li_92, li_93, li_94, li_95, li_96, li_97, li_98, li_99, li_100, li_101, li_102, li_103, li_104, li_105, li_106, li_107, li_108, li_109, li_110, li_111, li_112, li_113, li_114, li_115, li_116, li_117, li_118, li_119, li_120, li_121, li_122, li_123, li_124, li_125, li_126, li_127, li_128, li_144, li_150, li_200, li_255, li_384, li_512, li_999, li_1000, li_1024, li_1152, li_1920, li_3776, li_4096, li_9216, li_10000, li_100000, li_1073741824, li_m, w_lt, w_le, w_eq, w_mlt, w_mle, w_ltm, w_lem, w_meq, w_eqm, w_mm, w_mmlt, w_mmle, nI_add, w_sub, pk_mul, w_div, w_rem, w_and, w_or, w_shr, w_shl1, w_a31, w_andn, ↓reduceIte, Nat.reduceAdd, Nat.reduceEqDiff, Nat.zero_lt_one, Nat.not_lt_zero, Nat.one_ne_zero, Nat.zero_ne_one, not_true_eq_false, not_false_eq_true, Bool.false_eq_true, Bool.true_eq_false, n_leT, n_leF, n_ltT, n_ltF, n_eqT, n_eqF, and_true, true_and, and_false, false_and, or_true, true_or, or_false, false_or, not_true_eq_false, not_false_eq_true]
    · left
      apply bad
      · rw [n8, if_pos (by simp (discharger := omega) only [li_0, li_1, li_2, li_3, li_4, li_5, li_6, li_7, li_8, li_9, li_10, li_11, li_12, li_13, li_14, li_15, li_16, li_17, li_18, li_19, li_20, li_21, li_22, li_23, li_24, li_25, li_26, li_27, li_28, li_29, li_30, li_31, li_32, li_33, li_34, li_35, li_36, li_37, li_38, li_39, li_40, li_41, li_42, li_43, li_44, li_45, li_46, li_47, li_48, li_49, li_50, li_51, li_52, li_53, li_54, li_55, li_56, li_57, li_58, li_59, li_60, li_61, li_62, li_63, li_64, li_65, li_66, li_67, li_68, li_69, li_70, li_71, li_72, li_73, li_74, li_75, li_76, li_77, li_78, li_79, li_80, li_81, li_82, li_83, li_84, li_85, li_86, li_87, li_88, li_89, li_90, li_91, li_92, li_93, li_94, li_95, li_96, li_97, li_98, li_99, li_100, li_101, li_102, li_103, li_104, li_105, li_106, li_107, li_108, li_109, li_110, li_111, li_112, li_113, li_114, li_115, li_116, li_117, li_118, li_119, li_120, li_121, li_122, li_123, li_124, li_125, li_126, li_127, li_128, li_144, li_150, li_200, li_255, li_384, li_512, li_999, li_1000, li_1024, li_1152, li_1920, li_3776, li_4096, li_9216, li_10000, li_100000, li_1073741824, li_m, w_lt, w_le, w_eq, w_mlt, w_mle, w_ltm, w_lem, w_meq, w_eqm, w_mm, w_mmlt, w_mmle, nI_add, w_sub, pk_mul, w_div, w_rem, w_and, w_or, w_shr, w_shl1, w_a31, w_andn, ↓reduceIte, Nat.reduceAdd, Nat.reduceEqDiff, Nat.zero_lt_one, Nat.not_lt_zero, Nat.one_ne_zero, Nat.zero_ne_one, not_true_eq_false, not_false_eq_true, Bool.false_eq_true, Bool.true_eq_false, n_leT, n_leF, n_ltT, n_ltF, n_eqT, n_eqF, and_true, true_and, and_false, false_and, or_true, true_or, or_false, false_or, not_true_eq_false, not_false_eq_true])]
      · intro hd2
        unfold fX9_in
        simp (discharger := omega) only [li_0, li_1, li_2, li_3, li_4, li_5, li_6, li_7, li_8, li_9, li_10, li_11, li_12, li_13, li_14, li_15, li_16, li_17, li_18, li_19, li_20, li_21, li_22, li_23, li_24, li_25, li_26, li_27, li_28, li_29, li_30, li_31, li_32, li_33, li_34, li_35, li_36, li_37, li_38, li_39, li_40, li_41, li_42, li_43, li_44, li_45, li_46, li_47, li_48, li_49, li_50, li_51, li_52, li_53, li_54, li_55, li_56, li_57, li_58, li_59, li_60, li_61, li_62, li_63, li_64, li_65, li_66, li_67, li_68, li_69, li_70, li_71, li_72, li_73, li_74, li_75, li_76, li_77, li_78, li_79, li_80, li_81, li_82, li_83, li_84, li_85, li_86, li_87, li_88, li_89, li_90, li_91, li_92, li_93, li_94, li_95, li_96, li_97, li_98, li_99, li_100, li_101, li_102, li_103, li_104, li_105, li_106, li_107, li_108, li_109, li_110, li_111, li_112, li_113, li_114, li_115, li_116, li_117, li_118, li_119, li_120, li_121, li_122, li_123, li_124, li_125, li_126, li_127, li_128, li_144, li_150, li_200, li_255, li_384, li_512, li_999, li_1000, li_1024, li_1152, li_1920, li_3776, li_4096, li_9216, li_10000, li_100000, li_1073741824, li_m, w_lt, w_le, w_eq, w_mlt, w_mle, w_ltm, w_lem, w_meq, w_eqm, w_mm, w_mmlt, w_mmle, nI_add, w_sub, pk_mul, w_div, w_rem, w_and, w_or, w_shr, w_shl1, w_a31, w_andn, ↓reduceIte, Nat.reduceAdd, Nat.reduceEqDiff, Nat.zero_lt_one, Nat.not_lt_zero, Nat.one_ne_zero, Nat.zero_ne_one, not_true_eq_false, not_false_eq_true, Bool.false_eq_true, Bool.true_eq_false, n_leT, n_leF, n_ltT, n_ltF, n_eqT, n_eqF, and_true, true_and, and_false, false_and, or_true, true_or, or_false, false_or, not_true_eq_false, not_false_eq_true]
/-- the place in the rows, and the pair, both -/
theorem c_pairS (hC : PlC 1 P I) (hW : WfP P) {x1 x2 : Int32} {h i : Nat} (hh : h < Pp P) (hi : i < Pp P) (ex : x1 = nI h) (ey : secI P x1 x2 = nI i) : fX3_pairOf FU 1 x1 x2 (I, R0 pl nm hd rd) = some (nI ((srt h i).1 * 8 + (srt h i).2), (I, R0 pl nm hd rd)) := by
  have hc : (1 : Nat) = 1 ∨ (1 : Nat) = 9 := Or.inl rfl
  have hp := wf_p hW
  rw [c_pairOf (FU := FU) (pl := pl) (nm := nm) (hd := hd) (rd := rd) hc hC hW x1 x2, ey, ex]
  have dh1 := c_has (FU := FU) (pl := pl) (nm := nm) (hd := hd) (rd := rd) hc hC hW (x := h) (by omega)
  have dh2 := c_has (FU := FU) (pl := pl) (nm := nm) (hd := hd) (rd := rd) hc hC hW (x := i) (by omega)
  have es := c_sortedPair (FU := FU) (pl := pl) (nm := nm) (hd := hd) (rd := rd) (I := I) (x := h) (y := i) (by omega) (by omega)
  unfold fX3_pairOf_b13
  simp (discharger := omega) only [li_0, li_1, li_2, li_3, li_4, li_5, li_6, li_7, li_8, li_9, li_10, li_11, li_12, li_13, li_14, li_15, li_16, li_17, li_18, li_19, li_20, li_21, li_22, li_23, li_24, li_25, li_26, li_27, li_28, li_29, li_30, li_31, li_32, li_33, li_34, li_35, li_36, li_37, li_38, li_39, li_40, li_41, li_42, li_43, li_44, li_45, li_46, li_47, li_48, li_49, li_50, li_51, li_52, li_53, li_54, li_55, li_56, li_57, li_58, li_59, li_60, li_61, li_62, li_63, li_64, li_65, li_66, li_67, li_68, li_69, li_70, li_71, li_72, li_73, li_74, li_75, li_76, li_77, li_78, li_79, li_80, li_81, li_82, li_83, li_84, li_85, li_86, li_87, li_88, li_89, li_90, li_91, li_92, li_93, li_94, li_95, li_96, li_97, li_98, li_99, li_100, li_101, li_102, li_103, li_104, li_105, li_106, li_107, li_108, li_109, li_110, li_111, li_112, li_113, li_114, li_115, li_116, li_117, li_118, li_119, li_120, li_121, li_122, li_123, li_124, li_125, li_126, li_127, li_128, li_144, li_150, li_200, li_255, li_384, li_512, li_999, li_1000, li_1024, li_1152, li_1920, li_3776, li_4096, li_9216, li_10000, li_100000, li_1073741824, li_m, ↓rcb_P hc, ↓fIb_P hc, ↓pIb_P hc, ↓fRb_P1 hc, ↓aIb_P1 hc, ↓sIb_P1 hc, ↓fRb_P2 hc, ↓aIb_P2 hc, ↓sIb_P2 hc, ↓fRb_P3 hc, ↓aIb_P3 hc, ↓sIb_P3 hc, ↓fRb_P4 hc, ↓aIb_P4 hc, ↓sIb_P4 hc, ↓fRb_P5 hc, ↓aIb_P5 hc, ↓sIb_P5 hc, ↓fRb_P6 hc, ↓aIb_P6 hc, ↓sIb_P6 hc, ↓fRb_P7 hc, ↓aIb_P7 hc, ↓sIb_P7 hc, rc_P hc, fI_P hc, fR_P hc, pI_P hc, r0_P1 hc, aI_P1 hc, sI_P1 hc, r0_P2 hc, aI_P2 hc, sI_P2 hc, r0_P3 hc, aI_P3 hc, sI_P3 hc, r0_P4 hc, aI_P4 hc, sI_P4 hc, r0_P5 hc, aI_P5 hc, sI_P5 hc, r0_P6 hc, aI_P6 hc, sI_P6 hc, r0_P7 hc, aI_P7 hc, sI_P7 hc, ↓dn dh1, ↓dn dh2, ↓dn es, w_bind, w_bd2, b01_eq0, b01_ok, b01_ok2, w_lt, w_le, w_eq, w_mlt, w_mle, w_ltm, w_lem, w_meq, w_eqm, w_mm, w_mmlt, w_mmle, nI_add, w_sub, pk_mul, w_div, w_rem, w_and, w_or, w_shr, w_shl1, w_a31, w_andn, ↓reduceIte, Nat.reduceAdd, Nat.reduceEqDiff, Nat.zero_lt_one, Nat.not_lt_zero, Nat.one_ne_zero, Nat.zero_ne_one, not_true_eq_false, not_false_eq_true, Bool.false_eq_true, Bool.true_eq_false, n_leT, n_leF, n_ltT, n_ltF, n_eqT, n_eqF, and_true, true_and, and_false, false_and, or_true, true_or, or_false, false_or, not_true_eq_false, not_false_eq_true]
theorem rI_oI {o : Option Nat} (h : ∀ j, o = some j → j ≤ 12) : (if ¬ rI o = (99 : Int32) then rI o else (-1 : Int32)) = oI o := by
  cases o with
  | none => rfl
  | some j =>
    have := h j rfl
    show (if ¬ nI j = (99 : Int32) then nI j else (-1 : Int32)) = nI j
    rw [if_pos (by rw [li_99, w_eq (by omega) (by omega)]; omega)]
theorem r_least (hF : 99999999 ≤ FU) (hR : PlR P J) (hW : WfP P) (p6 : Pp P ≤ 6) (hK : K15 P J) (hZ : ∀ j, j < 4096 → J 73 j = nI 0) {x1 x2 : Int32} {h i s : Nat} (hh : h < Pp P) (hi : i < Pp P) (hs : s < 2 ^ Pp P) (ex : x1 = nI h) (ey : secI P x1 x2 = nI i) : ∃ J', fX9_leastRounds FU 60 x1 x2 (nI s) (J, R0 pl nm hd rd) = some (oI (lv P 12 (srt h i).1 (srt h i).2 s), (J', R0 pl nm hd rd)) ∧ J' 60 15 = nI 1 ∧ RPre P J' ∧ RLv P 12 J' ∧ (∀ j, j < 4096 → J' 73 j = nI 0) ∧ (∀ q, q ≠ 60 → q ≠ 70 → q ≠ 71 → q ≠ 72 → q ≠ 73 → J' q = J q) ∧ (∀ i, i ≠ 15 → J' 60 i = J 60 i) := by
  have hp := wf_p hW
  have hp2 := wf_h hW
  have p64 : 2 ^ Pp P ≤ 64 := Nat.pow_le_pow_right (n := 2) (by decide) p6
  obtain ⟨J', a1, a2, a3, a4, a5, a6, a7⟩ := r_rounds (FU := FU) (pl := pl) (nm := nm) (hd := hd) (rd := rd) hF hR hW p6 hK hZ
  refine ⟨J', ?_, a2, a3, a4, a5, a6, a7⟩
  have hpr : isPr P (srt h i).1 (srt h i).2 = true := srt_pr hh hi (fun z => sec_1 (x2 := x2) (by omega) (by omega) (by rw [← ex]; exact ey) z)
  have r2 : J' 60 2 = nI (Ph P) := by rw [a7 2 (by decide), hR.2.2.1]
  have e17 : fX9_leastRounds FU 60 x1 x2 (nI s) (J, R0 pl nm hd rd) = fX9_leastRounds_b17 FU 60 x1 (nI s) (secI P x1 x2) (J', R0 pl nm hd rd) := by
    unfold fX9_leastRounds secI
    rcases hp2 with z | z
    · rw [show rc 9 (some 60) = some 60 from rfl, w_bind, dn1 a1, fIb_60, r2, z, if_neg (by decide), if_pos rfl]
    · rw [show rc 9 (some 60) = some 60 from rfl, w_bind, dn1 a1, fIb_60, r2, z, if_pos (by decide), if_neg (by decide)]
  have sl := srt_lt hh hi
  have val := a4 (srt h i).1 (srt h i).2 s hpr hs
  have fin : fX9_leastRounds_b48 FU (some 70) (nI ((8 * (srt h i).1 + (srt h i).2) * 64 + s)) (J', R0 pl nm hd rd) = some (oI (lv P 12 (srt h i).1 (srt h i).2 s), (J', R0 pl nm hd rd)) := by
    unfold fX9_leastRounds_b48
    rw [aIb_70 (by omega), val, ← rI_oI (fun j hj => lv_le 12 _ _ s j hj)]
    split
    · rfl
    · rfl
  rw [e17, ey, ex]
  unfold fX9_leastRounds_b17 fX9_hidden
  rw [fRb_60_14, show rc 9 (some 60) = some 60 from rfl, w_bind, w_bind, w_bd2, w_bd2]
  unfold srt at fin ⊢
  by_cases z : h < i
  · rw [if_pos z] at fin ⊢
    have e1 : ((8 : Int32) * nI h + nI i) * (64 : Int32) + nI s = nI ((8 * h + i) * 64 + s) := by simp (discharger := omega) only [li_0, li_1, li_2, li_3, li_4, li_5, li_6, li_7, li_8, li_9, li_10, li_11, li_12, li_13, li_14, li_15, li_16, li_17, li_18, li_19, li_20, li_21, li_22, li_23, li_24, li_25, li_26, li_27, li_28, li_29, li_30, li_31, li_32, li_33, li_34, li_35, li_36, li_37, li_38, li_39, li_40, li_41, li_42, li_43, li_44, li_45, li_46, li_47, li_48, li_49, li_50, li_51, li_52, li_53, li_54, li_55, li_56, li_57, li_58, li_59, li_60, li_61, li_62, li_63, li_64, li_65, li_66, li_67, li_68, li_69, li_70, li_71, li_72, li_73, li_74, li_75, li_76, li_77, li_78, li_79, li_80, li_81, li_82, li_83, li_84, li_85, li_86, li_87, li_88, li_89, li_90, li_91, li_92, li_93, li_94, li_95, li_96, li_97, li_98, li_99, li_100, li_101, li_102, li_103, li_104, li_105, li_106, li_107, li_108, li_109, li_110, li_111, li_112, li_113, li_114, li_115, li_116, li_117, li_118, li_119, li_120, li_121, li_122, li_123, li_124, li_125, li_126, li_127, li_128, li_144, li_150, li_200, li_255, li_384, li_512, li_999, li_1000, li_1024, li_1152, li_1920, li_3776, li_4096, li_9216, li_10000, li_100000, li_1073741824, li_m, w_lt, w_le, w_eq, w_mlt, w_mle, w_ltm, w_lem, w_meq, w_eqm, w_mm, w_mmlt, w_mmle, nI_add, w_sub, pk_mul, w_div, w_rem, w_and, w_or, w_shr, w_shl1, w_a31, w_andn]
    rw [if_neg (by rw [w_le (by omega) (by omega)]; omega), e1]
    exact fin
  · rw [if_neg z] at fin ⊢
    have e1 : ((8 : Int32) * nI i + nI h) * (64 : Int32) + nI s = nI ((8 * i + h) * 64 + s) := by simp (discharger := omega) only [li_0, li_1, li_2, li_3, li_4, li_5, li_6, li_7, li_8, li_9, li_10, li_11, li_12, li_13, li_14, li_15, li_16, li_17, li_18, li_19, li_20, li_21, li_22, li_23, li_24, li_25, li_26, li_27, li_28, li_29, li_30, li_31, li_32, li_33, li_34, li_35, li_36, li_37, li_38, li_39, li_40, li_41, li_42, li_43, li_44, li_45, li_46, li_47, li_48, li_49, li_50, li_51, li_52, li_53, li_54, li_55, li_56, li_57, li_58, li_59, li_60, li_61, li_62, li_63, li_64, li_65, li_66, li_67, li_68, li_69, li_70, li_71, li_72, li_73, li_74, li_75, li_76, li_77, li_78, li_79, li_80, li_81, li_82, li_83, li_84, li_85, li_86, li_87, li_88, li_89, li_90, li_91, li_92, li_93, li_94, li_95, li_96, li_97, li_98, li_99, li_100, li_101, li_102, li_103, li_104, li_105, li_106, li_107, li_108, li_109, li_110, li_111, li_112, li_113, li_114, li_115, li_116, li_117, li_118, li_119, li_120, li_121, li_122, li_123, li_124, li_125, li_126, li_127, li_128, li_144, li_150, li_200, li_255, li_384, li_512, li_999, li_1000, li_1024, li_1152, li_1920, li_3776, li_4096, li_9216, li_10000, li_100000, li_1073741824, li_m, w_lt, w_le, w_eq, w_mlt, w_mle, w_ltm, w_lem, w_meq, w_eqm, w_mm, w_mmlt, w_mmle, nI_add, w_sub, pk_mul, w_div, w_rem, w_and, w_or, w_shr, w_shl1, w_a31, w_andn]
    rw [if_pos (by rw [w_le (by omega) (by omega)]; omega), e1]
    exact fin
theorem k_sure (hF : 99999999 ≤ FU) (hC : PlC 1 P I) (hR : PlR P J) (hW : WfP P) (hv : I 1 12 = nI ver) (hver : ver < 2 ^ 30) (hK : K31 P ver hd I) (hK' : K15 P J) (hZ : ∀ j, j < 4096 → J 73 j = nI 0) (x1 x2 x3 : Int32) : HO P ver pl nm hd rd I J (fX8_sure FU 0 x1 x2 x3 (I, R0 pl nm hd rd)) (fX9_sure FU 60 x1 x2 x3) := by
  have hp := wf_p hW
  rcases hidCase (FU := FU) (pl := pl) (nm := nm) (hd := hd) (rd := rd) hF hC hR hW x1 x2 x3 with ⟨v, v0, c1, c2⟩ | ⟨h, i, s, hh, hi, hs, ex, ey, ez, p6, c1, c2⟩
  · refine ⟨v, ⟨I, hd, ?_, Or.inl ⟨rfl, rfl⟩⟩, fun hd2 => ⟨J, ?_, Or.inl rfl⟩⟩
    · unfold fX8_sure
      rw [show rc 8 (some 0) = some 0 from rfl, w_bind, dn c1, if_neg v0]
    · unfold fX9_sure
      rw [show rc 9 (some 60) = some 60 from rfl, w_bind, dn (c2 hd2), if_neg v0, w_bind, dn (c2 hd2)]
  · subst ez
    have p64 : 2 ^ Pp P ≤ 64 := Nat.pow_le_pow_right (n := 2) (by decide) p6
    have sl := srt_lt hh hi
    have hpr : isPr P (srt h i).1 (srt h i).2 = true := srt_pr hh hi (fun z => sec_1 (x2 := x2) (by omega) (by omega) (by rw [← ex]; exact ey) z)
    obtain ⟨I', a1, a2, a3, a4⟩ := c_solvedHid (FU := FU) (pl := pl) (nm := nm) (hd := hd) (rd := rd) hF hC hW p6 hv hver hK
    have hC' : PlC 1 P I' := hC.congr (fun q _ _ => a4 q (by omega))
    have dp := c_pairS (FU := FU) (pl := pl) (nm := nm) (hd := some 1) (rd := rd) hC' hW hh hi ex ey
    refine ⟨oI (lv P 12 (srt h i).1 (srt h i).2 s), ⟨I', some 1, ?_, Or.inr ⟨rfl, a3, a2, a4⟩⟩, fun hd2 => ?_⟩
    · obtain ⟨R, b1, b2, b3, b4⟩ := a2
      have val := b2 _ _ hpr s hs
      have e1 : nI ((srt h i).1 * 8 + (srt h i).2) * (64 : Int32) + nI s = nI (((srt h i).1 * 8 + (srt h i).2) * 64 + s) := by
        clear val a1 dp c1 c2
        simp (discharger := omega) only [li_0, li_1, li_2, li_3, li_4, li_5, li_6, li_7, li_8, li_9, li_10, li_11, li_12, li_13, li_14, li_15, li_16, li_17, li_18, li_19, li_20, li_21, li_22, li_23, li_24, li_25, li_26, li_27, li_28, li_29, li_30, li_31, li_32, li_33, li_34, li_35, li_36, li_37, li_38, li_39, li_40, li_41, li_42, li_43, li_44, li_45, li_46, li_47, li_48, li_49, li_50, li_51, li_52, li_53, li_54, li_55, li_56, li_57, li_58, li_59, li_60, li_61, li_62, li_63, li_64, li_65, li_66, li_67, li_68, li_69, li_70, li_71, li_72, li_73, li_74, li_75, li_76, li_77, li_78, li_79, li_80, li_81, li_82, li_83, li_84, li_85, li_86, li_87, li_88, li_89, li_90, li_91, li_92, li_93, li_94, li_95, li_96, li_97, li_98, li_99, li_100, li_101, li_102, li_103, li_104, li_105, li_106, li_107, li_108, li_109, li_110, li_111, li_112, li_113, li_114, li_115, li_116, li_117, li_118, li_119, li_120, li_121, li_122, li_123, li_124, li_125, li_126, li_127, li_128, li_144, li_150, li_200, li_255, li_384, li_512, li_999, li_1000, li_1024, li_1152, li_1920, li_3776, li_4096, li_9216, li_10000, li_100000, li_1073741824, li_m, w_lt, w_le, w_eq, w_mlt, w_mle, w_ltm, w_lem, w_meq, w_eqm, w_mm, w_mmlt, w_mmle, nI_add, w_sub, pk_mul, w_div, w_rem, w_and, w_or, w_shr, w_shl1, w_a31, w_andn]
      unfold fX8_sure fX1_leastRounds
      rw [show rc 8 (some 0) = some 0 from rfl, w_bind, dn c1, if_pos li_0.symm, w_bind, dn a1, fRb_0_0, show rc 3 (some 1) = some 1 from rfl, w_bind, dn dp, show rc 1 (some 31) = some 31 from rfl, w_bind, fRb_31_2, e1, aIb_32 (by omega), w_bd2, val, b4 _ _ s hpr hs]
    · obtain ⟨J', b1, b2, b3, b4, b5, b6, b7⟩ := r_least (FU := FU) (pl := pl) (nm := nm) (hd := hd2) (rd := rd) hF hR hW p6 hK' hZ hh hi hs ex ey
      refine ⟨J', ?_, Or.inr ⟨b2, b3, b4, b5, b6, b7⟩⟩
      unfold fX9_sure
      rw [show rc 9 (some 60) = some 60 from rfl, w_bind, dn (c2 hd2), if_pos li_0.symm, w_bind, dn b1]
/-- the first of d from m on -/
def fnd (f : Nat → Bool) : Nat → Nat → Int32
  | _, 0 => mI 1
  | m, d + 1 => if f m = true then nI m else fnd f (m + 1) d
theorem c_surest (hF : 99999999 ≤ FU) (hC : PlC 1 P I) (hW : WfP P) (p6 : Pp P ≤ 6) {R k h i s : Nat} (hR12 : R ≤ 12) (hkR : k + 1 ≤ R) (hM : HM P R I) (hpr : isPr P h i = true) (hs : s < 2 ^ Pp P) : ∀ d m F, d + m = 33 → d < F → fX1_surestMove_L10 FU 31 (nI (h * 8 + i)) (nI s) (nI (k + 1)) F (nI m) (I, R0 pl nm (some 1) rd) = some (fnd (fM P k h i s) m d, (I, R0 pl nm (some 1) rd)) := by
  have hc : (1 : Nat) = 1 ∨ (1 : Nat) = 9 := Or.inl rfl
  have hp := wf_p hW
  have p64 : 2 ^ Pp P ≤ 64 := Nat.pow_le_pow_right (n := 2) (by decide) p6
  have pr := isPr_iff.mp hpr
  have f1 : ¬ nI (k + 1) ≤ (0 : Int32) := by rw [li_0, w_le (by omega) (by omega)]; omega
  intro d
  induction d with
  | zero =>
    intro m F h1 h2
    obtain ⟨G, rfl⟩ : ∃ G, F = G + 1 := ⟨F - 1, by omega⟩
    rw [fX1_surestMove_L10, if_pos (by rw [li_32, w_lt (by omega) (by omega)]; omega)]
    rfl
  | succ d ih =>
    intro m F h1 h2
    obtain ⟨G, rfl⟩ : ∃ G, F = G + 1 := ⟨F - 1, by omega⟩
    have f0 : ¬ (32 : Int32) < nI m := by rw [li_32, w_lt (by omega) (by omega)]; omega
    have dp := c_pairAfter (FU := FU) (pl := pl) (nm := nm) (hd := some 1) (rd := rd) hc hC hW (h := h) (i := i) (m := m) pr.1 pr.2.1 (by omega)
    have nx := ih (m + 1) G (by omega) (by omega)
    rw [fX1_surestMove_L10, if_neg f0, if_neg f1, fRb_31_1, show rc 3 (some 1) = some 1 from rfl, w_bind, dn dp]
    unfold fX1_surestMove_b65
    show _ = some (if fM P k h i s m = true then nI m else fnd (fM P k h i s) (m + 1) d, (I, R0 pl nm (some 1) rd))
    cases hq : pAft P h i m with
    | none =>
      have e : ¬ fM P k h i s m = true := by
        unfold fM
        rw [hq]
        exact Bool.false_ne_true
      rw [if_pos (show pI2 none < (0 : Int32) by decide), li_1, nI_add, nx, if_neg e]
    | some q =>
      have qok := (pAft_ok hW hpr hq).1
      have q8 := pr8 hW qok
      have e0 : pI2 (some q) = nI (q.1 * 8 + q.2) := rfl
      have dpl := c_placesOf (FU := FU) (pl := pl) (nm := nm) (hd := some 1) (rd := rd) (I := I) (h := q.1) (i := q.2) (by omega) (by omega)
      have al := andn_le s (plcM q.1 q.2)
      have dm : fX1_moved FU (nI (q.1 * 8 + q.2)) (nI s) (I, R0 pl nm (some 1) rd) = some (nI ((q.1 * 8 + q.2) * 64 + andn s (plcM q.1 q.2)), (I, R0 pl nm (some 1) rd)) := by
        unfold fX1_moved
        rw [dn dpl]
        clear hM ih
        simp (discharger := omega) only [li_0, li_1, li_2, li_3, li_4, li_5, li_6, li_7, li_8, li_9, li_10, li_11, li_12, li_13, li_14, li_15, li_16, li_17, li_18, li_19, li_20, li_21, li_22, li_23, li_24, li_25, li_26, li_27, li_28, li_29, li_30, li_31, li_32, li_33, li_34, li_35, li_36, li_37, li_38, li_39, li_40, li_41, li_42, li_43, li_44, li_45, li_46, li_47, li_48, li_49, li_50, li_51, li_52, li_53, li_54, li_55, li_56, li_57, li_58, li_59, li_60, li_61, li_62, li_63, li_64, li_65, li_66, li_67, li_68, li_69, li_70, li_71, li_72, li_73, li_74, li_75, li_76, li_77, li_78, li_79, li_80, li_81, li_82, li_83, li_84, li_85, li_86, li_87, li_88, li_89, li_90, li_91, li_92, li_93, li_94, li_95, li_96, li_97, li_98, li_99, li_100, li_101, li_102, li_103, li_104, li_105, li_106, li_107, li_108, li_109, li_110, li_111, li_112, li_113, li_114, li_115, li_116, li_117, li_118, li_119, li_120, li_121, li_122, li_123, li_124, li_125, li_126, li_127, li_128, li_144, li_150, li_200, li_255, li_384, li_512, li_999, li_1000, li_1024, li_1152, li_1920, li_3776, li_4096, li_9216, li_10000, li_100000, li_1073741824, li_m, w_lt, w_le, w_eq, w_mlt, w_mle, w_ltm, w_lem, w_meq, w_eqm, w_mm, w_mmlt, w_mmle, nI_add, w_sub, pk_mul, w_div, w_rem, w_and, w_or, w_shr, w_shl1, w_a31, w_andn]
      have hmv := hM q.1 q.2 (andn s (plcM q.1 q.2)) qok (by omega)
      have ml := mv_le (P := P) R q.1 q.2 (andn s (plcM q.1 q.2))
      have mc := mv_cut (P := P) (h := q.1) (i := q.2) (s := andn s (plcM q.1 q.2)) hkR
      have fe : fM P k h i s m = isM P (fun s => (lv P k q.1 q.2 s).isSome) q.1 q.2 (andn s (plcM q.1 q.2)) := by
        unfold fM
        rw [hq]
      rw [← fe] at mc
      rw [e0, if_neg (by rw [li_0, w_lt (by omega) (by omega)]; omega), fRb_31_3, dn dm, aIb_33 (by omega), hmv]
      by_cases z : mv P R q.1 q.2 (andn s (plcM q.1 q.2)) = 0
      · rw [if_pos (by rw [li_0, w_le (by omega) (by omega)]; omega), li_1, nI_add, nx, if_neg (fun h => (mc.mpr h).1 z)]
      · rw [if_neg (by rw [li_0, w_le (by omega) (by omega)]; omega)]
        by_cases y : mv P R q.1 q.2 (andn s (plcM q.1 q.2)) ≤ k + 1
        · rw [if_neg (by rw [w_lt (by omega) (by omega)]; omega), if_pos (mc.mp ⟨z, y⟩)]
        · rw [if_pos (by rw [w_lt (by omega) (by omega)]; omega), li_1, nI_add, nx, if_neg (fun h => y (mc.mpr h).2)]
theorem r_firstL (hF : 99999999 ≤ FU) (hR : PlR P J) (hW : WfP P) (p6 : Pp P ≤ 6) (hp' : RPre P J) (hL : RLv P 12 J) {k h i s : Nat} (hk : k < 12) (hpr : isPr P h i = true) (hs : s < 2 ^ Pp P) : ∀ d m F, d + m = 33 → d < F → fX9_first_L80 FU 60 (nI s) (nI (k + 1)) (nI h) (nI i) F (nI m) (J, R0 pl nm hd rd) = some (fnd (fM P k h i s) m d, (J, R0 pl nm hd rd)) := by
  have hp := wf_p hW
  have tb : ∀ a b, isPr P a b = true → RTb P (k + 1) a b (fun s => (lv P k a b s).isSome) J := by
    intro a b pr t ht
    rw [hL a b t pr ht]
    have c := lv_cut (P := P) (r := 12) (k := k) (h := a) (i := b) (s := t) (by omega)
    apply propext
    show rI (lv P 12 a b t) < nI (k + 1) ↔ (lv P k a b t).isSome = true
    rw [← c]
    cases e : lv P 12 a b t with
    | none =>
      constructor
      · intro z
        have z : nI 99 < nI (k + 1) := z
        have : (nI 99 < nI (k + 1)) = _ := w_lt (by omega) (by omega)
        rw [this] at z
        omega
      · rintro ⟨j, j1, _⟩
        cases j1
    | some j =>
      have jl := lv_le 12 a b t j e
      have : (nI j < nI (k + 1)) = _ := w_lt (by omega) (by omega)
      show nI j < nI (k + 1) ↔ _
      rw [this]
      constructor
      · intro z
        exact ⟨j, rfl, by omega⟩
      · rintro ⟨j', j1, j2⟩
        have j1 := Option.some.inj j1
        omega
  intro d
  induction d with
  | zero =>
    intro m F h1 h2
    obtain ⟨G, rfl⟩ : ∃ G, F = G + 1 := ⟨F - 1, by omega⟩
    rw [fX9_first_L80, if_pos (by rw [li_32, w_lt (by omega) (by omega)]; omega)]
    rfl
  | succ d ih =>
    intro m F h1 h2
    obtain ⟨G, rfl⟩ : ∃ G, F = G + 1 := ⟨F - 1, by omega⟩
    have f0 : ¬ (32 : Int32) < nI m := by rw [li_32, w_lt (by omega) (by omega)]; omega
    have d1 := r_huntersB (FU := FU) (pl := pl) (nm := nm) (hd := hd) (rd := rd) hF hR hW (m := m) hpr (by omega)
    have nx := ih (m + 1) G (by omega) (by omega)
    rw [fX9_first_L80, if_neg f0, show rc 9 (some 60) = some 60 from rfl, w_bind, dn d1]
    unfold fX9_first_b127
    show _ = some (if fM P k h i s m = true then nI m else fnd (fM P k h i s) (m + 1) d, (J, R0 pl nm hd rd))
    cases hq : pAft P h i m with
    | none =>
      have e : ¬ fM P k h i s m = true := by
        unfold fM
        rw [hq]
        exact Bool.false_ne_true
      rw [if_pos (show pI2 none < (0 : Int32) by decide), li_1, nI_add, nx, if_neg e]
    | some q =>
      have qok := (pAft_ok hW hpr hq).1
      have q8 := pr8 hW qok
      have ql := isPr_le qok
      have e0 : pI2 (some q) = nI (q.1 * 8 + q.2) := rfl
      have e1 : nI (q.1 * 8 + q.2) / (8 : Int32) = nI q.1 := by
        simp (discharger := omega) only [li_0, li_1, li_2, li_3, li_4, li_5, li_6, li_7, li_8, li_9, li_10, li_11, li_12, li_13, li_14, li_15, li_16, li_17, li_18, li_19, li_20, li_21, li_22, li_23, li_24, li_25, li_26, li_27, li_28, li_29, li_30, li_31, li_32, li_33, li_34, li_35, li_36, li_37, li_38, li_39, li_40, li_41, li_42, li_43, li_44, li_45, li_46, li_47, li_48, li_49, li_50, li_51, li_52, li_53, li_54, li_55, li_56, li_57, li_58, li_59, li_60, li_61, li_62, li_63, li_64, li_65, li_66, li_67, li_68, li_69, li_70, li_71, li_72, li_73, li_74, li_75, li_76, li_77, li_78, li_79, li_80, li_81, li_82, li_83, li_84, li_85, li_86, li_87, li_88, li_89, li_90, li_91, li_92, li_93, li_94, li_95, li_96, li_97, li_98, li_99, li_100, li_101, li_102, li_103, li_104, li_105, li_106, li_107, li_108, li_109, li_110, li_111, li_112, li_113, li_114, li_115, li_116, li_117, li_118, li_119, li_120, li_121, li_122, li_123, li_124, li_125, li_126, li_127, li_128, li_144, li_150, li_200, li_255, li_384, li_512, li_999, li_1000, li_1024, li_1152, li_1920, li_3776, li_4096, li_9216, li_10000, li_100000, li_1073741824, li_m, w_lt, w_le, w_eq, w_mlt, w_mle, w_ltm, w_lem, w_meq, w_eqm, w_mm, w_mmlt, w_mmle, nI_add, w_sub, pk_mul, w_div, w_rem, w_and, w_or, w_shr, w_shl1, w_a31, w_andn]
        congr 1
        omega
      have e2 : nI (q.1 * 8 + q.2) - nI q.1 * (8 : Int32) = nI q.2 := by
        simp (discharger := omega) only [li_0, li_1, li_2, li_3, li_4, li_5, li_6, li_7, li_8, li_9, li_10, li_11, li_12, li_13, li_14, li_15, li_16, li_17, li_18, li_19, li_20, li_21, li_22, li_23, li_24, li_25, li_26, li_27, li_28, li_29, li_30, li_31, li_32, li_33, li_34, li_35, li_36, li_37, li_38, li_39, li_40, li_41, li_42, li_43, li_44, li_45, li_46, li_47, li_48, li_49, li_50, li_51, li_52, li_53, li_54, li_55, li_56, li_57, li_58, li_59, li_60, li_61, li_62, li_63, li_64, li_65, li_66, li_67, li_68, li_69, li_70, li_71, li_72, li_73, li_74, li_75, li_76, li_77, li_78, li_79, li_80, li_81, li_82, li_83, li_84, li_85, li_86, li_87, li_88, li_89, li_90, li_91, li_92, li_93, li_94, li_95, li_96, li_97, li_98, li_99, li_100, li_101, li_102, li_103, li_104, li_105, li_106, li_107, li_108, li_109, li_110, li_111, li_112, li_113, li_114, li_115, li_116, li_117, li_118, li_119, li_120, li_121, li_122, li_123, li_124, li_125, li_126, li_127, li_128, li_144, li_150, li_200, li_255, li_384, li_512, li_999, li_1000, li_1024, li_1152, li_1920, li_3776, li_4096, li_9216, li_10000, li_100000, li_1073741824, li_m, w_lt, w_le, w_eq, w_mlt, w_mle, w_ltm, w_lem, w_meq, w_eqm, w_mm, w_mmlt, w_mmle, nI_add, w_sub, pk_mul, w_div, w_rem, w_and, w_or, w_shr, w_shl1, w_a31, w_andn]
        congr 1
        omega
      have fe : fM P k h i s m = isM P (fun s => (lv P k q.1 q.2 s).isSome) q.1 q.2 (andn s (plcM q.1 q.2)) := by
        unfold fM
        rw [hq]
      have d2 := r_isDone (FU := FU) (pl := pl) (nm := nm) (hd := hd) (rd := rd) hF hR hW p6 hp' (set := s) hs ql.1 ql.2 (tb _ _ qok)
      rw [← fe] at d2
      rw [e0, if_neg (by rw [li_0, w_lt (by omega) (by omega)]; omega), w_bind, e1, e2, dn d2]
      by_cases w : fM P k h i s m = true
      · rw [b01_pos w, if_neg (by decide), if_pos w]
      · rw [b01_neg w, if_pos (by decide), li_1, nI_add, nx, if_neg w]
theorem k_first (hF : 99999999 ≤ FU) (hC : PlC 1 P I) (hR : PlR P J) (hW : WfP P) (hv : I 1 12 = nI ver) (hver : ver < 2 ^ 30) (hK : K31 P ver hd I) (hK' : K15 P J) (hZ : ∀ j, j < 4096 → J 73 j = nI 0) (x1 x2 x3 : Int32) : HO P ver pl nm hd rd I J (fX8_first FU 0 x1 x2 x3 (I, R0 pl nm hd rd)) (fX9_first FU 60 x1 x2 x3) := by
  have hp := wf_p hW
  have hp2 := wf_h hW
  rcases hidCase (FU := FU) (pl := pl) (nm := nm) (hd := hd) (rd := rd) hF hC hR hW x1 x2 x3 with ⟨v, v0, c1, c2⟩ | ⟨h, i, s, hh, hi, hs, ex, ey, ez, p6, c1, c2⟩
  · refine ⟨v, ⟨I, hd, ?_, Or.inl ⟨rfl, rfl⟩⟩, fun hd2 => ⟨J, ?_, Or.inl rfl⟩⟩
    · unfold fX8_first
      rw [show rc 8 (some 0) = some 0 from rfl, w_bind, dn c1, if_neg v0]
    · unfold fX9_first
      rw [show rc 9 (some 60) = some 60 from rfl, w_bind, dn (c2 hd2), if_neg v0, w_bind, dn (c2 hd2)]
  · subst ez
    have p64 : 2 ^ Pp P ≤ 64 := Nat.pow_le_pow_right (n := 2) (by decide) p6
    have sl := srt_lt hh hi
    have hpr : isPr P (srt h i).1 (srt h i).2 = true := srt_pr hh hi (fun z => sec_1 (x2 := x2) (by omega) (by omega) (by rw [← ex]; exact ey) z)
    obtain ⟨I', a1, a2, a3, a4⟩ := c_solvedHid (FU := FU) (pl := pl) (nm := nm) (hd := hd) (rd := rd) hF hC hW p6 hv hver hK
    have hC' : PlC 1 P I' := hC.congr (fun q _ _ => a4 q (by omega))
    have dp := c_pairS (FU := FU) (pl := pl) (nm := nm) (hd := some 1) (rd := rd) hC' hW hh hi ex ey
    -- the class's answer over a given rounds
    have c8 : ∀ w, fX1_surestMove FU 31 (nI ((srt h i).1 * 8 + (srt h i).2)) (nI s) (I', R0 pl nm (some 1) rd) = some (w, (I', R0 pl nm (some 1) rd)) → fX8_first FU 0 x1 x2 (nI s) (I, R0 pl nm hd rd) = some (w, (I', R0 pl nm (some 1) rd)) := by
      intro w e
      unfold fX8_first
      rw [show rc 8 (some 0) = some 0 from rfl, w_bind, dn c1, if_pos li_0.symm, w_bind, dn a1, fRb_0_0, show rc 3 (some 1) = some 1 from rfl, w_bind, dn dp, show rc 1 (some 31) = some 31 from rfl, w_bind, dn e]
    have a2' := a2
    obtain ⟨R, b1, b2, b3, b4⟩ := a2'
    have val := b2 _ _ hpr s hs
    have e1 : nI ((srt h i).1 * 8 + (srt h i).2) * (64 : Int32) + nI s = nI (((srt h i).1 * 8 + (srt h i).2) * 64 + s) := by
      clear val a1 dp c1 c2 c8
      simp (discharger := omega) only [li_0, li_1, li_2, li_3, li_4, li_5, li_6, li_7, li_8, li_9, li_10, li_11, li_12, li_13, li_14, li_15, li_16, li_17, li_18, li_19, li_20, li_21, li_22, li_23, li_24, li_25, li_26, li_27, li_28, li_29, li_30, li_31, li_32, li_33, li_34, li_35, li_36, li_37, li_38, li_39, li_40, li_41, li_42, li_43, li_44, li_45, li_46, li_47, li_48, li_49, li_50, li_51, li_52, li_53, li_54, li_55, li_56, li_57, li_58, li_59, li_60, li_61, li_62, li_63, li_64, li_65, li_66, li_67, li_68, li_69, li_70, li_71, li_72, li_73, li_74, li_75, li_76, li_77, li_78, li_79, li_80, li_81, li_82, li_83, li_84, li_85, li_86, li_87, li_88, li_89, li_90, li_91, li_92, li_93, li_94, li_95, li_96, li_97, li_98, li_99, li_100, li_101, li_102, li_103, li_104, li_105, li_106, li_107, li_108, li_109, li_110, li_111, li_112, li_113, li_114, li_115, li_116, li_117, li_118, li_119, li_120, li_121, li_122, li_123, li_124, li_125, li_126, li_127, li_128, li_144, li_150, li_200, li_255, li_384, li_512, li_999, li_1000, li_1024, li_1152, li_1920, li_3776, li_4096, li_9216, li_10000, li_100000, li_1073741824, li_m, w_lt, w_le, w_eq, w_mlt, w_mle, w_ltm, w_lem, w_meq, w_eqm, w_mm, w_mmlt, w_mmle, nI_add, w_sub, pk_mul, w_div, w_rem, w_and, w_or, w_shr, w_shl1, w_a31, w_andn]
    have dl : fX1_leastRounds FU 31 (nI ((srt h i).1 * 8 + (srt h i).2)) (nI s) (I', R0 pl nm (some 1) rd) = some (oI (lv P 12 (srt h i).1 (srt h i).2 s), (I', R0 pl nm (some 1) rd)) := by
      unfold fX1_leastRounds
      rw [fRb_31_2, e1, aIb_32 (by omega), val, b4 _ _ s hpr hs]
    have rl := fun hd2 => r_least (FU := FU) (pl := pl) (nm := nm) (hd := hd2) (rd := rd) hF hR hW p6 hK' hZ hh hi hs ex ey
    have neg : ∀ o, lv P 12 (srt h i).1 (srt h i).2 s = o → oI o ≤ 0 → HO P ver pl nm hd rd I J (fX8_first FU 0 x1 x2 (nI s) (I, R0 pl nm hd rd)) (fX9_first FU 60 x1 x2 (nI s)) := by
      intro o eo o0
      refine ⟨-1, ⟨I', some 1, c8 _ ?_, Or.inr ⟨rfl, a3, a2, a4⟩⟩, fun hd2 => ?_⟩
      · obtain ⟨G, hG⟩ : ∃ G, FU = G + 1 := ⟨FU - 1, by omega⟩
        have e10 : fX1_surestMove_L10 FU 31 (nI ((srt h i).1 * 8 + (srt h i).2)) (nI s) (oI o) FU (0 : Int32) (I', R0 pl nm (some 1) rd) = some (-1, (I', R0 pl nm (some 1) rd)) := by
          rw [show fX1_surestMove_L10 FU 31 (nI ((srt h i).1 * 8 + (srt h i).2)) (nI s) (oI o) FU (0 : Int32) (I', R0 pl nm (some 1) rd) = fX1_surestMove_L10 FU 31 (nI ((srt h i).1 * 8 + (srt h i).2)) (nI s) (oI o) (G + 1) (0 : Int32) (I', R0 pl nm (some 1) rd) by rw [← hG], fX1_surestMove_L10, if_neg (by decide), if_pos o0]
        unfold fX1_surestMove
        rw [show rc 1 (some 31) = some 31 from rfl, w_bind, dn dl, eo, e10]
      · obtain ⟨J', q1, q2, q3, q4, q5, q6, q7⟩ := rl hd2
        refine ⟨J', ?_, Or.inr ⟨q2, q3, q4, q5, q6, q7⟩⟩
        unfold fX9_first
        rw [show rc 9 (some 60) = some 60 from rfl, w_bind, dn (c2 hd2), if_pos li_0.symm, w_bind, dn q1, eo, if_neg (Int32.not_lt.mpr o0)]
    cases eo : lv P 12 (srt h i).1 (srt h i).2 s with
    | none => exact neg none eo (by decide)
    | some j =>
      have j12 := lv_le 12 _ _ s j eo
      by_cases z : j = 0
      · subst z
        exact neg (some 0) eo (by decide)
      · obtain ⟨k, hk⟩ : ∃ k, j = k + 1 := ⟨j - 1, by omega⟩
        subst hk
        have kR : k + 1 ≤ R := by
          have := b4 _ _ s hpr hs
          rw [eo] at this
          exact lv_le R _ _ s _ this.symm
        refine ⟨fnd (fM P k (srt h i).1 (srt h i).2 s) 0 33, ⟨I', some 1, c8 _ ?_, Or.inr ⟨rfl, a3, a2, a4⟩⟩, fun hd2 => ?_⟩
        · unfold fX1_surestMove
          rw [show rc 1 (some 31) = some 31 from rfl, w_bind, dn dl, eo, oI_some, li_0]
          exact c_surest hF hC' hW p6 b1 kR b3 hpr hs 33 0 FU (by omega) (by omega)
        · obtain ⟨J', q1, q2, q3, q4, q5, q6, q7⟩ := rl hd2
          have hR' : PlR P J' := hR.congr (fun i hi => q7 i (by omega)) (fun k _ _ => q6 k (by omega) (by omega) (by omega) (by omega) (by omega))
          refine ⟨J', ?_, Or.inr ⟨q2, q3, q4, q5, q6, q7⟩⟩
          have fl := r_firstL (FU := FU) (pl := pl) (nm := nm) (hd := hd2) (rd := rd) hF hR' hW p6 q3 q4 (k := k) (by omega) hpr hs 33 0 FU (by omega) (by omega)
          have e47 : fX9_first FU 60 x1 x2 (nI s) (J, R0 pl nm hd2 rd) = fX9_first_b47 FU 60 x1 (nI s) (nI (k + 1)) (secI P x1 x2) (J', R0 pl nm hd2 rd) := by
            have f0 : (0 : Int32) < nI (k + 1) := by rw [li_0, w_lt (by omega) (by omega)]; omega
            unfold fX9_first secI
            rw [show rc 9 (some 60) = some 60 from rfl, w_bind, dn (c2 hd2), if_pos li_0.symm, w_bind, dn q1, eo, oI_some, if_pos f0, fIb_60, hR'.2.2.1]
            rcases hp2 with y | y
            · rw [y, if_neg (by decide), if_pos rfl]
            · rw [y, if_pos (by decide), if_neg (by decide)]
          rw [e47, ey, ex]
          unfold fX9_first_b47 fX9_first_b61 fX9_first_b75
          unfold srt at fl ⊢
          by_cases y : h < i
          · rw [if_pos y] at fl ⊢
            rw [if_neg (by rw [w_le (by omega) (by omega)]; omega), if_neg (by rw [w_le (by omega) (by omega)]; omega), li_0]
            exact fl
          · rw [if_neg y] at fl ⊢
            rw [if_pos (by rw [w_le (by omega) (by omega)]; omega), if_pos (by rw [w_le (by omega) (by omega)]; omega), li_0]
            exact fl
end Hid7
