/-! hidden, the class: findMoved -/
section Hid2
variable {FU ver : Nat} {P : Pln} {I J : Nat → Nat → Int32} {pl nm hd rd : Option Nat}
theorem rch_tb {x h i sh y : Nat} : (rch P x h i sh).testBit y = true → y < 8 ∧ (((isWl P x && x == y) || anyB (fun w => opn P w sh && runE P w x h i == some y) (Pn P)) = true) := by
  unfold rch
  rw [tb_mk, Bool.and_eq_true, Bool.and_eq_true, Bool.and_eq_true]
  rintro ⟨h1, ⟨h2, _⟩, _⟩
  exact ⟨of_decide_eq_true h1, h2⟩
theorem rch_ltp (hW : WfP P) {x h i sh : Nat} (hx : x < Pp P) : rch P x h i sh < 2 ^ Pp P := by
  apply lt_of_tb
  intro y hy
  cases e : (rch P x h i sh).testBit y with
  | false => rfl
  | true =>
    obtain ⟨_, h2⟩ := rch_tb e
    rw [Bool.or_eq_true, anyB_iff] at h2
    rcases h2 with h2 | ⟨w, w1, w2⟩
    · rw [Bool.and_eq_true, beq_iff_eq] at h2
      omega
    · rw [Bool.and_eq_true, beq_iff_eq] at w2
      have := runE_lt hW w1 w2.2
      omega
theorem runsS_ltp (hW : WfP P) {s h i sh : Nat} : runsS P s h i sh < 2 ^ Pp P := by
  apply lt_of_tb
  intro y hy
  cases e : (runsS P s h i sh).testBit y with
  | false => rfl
  | true =>
    unfold runsS at e
    rw [tb_mk, Bool.and_eq_true, anyB_iff] at e
    obtain ⟨_, x, x1, x2⟩ := e
    rw [Bool.and_eq_true] at x2
    rw [tb_of_lt (rch_ltp hW x1) hy] at x2
    exact absurd x2.2 (by decide)
theorem runs1 {x h i sh : Nat} (hx : x < Pp P) : runsS P (2 ^ x) h i sh = rch P x h i sh := by
  apply Nat.eq_of_testBit_eq
  intro y
  unfold runsS
  rw [tb_mk]
  by_cases z : y < 8
  · rw [decide_eq_true z, Bool.true_and, Bool.eq_iff_iff, anyB_iff]
    constructor
    · rintro ⟨x', _, h2⟩
      rw [Bool.and_eq_true, Nat.testBit_two_pow, decide_eq_true_eq] at h2
      rw [h2.1]
      exact h2.2
    · intro e
      exact ⟨x, hx, by rw [Nat.testBit_two_pow_self, e]; rfl⟩
  · rw [decide_eq_false z, Bool.false_and]
    exact (tb_of_lt (k := 8) (rch_lt (P := P) x h i sh) (by omega)).symm
/-- seen places from which it is sure -/
def gdB (P : Pln) (T : Nat → Bool) (h i x : Nat) : Bool := (seeH P h i).testBit x && alD P T (seeH P h i) (rch P x h i 0)
/-- what the class holds of one pair, r rounds reckoned -/
def HB (P : Pln) (r h i : Nat) (I : Nat → Nat → Int32) : Prop := ∀ s, s < 2 ^ Pp P → I 32 ((h * 8 + i) * 64 + s) = oI (lv P r h i s)
theorem lv_b {r h i : Nat} (hr : r ≤ 12) : ∀ s j, lv P r h i s = some j → j < 2 ^ 31 := by
  intro s j e
  have := lv_le r h i s j e
  omega
theorem c_moved22 (hF : 99999999 ≤ FU) (hC : PlC 1 P I) (hW : WfP P) (p6 : Pp P ≤ 6) {r h i : Nat} (hr : r ≤ 12) (hh : h < 8) (hi : i < 8) (h5 : I 31 5 = nI (seeH P h i)) (sl : seeH P h i < 256) (hb : HB P r h i I) (h34 : ∀ s, s < 2 ^ Pp P → I 34 s = nI (runsS P s h i 0)) {rn : Int32} : fX1_findMoved_L22 FU 31 (nI (h * 8 + i)) rn FU (nI 0) (nI 0) (I, R0 pl nm (some 1) rd) = fX1_findMoved_L79 FU 31 (nI (h * 8 + i)) rn (nI (mk (gdB P (fun s => (lv P r h i s).isSome) h i) (Pp P))) FU (nI 0) (I, R0 pl nm (some 1) rd) := by
  have hp := wf_p hW
  have step : ∀ x, x < Pp P → ∀ F, fX1_findMoved_L22 FU 31 (nI (h * 8 + i)) rn (F + 1) (nI (mk (gdB P (fun s => (lv P r h i s).isSome) h i) x)) (nI x) (I, R0 pl nm (some 1) rd) = fX1_findMoved_L22 FU 31 (nI (h * 8 + i)) rn F (nI (mk (gdB P (fun s => (lv P r h i s).isSome) h i) (x + 1))) (nI (x + 1)) (I, R0 pl nm (some 1) rd) := by
    intro x hx F
    have f0 : ¬ nI (Pp P) ≤ nI x := by rw [w_le (by omega) (by omega)]; omega
    have hy := pw_p hx p6
    have e1 : (1 : Int32) <<< (nI x &&& 31) = nI (2 ^ x) := by simp (discharger := omega) only [li_0, li_1, li_2, li_3, li_4, li_5, li_6, li_7, li_8, li_9, li_10, li_11, li_12, li_13, li_14, li_15, li_16, li_17, li_18, li_19, li_20, li_21, li_22, li_23, li_24, li_25, li_26, li_27, li_28, li_29, li_30, li_31, li_32, li_33, li_34, li_35, li_36, li_37, li_38, li_39, li_40, li_41, li_42, li_43, li_44, li_45, li_46, li_47, li_48, li_49, li_50, li_51, li_52, li_53, li_54, li_55, li_56, li_57, li_58, li_59, li_60, li_61, li_62, li_63, li_64, li_65, li_66, li_67, li_68, li_69, li_70, li_71, li_72, li_73, li_74, li_75, li_76, li_77, li_78, li_79, li_80, li_81, li_82, li_83, li_84, li_85, li_86, li_87, li_88, li_89, li_90, li_91, li_92, li_93, li_94, li_95, li_96, li_97, li_98, li_99, li_100, li_101, li_102, li_103, li_104, li_105, li_106, li_107, li_108, li_109, li_110, li_111, li_112, li_113, li_114, li_115, li_116, li_117, li_118, li_119, li_120, li_121, li_122, li_123, li_124, li_125, li_126, li_127, li_128, li_144, li_150, li_200, li_255, li_384, li_512, li_999, li_1000, li_1024, li_1152, li_1920, li_3776, li_4096, li_9216, li_10000, li_100000, li_1073741824, li_m, w_lt, w_le, w_eq, w_mlt, w_mle, w_ltm, w_lem, w_meq, w_eqm, w_mm, w_mmlt, w_mmle, nI_add, w_sub, pk_mul, w_div, w_rem, w_and, w_or, w_shr, w_shl1, w_a31, w_andn]
    have c1 : ((nI (seeH P h i) >>> (nI x &&& 31)) &&& (1 : Int32) = 0) = ((seeH P h i).testBit x = false) := by
      clear hb h34
      simp (discharger := omega) only [li_0, li_1, li_2, li_3, li_4, li_5, li_6, li_7, li_8, li_9, li_10, li_11, li_12, li_13, li_14, li_15, li_16, li_17, li_18, li_19, li_20, li_21, li_22, li_23, li_24, li_25, li_26, li_27, li_28, li_29, li_30, li_31, li_32, li_33, li_34, li_35, li_36, li_37, li_38, li_39, li_40, li_41, li_42, li_43, li_44, li_45, li_46, li_47, li_48, li_49, li_50, li_51, li_52, li_53, li_54, li_55, li_56, li_57, li_58, li_59, li_60, li_61, li_62, li_63, li_64, li_65, li_66, li_67, li_68, li_69, li_70, li_71, li_72, li_73, li_74, li_75, li_76, li_77, li_78, li_79, li_80, li_81, li_82, li_83, li_84, li_85, li_86, li_87, li_88, li_89, li_90, li_91, li_92, li_93, li_94, li_95, li_96, li_97, li_98, li_99, li_100, li_101, li_102, li_103, li_104, li_105, li_106, li_107, li_108, li_109, li_110, li_111, li_112, li_113, li_114, li_115, li_116, li_117, li_118, li_119, li_120, li_121, li_122, li_123, li_124, li_125, li_126, li_127, li_128, li_144, li_150, li_200, li_255, li_384, li_512, li_999, li_1000, li_1024, li_1152, li_1920, li_3776, li_4096, li_9216, li_10000, li_100000, li_1073741824, li_m, w_lt, w_le, w_eq, w_mlt, w_mle, w_ltm, w_lem, w_meq, w_eqm, w_mm, w_mmlt, w_mmle, nI_add, w_sub, pk_mul, w_div, w_rem, w_and, w_or, w_shr, w_shl1, w_a31, w_andn, w_a1, w_bit0]
    have ds := c_isSure (FU := FU) (pl := pl) (nm := nm) (rd := rd) hF hC hW p6 (k := h * 8 + i) (set := rch P x h i 0) (by omega) (rch_ltp hW hx) h5 (lv_b (P := P) (h := h) (i := i) hr) hb
    rw [fX1_findMoved_L22, fRb_31_1, fIb_1, hC.1, if_neg f0, fIb_31, h5, e1, mk_s]
    unfold fX1_findMoved_b70
    rw [li_1, nI_add, ← li_1]
    by_cases z : (seeH P h i).testBit x = true
    · rw [if_neg (by rw [c1, z]; decide), fRb_31_4, aIb_34 (by omega), h34 _ hy.1, runs1 hx, show rc 1 (some 31) = some 31 from rfl, w_bind, dn ds]
      by_cases y : alD P (fun s => (lv P r h i s).isSome) (seeH P h i) (rch P x h i 0) = true
      · have g : gdB P (fun s => (lv P r h i s).isSome) h i x = true := by
          unfold gdB
          rw [z, y]
          rfl
        rw [b01_pos y, if_neg (by decide), w_or, if_pos g]
      · have g : ¬ gdB P (fun s => (lv P r h i s).isSome) h i x = true := by
          unfold gdB
          rw [z, Bool.true_and]
          exact y
        rw [b01_neg y, if_pos (by decide), if_neg g, Nat.or_zero]
    · have z2 : (seeH P h i).testBit x = false := by simpa using z
      have g : ¬ gdB P (fun s => (lv P r h i s).isSome) h i x = true := by
        unfold gdB
        rw [z2, Bool.false_and]
        exact Bool.false_ne_true
      rw [if_pos (by rw [c1]; exact z2), if_neg g, Nat.or_zero]
  have lp := lpU (fun F (q : Int32 × Int32 × Mem) => fX1_findMoved_L22 FU 31 (nI (h * 8 + i)) rn F q.1 q.2.1 q.2.2) (fun x => (nI (mk (gdB P (fun s => (lv P r h i s).isSome) h i) x), nI x, (I, R0 pl nm (some 1) rd))) (Pp P) step (Pp P) 0 FU (by omega) (by omega)
  simp only at lp
  obtain ⟨G, hG⟩ : ∃ G, FU - Pp P = G + 1 := ⟨FU - Pp P - 1, by omega⟩
  have lp : fX1_findMoved_L22 FU 31 (nI (h * 8 + i)) rn FU (nI 0) (nI 0) (I, R0 pl nm (some 1) rd) = _ := lp
  rw [lp, hG, fX1_findMoved_L22, fRb_31_1, fIb_1, hC.1, if_pos (by rw [w_le (by omega) (by omega)]; omega), li_0]
theorem good_iff {T : Nat → Bool} {h i s : Nat} (hs : s < 2 ^ Pp P) : (andn (s &&& seeH P h i) (mk (gdB P T h i) (Pp P)) = 0) ↔ allF (fun x => !(s.testBit x && (seeH P h i).testBit x) || alD P T (seeH P h i) (rch P x h i 0)) 0 (Pp P) = true := by
  rw [allF_iff]
  constructor
  · intro e x _ hx
    have e2 : (andn (s &&& seeH P h i) (mk (gdB P T h i) (Pp P))).testBit x = false := by rw [e, Nat.zero_testBit]
    rw [tb_andn, Nat.testBit_and, tb_mk, decide_eq_true (by omega : x < Pp P), Bool.true_and] at e2
    unfold gdB at e2
    cases a : s.testBit x <;> cases b : (seeH P h i).testBit x <;> simp [a, b] at e2 ⊢
    exact e2
  · intro e
    apply Nat.eq_of_testBit_eq
    intro x
    rw [Nat.zero_testBit, tb_andn, Nat.testBit_and, tb_mk]
    by_cases hx : x < Pp P
    · have := e x (by omega) (by omega)
      unfold gdB
      cases a : s.testBit x <;> cases b : (seeH P h i).testBit x <;> simp [a, b, hx] at this ⊢
      exact this
    · rw [tb_of_lt hs (by omega)]
      rfl
theorem c_moved79 (hF : 99999999 ≤ FU) (hW : WfP P) (p6 : Pp P ≤ 6) {r h i : Nat} (hr : r < 12) (hh : h < 8) (hi : i < 8) (sl : seeH P h i < 256) : ∀ e s I F, e + s = 2 ^ Pp P → e < F → PlC 1 P I → I 31 5 = nI (seeH P h i) → HB P r h i I → (∀ s, s < 2 ^ Pp P → I 34 s = nI (runsS P s h i 0)) → (∀ s', s ≤ s' → s' < 2 ^ Pp P → I 33 ((h * 8 + i) * 64 + s') = nI (mv P r h i s')) → ∃ I', fX1_findMoved_L79 FU 31 (nI (h * 8 + i)) (nI (r + 1)) (nI (mk (gdB P (fun s => (lv P r h i s).isSome) h i) (Pp P))) F (nI s) (I, R0 pl nm (some 1) rd) = some (I', R0 pl nm (some 1) rd) ∧ (∀ s', s ≤ s' → s' < 2 ^ Pp P → I' 33 ((h * 8 + i) * 64 + s') = nI (mv P (r + 1) h i s')) ∧ (∀ j, j < (h * 8 + i) * 64 + s ∨ (h * 8 + i) * 64 + 2 ^ Pp P ≤ j → I' 33 j = I 33 j) ∧ (∀ q, q ≠ 33 → I' q = I q) := by
  have hc : (1 : Nat) = 1 ∨ (1 : Nat) = 9 := Or.inl rfl
  have hp := wf_p hW
  have p64 : 2 ^ Pp P ≤ 64 := Nat.pow_le_pow_right (n := 2) (by decide) p6
  have p1 : 1 ≤ 2 ^ Pp P := Nat.one_le_two_pow
  intro e
  induction e with
  | zero =>
    intro s I F h1 h2 hC h5 hb h34 hm
    obtain ⟨G, rfl⟩ : ∃ G, F = G + 1 := ⟨F - 1, by omega⟩
    have da := c_allPlaces (FU := FU) (pl := pl) (nm := nm) (hd := some 1) (rd := rd) hc hC hW
    refine ⟨I, ?_, fun s' s1 s2 => by omega, fun _ _ => rfl, fun _ _ => rfl⟩
    rw [fX1_findMoved_L79, fRb_31_1, show rc 3 (some 1) = some 1 from rfl, w_bind, dn da, if_pos (by rw [w_lt (by omega) (by omega)]; omega)]
  | succ e ih =>
    intro s I F h1 h2 hC h5 hb h34 hm
    obtain ⟨G, rfl⟩ : ∃ G, F = G + 1 := ⟨F - 1, by omega⟩
    have da := c_allPlaces (FU := FU) (pl := pl) (nm := nm) (hd := some 1) (rd := rd) hc hC hW
    have f0 : ¬ nI (2 ^ Pp P - 1) < nI s := by rw [w_lt (by omega) (by omega)]; omega
    have hms := hm s (Nat.le_refl s) (by omega)
    have ml := mv_le (P := P) r h i s
    have e1 : nI (h * 8 + i) * (64 : Int32) + nI s = nI ((h * 8 + i) * 64 + s) := by
      clear hb h34 hm ih
      simp (discharger := omega) only [li_0, li_1, li_2, li_3, li_4, li_5, li_6, li_7, li_8, li_9, li_10, li_11, li_12, li_13, li_14, li_15, li_16, li_17, li_18, li_19, li_20, li_21, li_22, li_23, li_24, li_25, li_26, li_27, li_28, li_29, li_30, li_31, li_32, li_33, li_34, li_35, li_36, li_37, li_38, li_39, li_40, li_41, li_42, li_43, li_44, li_45, li_46, li_47, li_48, li_49, li_50, li_51, li_52, li_53, li_54, li_55, li_56, li_57, li_58, li_59, li_60, li_61, li_62, li_63, li_64, li_65, li_66, li_67, li_68, li_69, li_70, li_71, li_72, li_73, li_74, li_75, li_76, li_77, li_78, li_79, li_80, li_81, li_82, li_83, li_84, li_85, li_86, li_87, li_88, li_89, li_90, li_91, li_92, li_93, li_94, li_95, li_96, li_97, li_98, li_99, li_100, li_101, li_102, li_103, li_104, li_105, li_106, li_107, li_108, li_109, li_110, li_111, li_112, li_113, li_114, li_115, li_116, li_117, li_118, li_119, li_120, li_121, li_122, li_123, li_124, li_125, li_126, li_127, li_128, li_144, li_150, li_200, li_255, li_384, li_512, li_999, li_1000, li_1024, li_1152, li_1920, li_3776, li_4096, li_9216, li_10000, li_100000, li_1073741824, li_m, w_lt, w_le, w_eq, w_mlt, w_mle, w_ltm, w_lem, w_meq, w_eqm, w_mm, w_mmlt, w_mmle, nI_add, w_sub, pk_mul, w_div, w_rem, w_and, w_or, w_shr, w_shl1, w_a31, w_andn]
    rw [fX1_findMoved_L79, fRb_31_1, show rc 3 (some 1) = some 1 from rfl, w_bind, dn da, if_neg f0, fRb_31_3, e1, aIb_33 (by omega), hms]
    unfold fX1_findMoved_b154
    rw [li_1, nI_add]
    -- nothing is written
    have skip : mv P (r + 1) h i s = mv P r h i s → ∃ I', fX1_findMoved_L79 FU 31 (nI (h * 8 + i)) (nI (r + 1)) (nI (mk (gdB P (fun s => (lv P r h i s).isSome) h i) (Pp P))) G (nI (s + 1)) (I, R0 pl nm (some 1) rd) = some (I', R0 pl nm (some 1) rd) ∧ (∀ s', s ≤ s' → s' < 2 ^ Pp P → I' 33 ((h * 8 + i) * 64 + s') = nI (mv P (r + 1) h i s')) ∧ (∀ j, j < (h * 8 + i) * 64 + s ∨ (h * 8 + i) * 64 + 2 ^ Pp P ≤ j → I' 33 j = I 33 j) ∧ (∀ q, q ≠ 33 → I' q = I q) := by
      intro em
      obtain ⟨I', a1, a2, a3, a4⟩ := ih (s + 1) I G (by omega) (by omega) hC h5 hb h34 (fun s' s1 s2 => hm s' (by omega) s2)
      refine ⟨I', a1, fun s' s1 s2 => ?_, fun j hj => a3 j (by omega), a4⟩
      by_cases z : s' = s
      · subst z
        rw [a3 _ (by omega), hms, em]
      · exact a2 s' (by omega) s2
    by_cases z : mv P r h i s = 0
    · rw [z, if_neg (by decide), fIb_31, h5]
      have cnd : (¬ ((nI s &&& nI (seeH P h i)) &&& (nI (mk (gdB P (fun s => (lv P r h i s).isSome) h i) (Pp P)) ^^^ (-nI 1))) = 0) = ¬ (allF (fun x => !(s.testBit x && (seeH P h i).testBit x) || alD P (fun s => (lv P r h i s).isSome) (seeH P h i) (rch P x h i 0)) 0 (Pp P) = true) := by
        rw [← good_iff (P := P) (T := fun s => (lv P r h i s).isSome) (h := h) (i := i) (s := s) (by omega)]
        have l1 := andn_le (s &&& seeH P h i) (mk (gdB P (fun s => (lv P r h i s).isSome) h i) (Pp P))
        have l2 : s &&& seeH P h i ≤ s := Nat.and_le_left
        rw [w_and, show (-nI 1 : Int32) = mI 1 from rfl, w_andn, li_0, w_eq (by omega) (by omega)]
      have sm : mv P (r + 1) h i s = if isM P (fun s => (lv P r h i s).isSome) h i s = true then r + 1 else 0 := by
        show (if mv P r h i s ≠ 0 then _ else _) = _
        rw [if_neg (by rw [z]; exact fun h => h rfl)]
      by_cases y : allF (fun x => !(s.testBit x && (seeH P h i).testBit x) || alD P (fun s => (lv P r h i s).isSome) (seeH P h i) (rch P x h i 0)) 0 (Pp P) = true
      · have al := andn_le s (seeH P h i)
        have e2 : nI s &&& (nI (seeH P h i) ^^^ (-nI 1)) = nI (andn s (seeH P h i)) := by rw [show (-nI 1 : Int32) = mI 1 from rfl, w_andn]
        have ds := c_isSure (FU := FU) (pl := pl) (nm := nm) (rd := rd) hF hC hW p6 (k := h * 8 + i) (set := runsS P (andn s (seeH P h i)) h i 0) (by omega) (runsS_ltp hW) h5 (lv_b (P := P) (h := h) (i := i) (by omega)) hb
        have im : isM P (fun s => (lv P r h i s).isSome) h i s = alD P (fun s => (lv P r h i s).isSome) (seeH P h i) (runsS P (andn s (seeH P h i)) h i 0) := by
          unfold isM
          rw [y, Bool.true_and]
        rw [if_neg (by rw [cnd]; exact fun h => h y), fRb_31_4, fIb_31, h5, e2, aIb_34 (by omega), h34 _ (by omega), show rc 1 (some 31) = some 31 from rfl, w_bind, dn ds]
        by_cases x : alD P (fun s => (lv P r h i s).isSome) (seeH P h i) (runsS P (andn s (seeH P h i)) h i 0) = true
        · rw [b01_pos x, if_neg (by decide), fRb_31_3, sIb_33 (by omega)]
          generalize hT : up2 I 33 ((h * 8 + i) * 64 + s) (nI (r + 1)) = T
          have tq : ∀ q, q ≠ 33 → T q = I q := fun q hq => by rw [← hT, up2_ne hq]
          have tj : ∀ j, j ≠ (h * 8 + i) * 64 + s → T 33 j = I 33 j := fun j hj => by rw [← hT, up2_i hj]
          obtain ⟨I', a1, a2, a3, a4⟩ := ih (s + 1) T G (by omega) (by omega) (hC.congr (fun q _ _ => tq q (by omega))) (by rw [tq 31 (by decide), h5]) (fun s' hs' => by rw [tq 32 (by decide)]; exact hb s' hs') (fun s' hs' => by rw [tq 34 (by decide)]; exact h34 s' hs') (fun s' s1 s2 => by rw [tj _ (by omega)]; exact hm s' (by omega) s2)
          refine ⟨I', a1, fun s' s1 s2 => ?_, fun j hj => by rw [a3 j (by omega), tj j (by omega)], fun q hq => (a4 q hq).trans (tq q hq)⟩
          by_cases w : s' = s
          · subst w
            rw [a3 _ (by omega), ← hT, up2_s, sm, im, if_pos x]
          · exact a2 s' (by omega) s2
        · rw [b01_neg x, if_pos (by decide)]
          exact skip (by rw [sm, im, if_neg x, z])
      · rw [if_pos (by rw [cnd]; exact y)]
        refine skip ?_
        rw [sm, z, if_neg]
        unfold isM
        rw [Bool.and_eq_true]
        exact fun h => y h.1
    · rw [if_pos (by rw [li_0, w_eq (by omega) (by omega)]; exact z)]
      refine skip ?_
      show (if mv P r h i s ≠ 0 then _ else _) = _
      rw [if_pos z]
theorem c_findMoved (hF : 99999999 ≤ FU) (hC : PlC 1 P I) (hW : WfP P) (p6 : Pp P ≤ 6) {r h i : Nat} (hr : r < 12) (hpr : isPr P h i = true) (hb : HB P r h i I) (hm : ∀ s, s < 2 ^ Pp P → I 33 ((h * 8 + i) * 64 + s) = nI (mv P r h i s)) : ∃ I', fX1_findMoved FU 31 (nI (h * 8 + i)) (nI (r + 1)) (I, R0 pl nm (some 1) rd) = some (I', R0 pl nm (some 1) rd) ∧ (∀ s, s < 2 ^ Pp P → I' 33 ((h * 8 + i) * 64 + s) = nI (mv P (r + 1) h i s)) ∧ (∀ j, j < (h * 8 + i) * 64 ∨ (h * 8 + i) * 64 + 64 ≤ j → I' 33 j = I 33 j) ∧ (∀ q, q ≠ 31 → q ≠ 33 → q ≠ 34 → I' q = I q) ∧ (∀ j, j ≠ 5 → I' 31 j = I 31 j) := by
  have hc : (1 : Nat) = 1 ∨ (1 : Nat) = 9 := Or.inl rfl
  have hp := wf_p hW
  have p64 : 2 ^ Pp P ≤ 64 := Nat.pow_le_pow_right (n := 2) (by decide) p6
  have p1 : 1 ≤ 2 ^ Pp P := Nat.one_le_two_pow
  have pr := isPr_iff.mp hpr
  have hh : h < 8 := by omega
  have hi : i < 8 := by omega
  have sl := seeH_lt hW pr.1 pr.2.1
  have d1 := c_seenFrom (FU := FU) (pl := pl) (nm := nm) (hd := some 1) (rd := rd) hF hc hC hW pr.1 pr.2.1
  generalize hT : up2 I 31 5 (nI (seeH P h i)) = T
  have tq : ∀ q, q ≠ 31 → T q = I q := fun q hq => by rw [← hT, up2_ne hq]
  obtain ⟨I1, a1, a2, a3⟩ := c_reached (FU := FU) (pl := pl) (nm := nm) (rd := rd) (I := T) hF (hC.congr (fun q _ _ => tq q (by omega))) hW p6 hh hi
  have hC1 : PlC 1 P I1 := hC.congr (fun q _ _ => by rw [a3 q (by omega), tq q (by omega)])
  have h5 : I1 31 5 = nI (seeH P h i) := by rw [a3 31 (by decide), ← hT, up2_s]
  have hb1 : HB P r h i I1 := fun s hs => by rw [a3 32 (by decide), tq 32 (by decide)]; exact hb s hs
  have b1 := c_moved22 (FU := FU) (pl := pl) (nm := nm) (rd := rd) hF hC1 hW p6 (by omega) hh hi h5 sl hb1 a2 (rn := nI (r + 1))
  obtain ⟨I2, c1, c2, c3, c4⟩ := c_moved79 (FU := FU) (pl := pl) (nm := nm) (rd := rd) hF hW p6 hr hh hi sl (2 ^ Pp P) 0 I1 FU (by omega) (by omega) hC1 h5 hb1 a2 (fun s _ hs => by rw [a3 33 (by decide), tq 33 (by decide)]; exact hm s hs)
  refine ⟨I2, ?_, fun s hs => c2 s (Nat.zero_le s) hs, fun j hj => ?_, fun q q1 q2 q3 => ?_, fun j hj => ?_⟩
  · unfold fX1_findMoved
    rw [fRb_31_1, show rc 3 (some 1) = some 1 from rfl, w_bind, dn d1, pIb_31, hT, show rc 1 (some 31) = some 31 from rfl, w_bind, dn1 a1, li_0, b1, c1]
  · rw [c3 j (by omega), a3 33 (by decide), tq 33 (by decide)]
  · rw [c4 q q2, a3 q q3, tq q q1]
  · rw [c4 31 (by decide), a3 31 (by decide), ← hT, up2_i hj]
end Hid2
