/-! the class's links: all moves as edges, and how many the runner has -/
section Link
variable {FU c : Nat} {P : Pln} {I J I0 : Nat → Nat → Int32} {pl nm hd rd : Option Nat}
theorem cnt_flip {p p' : Nat → Bool} {n m : Nat} (hm : m < n) (h : ∀ i, i < n → i ≠ m → p' i = p i) (h0 : p m = false) (h1 : p' m = true) : cnt p' n = cnt p n + 1 := by
  have key : ∀ k, k ≤ n → cnt p' k = cnt p k + if m < k then 1 else 0 := by
    intro k hk
    induction k with
    | zero => rfl
    | succ k ih =>
      unfold cnt
      rw [ih (by omega)]
      by_cases z : k = m
      · subst z
        rw [h0, h1]
        simp
      · rw [h k (by omega) z]
        by_cases y : m < k
        · simp only [if_pos y, if_pos (show m < k + 1 by omega)]; omega
        · simp only [if_neg y, if_neg (show ¬ m < k + 1 by omega)]; omega
  rw [key n (Nat.le_refl _), if_pos hm]
theorem posS_Vd {s : Sd} (h : Vd P s) : Vd P (posS s) := by
  refine ⟨h.1, h.2.1, h.2.2.1, ?_⟩
  have := h.2.2.2
  show 0 < shS P
  omega
theorem bhd_some {s : Sd} {m : Nat} : (bhd P s m).isSome = true ↔ opnM P m s.2.2.2.2 = true ∧ (tgO P (posS s) m).isSome = true := by
  unfold bhd tgO posS
  simp only
  by_cases h1 : opnM P m s.2.2.2.2 = true
  · by_cases h2 : s.2.2.2.1 = 1
    · simp [h1, h2]
    · simp [h1, h2]
  · simp [h1]
theorem okE_of {s : Sd} {m : Nat} (h : Vd P s) (hn : nmet s) (hm : m ≤ 32) (hb : (bhd P s m).isSome = true) : okE P (posS s) m := ⟨posS_Vd h, rfl, hn, hm, (bhd_some.mp hb).2⟩
def ML (P : Pln) (D : Sd → Nat → Bool) (I : Nat → Nat → Int32) : Prop := ∀ s, Vd P s → s.2.2.2.1 = 1 → nmet s → I 19 (cC s) = nI (cnt (fun m => (bhd P s m).isSome && D (posS s) m) 33)
def LI (P : Pln) (I0 : Nat → Nat → Int32) (D : Sd → Nat → Bool) (g : Nat → Sd × Nat) (ne : Nat) (I : Nat → Nat → Int32) : Prop := EI P D g ne I ∧ (∀ k, k ≠ 17 → k ≠ 19 → k ≠ 21 → k ≠ 22 → k ≠ 23 → k ≠ 24 → I k = I0 k) ∧ (∀ i, i ≠ 13 → I 17 i = I0 17 i) ∧ ML P D I
theorem cnt_D {D D' : Sd → Nat → Bool} {s : Sd} (hs : Vd P s) (hn : nmet s) (h : ∀ m, okE P (posS s) m → D (posS s) m = D' (posS s) m) : cnt (fun m => (bhd P s m).isSome && D (posS s) m) 33 = cnt (fun m => (bhd P s m).isSome && D' (posS s) m) 33 := by
  apply cnt_congr
  intro m hm
  cases e : (bhd P s m).isSome
  · rfl
  · rw [h m (okE_of hs hn (by omega) e)]
theorem LI.mono {D D' : Sd → Nat → Bool} {g : Nat → Sd × Nat} {ne : Nat} (h : LI P I0 D g ne I) (hD : ∀ q m, okE P q m → D q m = D' q m) : LI P I0 D' g ne I := by
  obtain ⟨h1, h2, h3, h4⟩ := h
  refine ⟨h1.mono hD, h2, h3, fun s hs ht hn => ?_⟩
  rw [h4 s hs ht hn, cnt_D hs hn (fun m ho => hD _ m ho)]
/-- an edge of the hunters more -/
theorem c_edgeH (hW : WfP P) {D D' : Sd → Nat → Bool} {g : Nat → Sd × Nat} {ne m t : Nat} {q : Sd} (h : LI P I0 D g ne I) (hne : ne < 3776) (ho : okE P q m) (hq : q.2.2.2.1 = 0) (ht : tgO P q m = some t) (hd0 : D q m = false) (hD : ∀ q' m', okE P q' m' → (D' q' m' = true ↔ D q' m' = true ∨ (q', m') = (q, m))) : ∃ J, fX6_addEdge FU 17 (nI (cC q)) (nI t) (oI (psd P m)) (I, R0 pl nm hd rd) = some (J, R0 pl nm hd rd) ∧ LI P I0 D' (va_up g ne (q, m)) (ne + 1) J := by
  obtain ⟨h1, h2, h3, h4⟩ := h
  obtain ⟨J, j1, j2, j3, j4⟩ := c_addEdge (FU := FU) (pl := pl) (nm := nm) (hd := hd) (rd := rd) hW h1 hne ho ht hd0 hD
  refine ⟨J, j1, j2, fun k k1 k2 k3 k4 k5 k6 => by rw [j3 k k1 k3 k4 k5 k6]; exact h2 k k1 k2 k3 k4 k5 k6, fun i hi => by rw [j4 i hi]; exact h3 i hi, fun s hs ht' hn => ?_⟩
  rw [j3 19 (by decide) (by decide) (by decide) (by decide) (by decide), h4 s hs ht' hn]
  congr 1
  apply cnt_D hs hn
  intro m' ho'
  have e := hD _ m' ho'
  have e2 : (posS s, m') ≠ (q, m) := by
    intro z
    have z1 := congrArg (fun x => x.1.2.2.2.1) z
    simp only [posS] at z1
    omega
  cases e3 : D (posS s) m'
  · cases e4 : D' (posS s) m'
    · rfl
    · rcases e.mp e4 with z | z
      · rw [e3] at z; cases z
      · exact absurd z e2
  · exact (e.mpr (Or.inl e3)).symm
/-- the class counts a move of the runner -/
theorem c_countMove (hF : 99999999 ≤ FU) (hW : WfP P) (hT : ShT P I) (h14 : I 17 14 = nI (shS P)) {m x : Nat} (hm : m ≤ 32) (hw : m ≠ 0 → (m - 1) % 16 < Pn P) (hx : x < 1024) : ∃ J, fX6_countMove FU 17 (nI x) (oI (psd P m)) (I, R0 pl nm hd rd) = some (J, R0 pl nm hd rd) ∧ (∀ k, k ≠ 19 → J k = I k) ∧ (∀ b y, y < 1024 → b < 9 → J 19 (b * 1024 + y) = if y = x ∧ b < shS P ∧ opnM P m b = true then I 19 (b * 1024 + y) + nI 1 else I 19 (b * 1024 + y)) := by
  have h9 := shS_le P
  have h2 := wf_sh hW
  -- the row of this move
  have row : ∃ q, q ≤ 2 ∧ (oI (psd P m) + nI 1) * nI 9 = nI (q * 9) ∧ ∀ b, b < shS P → ∃ v, v < 2 ^ 31 ∧ I 25 (q * 9 + b) = if opnM P m b = true then nI v else mI 1 := by
    by_cases m0 : m = 0
    · refine ⟨0, by omega, ?_, fun b hb => ⟨shB b none 0, ?_, ?_⟩⟩
      · unfold psd
        rw [if_pos m0]
        decide
      · have := shB_lt (sh := b) (k := none) (f := 0) (by omega) (by omega); omega
      · rw [Nat.zero_mul, Nat.zero_add, hT.1 b hb]
        simp [opnM, m0]
    · cases e : shO P ((m - 1) % 16) with
      | none =>
        refine ⟨0, by omega, ?_, fun b hb => ⟨shB b none 0, ?_, ?_⟩⟩
        · unfold psd
          rw [if_neg m0, e]
          decide
        · have := shB_lt (sh := b) (k := none) (f := 0) (by omega) (by omega); omega
        · rw [Nat.zero_mul, Nat.zero_add, hT.1 b hb]
          have : opn P ((m - 1) % 16) b = true := by unfold opn; rw [e]
          simp [opnM, this]
      | some k =>
        have hk := shO_lt (hw m0) e
        refine ⟨k + 1, by omega, ?_, fun b hb => ⟨shB b (some k) (shF (Pk P ((m - 1) % 16))), ?_, ?_⟩⟩
        · unfold psd
          rw [if_neg m0, e]
          show (nI k + nI 1) * nI 9 = _
          rw [nI_add, pk_mul]
        · have := shB_lt (sh := b) (k := some k) (f := shF (Pk P ((m - 1) % 16))) (by omega) (shF_le _); omega
        · rw [hT.2 _ k b (hw m0) e hb]
          have : opnM P m b = opn P ((m - 1) % 16) b := by
            unfold opnM
            have : (m == 0) = false := by simpa using m0
            rw [this, Bool.false_or]
          rw [this]
  obtain ⟨q, hq, hq2, hr⟩ := row
  have st : ∀ i (s : Int32 × Mem), i < shS P → (∃ T, s = (nI i, (T, R0 pl nm hd rd)) ∧ (∀ k, k ≠ 19 → T k = I k) ∧ (∀ b y, y < 1024 → b < 9 → T 19 (b * 1024 + y) = if y = x ∧ b < i ∧ opnM P m b = true then I 19 (b * 1024 + y) + nI 1 else I 19 (b * 1024 + y))) → ∃ s', (∃ T, s' = (nI (i + 1), (T, R0 pl nm hd rd)) ∧ (∀ k, k ≠ 19 → T k = I k) ∧ (∀ b y, y < 1024 → b < 9 → T 19 (b * 1024 + y) = if y = x ∧ b < i + 1 ∧ opnM P m b = true then I 19 (b * 1024 + y) + nI 1 else I 19 (b * 1024 + y))) ∧ ∀ F, fX6_countMove_L10 FU 17 (nI x) (nI (q * 9)) (F + 1) s.1 s.2 = fX6_countMove_L10 FU 17 (nI x) (nI (q * 9)) F s'.1 s'.2 := by
    rintro i _ hi ⟨T, rfl, f1, f2⟩
    obtain ⟨v, hv, hv2⟩ := hr i hi
    have h14' : T 17 14 = nI (shS P) := by rw [f1 17 (by decide), h14]
    have h25 : T 25 (q * 9 + i) = if opnM P m i = true then nI v else mI 1 := by rw [f1 25 (by decide), hv2]
    by_cases z : opnM P m i = true
    · rw [if_pos z] at h25
      refine ⟨(nI (i + 1), (up2 T 19 (i * 1024 + x) (T 19 (i * 1024 + x) + nI 1), R0 pl nm hd rd)), ⟨_, rfl, fun k hk => by rw [up2_ne hk, f1 k hk], fun b y hy hb => ?_⟩, fun F => ?_⟩
      · by_cases y1 : y = x ∧ b = i
        · obtain ⟨y2, y3⟩ := y1
          subst y2 y3
          rw [up2_s, f2 b y hy hb, if_neg (by omega), if_pos ⟨rfl, by omega, z⟩]
        · rw [up2_i (by omega), f2 b y hy hb]
          by_cases y2 : y = x ∧ b < i ∧ opnM P m b = true
          · rw [if_pos y2, if_pos ⟨y2.1, by omega, y2.2.2⟩]
          · rw [if_neg y2, if_neg (fun y3 => y2 ⟨y3.1, by omega, y3.2.2⟩)]
      · simp only
        rw [fX6_countMove_L10]
        unfold fX6_countMove_b48
        simp (discharger := omega) only [li_0, li_1, li_2, li_3, li_4, li_5, li_6, li_7, li_8, li_9, li_10, li_11, li_12, li_13, li_14, li_15, li_16, li_17, li_18, li_19, li_20, li_21, li_22, li_23, li_24, li_25, li_26, li_27, li_28, li_29, li_30, li_31, li_32, li_33, li_34, li_35, li_36, li_37, li_38, li_39, li_40, li_41, li_42, li_43, li_44, li_45, li_46, li_47, li_48, li_49, li_50, li_51, li_52, li_53, li_54, li_55, li_56, li_57, li_58, li_59, li_60, li_61, li_62, li_63, li_64, li_65, li_66, li_67, li_68, li_69, li_70, li_71, li_72, li_73, li_74, li_75, li_76, li_77, li_78, li_79, li_80, li_81, li_82, li_83, li_84, li_85, li_86, li_87, li_88, li_89, li_90, li_91, li_92, li_93, li_94, li_95, li_96, li_97, li_98, li_99, li_100, li_101, li_102, li_103, li_104, li_105, li_106, li_107, li_108, li_109, li_110, li_111, li_112, li_113, li_114, li_115, li_116, li_117, li_118, li_119, li_120, li_121, li_122, li_123, li_124, li_125, li_126, li_127, li_128, li_144, li_150, li_200, li_255, li_384, li_512, li_999, li_1000, li_1024, li_1152, li_1920, li_3776, li_4096, li_9216, li_10000, li_100000, li_1073741824, li_m, ↓rcb_17, ↓fIb_17, ↓pIb_17, ↓fRb_17_5, ↓fRb_17_6, ↓fRb_17_7, ↓fRb_17_9, ↓fRb_17_10, ↓fRb_17_11, ↓fRb_17_12, ↓fRb_17_15, ↓fRb_17_16, ↓fRb_17_17, ↓fRb_17_0, ↓aIb_18, ↓sIb_18, ↓aIb_19, ↓sIb_19, ↓aIb_20, ↓sIb_20, ↓aIb_21, ↓sIb_21, ↓aIb_22, ↓sIb_22, ↓aIb_23, ↓sIb_23, ↓aIb_24, ↓sIb_24, ↓aIb_25, ↓sIb_25, ↓aIb_26, ↓sIb_26, ↓aIb_27, ↓sIb_27, r0_17_5, r0_17_6, r0_17_7, r0_17_9, r0_17_10, r0_17_11, r0_17_12, r0_17_15, r0_17_16, r0_17_17, r0_17_0, rc_17, fI_17, fR_17, pI_17, pR_17, aI_18, sI_18, aI_19, sI_19, aI_20, sI_20, aI_21, sI_21, aI_22, sI_22, aI_23, sI_23, aI_24, sI_24, aI_25, sI_25, aI_26, sI_26, aI_27, sI_27, w_bind, w_bd2, b01_eq0, b01_ok, b01_ok2, w_lt, w_le, w_eq, w_mlt, w_mle, w_ltm, w_lem, w_meq, w_eqm, w_mm, w_mmlt, w_mmle, nI_add, w_sub, pk_mul, w_div, w_rem, w_and, w_or, w_shr, w_shl1, w_a31, w_andn, ↓reduceIte, Nat.reduceAdd, Nat.reduceEqDiff, Nat.zero_lt_one, Nat.not_lt_zero, Nat.one_ne_zero, Nat.zero_ne_one, not_true_eq_false, not_false_eq_true, Bool.false_eq_true, Bool.true_eq_false, h14', Nat.not_le.mpr hi, h25]
    · rw [if_neg z] at h25
      refine ⟨(nI (i + 1), (T, R0 pl nm hd rd)), ⟨_, rfl, f1, fun b y hy hb => ?_⟩, fun F => ?_⟩
      · rw [f2 b y hy hb]
        by_cases y2 : y = x ∧ b < i ∧ opnM P m b = true
        · rw [if_pos y2, if_pos ⟨y2.1, by omega, y2.2.2⟩]
        · rw [if_neg y2, if_neg (fun y3 => y2 ⟨y3.1, ?_, y3.2.2⟩)]
          have : b ≠ i := fun e => z (e ▸ y3.2.2)
          omega
      · simp only
        rw [fX6_countMove_L10]
        unfold fX6_countMove_b48
        simp (discharger := omega) only [li_0, li_1, li_2, li_3, li_4, li_5, li_6, li_7, li_8, li_9, li_10, li_11, li_12, li_13, li_14, li_15, li_16, li_17, li_18, li_19, li_20, li_21, li_22, li_23, li_24, li_25, li_26, li_27, li_28, li_29, li_30, li_31, li_32, li_33, li_34, li_35, li_36, li_37, li_38, li_39, li_40, li_41, li_42, li_43, li_44, li_45, li_46, li_47, li_48, li_49, li_50, li_51, li_52, li_53, li_54, li_55, li_56, li_57, li_58, li_59, li_60, li_61, li_62, li_63, li_64, li_65, li_66, li_67, li_68, li_69, li_70, li_71, li_72, li_73, li_74, li_75, li_76, li_77, li_78, li_79, li_80, li_81, li_82, li_83, li_84, li_85, li_86, li_87, li_88, li_89, li_90, li_91, li_92, li_93, li_94, li_95, li_96, li_97, li_98, li_99, li_100, li_101, li_102, li_103, li_104, li_105, li_106, li_107, li_108, li_109, li_110, li_111, li_112, li_113, li_114, li_115, li_116, li_117, li_118, li_119, li_120, li_121, li_122, li_123, li_124, li_125, li_126, li_127, li_128, li_144, li_150, li_200, li_255, li_384, li_512, li_999, li_1000, li_1024, li_1152, li_1920, li_3776, li_4096, li_9216, li_10000, li_100000, li_1073741824, li_m, ↓rcb_17, ↓fIb_17, ↓pIb_17, ↓fRb_17_5, ↓fRb_17_6, ↓fRb_17_7, ↓fRb_17_9, ↓fRb_17_10, ↓fRb_17_11, ↓fRb_17_12, ↓fRb_17_15, ↓fRb_17_16, ↓fRb_17_17, ↓fRb_17_0, ↓aIb_18, ↓sIb_18, ↓aIb_19, ↓sIb_19, ↓aIb_20, ↓sIb_20, ↓aIb_21, ↓sIb_21, ↓aIb_22, ↓sIb_22, ↓aIb_23, ↓sIb_23, ↓aIb_24, ↓sIb_24, ↓aIb_25, ↓sIb_25, ↓aIb_26, ↓sIb_26, ↓aIb_27, ↓sIb_27, r0_17_5, r0_17_6, r0_17_7, r0_17_9, r0_17_10, r0_17_11, r0_17_12, r0_17_15, r0_17_16, r0_17_17, r0_17_0, rc_17, fI_17, fR_17, pI_17, pR_17, aI_18, sI_18, aI_19, sI_19, aI_20, sI_20, aI_21, sI_21, aI_22, sI_22, aI_23, sI_23, aI_24, sI_24, aI_25, sI_25, aI_26, sI_26, aI_27, sI_27, w_bind, w_bd2, b01_eq0, b01_ok, b01_ok2, w_lt, w_le, w_eq, w_mlt, w_mle, w_ltm, w_lem, w_meq, w_eqm, w_mm, w_mmlt, w_mmle, nI_add, w_sub, pk_mul, w_div, w_rem, w_and, w_or, w_shr, w_shl1, w_a31, w_andn, ↓reduceIte, Nat.reduceAdd, Nat.reduceEqDiff, Nat.zero_lt_one, Nat.not_lt_zero, Nat.one_ne_zero, Nat.zero_ne_one, not_true_eq_false, not_false_eq_true, Bool.false_eq_true, Bool.true_eq_false, h14', Nat.not_le.mpr hi, h25]
  obtain ⟨s', ⟨T, rfl, g1, g2⟩, hl⟩ := lpI (fun F (s : Int32 × Mem) => fX6_countMove_L10 FU 17 (nI x) (nI (q * 9)) F s.1 s.2) _ (shS P) st (shS P) 0 (nI 0, (I, R0 pl nm hd rd)) FU (by omega) (by omega) ⟨I, rfl, fun k _ => rfl, fun b y hy hb => by rw [if_neg (by omega)]⟩
  simp only at hl
  refine ⟨T, ?_, g1, g2⟩
  have h14' : T 17 14 = nI (shS P) := by rw [g1 17 (by decide), h14]
  obtain ⟨G, hG⟩ : ∃ G, FU - shS P = G + 1 := ⟨FU - shS P - 1, by omega⟩
  unfold fX6_countMove
  simp (discharger := omega) only [li_0, li_1, li_2, li_3, li_4, li_5, li_6, li_7, li_8, li_9, li_10, li_11, li_12, li_13, li_14, li_15, li_16, li_17, li_18, li_19, li_20, li_21, li_22, li_23, li_24, li_25, li_26, li_27, li_28, li_29, li_30, li_31, li_32, li_33, li_34, li_35, li_36, li_37, li_38, li_39, li_40, li_41, li_42, li_43, li_44, li_45, li_46, li_47, li_48, li_49, li_50, li_51, li_52, li_53, li_54, li_55, li_56, li_57, li_58, li_59, li_60, li_61, li_62, li_63, li_64, li_65, li_66, li_67, li_68, li_69, li_70, li_71, li_72, li_73, li_74, li_75, li_76, li_77, li_78, li_79, li_80, li_81, li_82, li_83, li_84, li_85, li_86, li_87, li_88, li_89, li_90, li_91, li_92, li_93, li_94, li_95, li_96, li_97, li_98, li_99, li_100, li_101, li_102, li_103, li_104, li_105, li_106, li_107, li_108, li_109, li_110, li_111, li_112, li_113, li_114, li_115, li_116, li_117, li_118, li_119, li_120, li_121, li_122, li_123, li_124, li_125, li_126, li_127, li_128, li_144, li_150, li_200, li_255, li_384, li_512, li_999, li_1000, li_1024, li_1152, li_1920, li_3776, li_4096, li_9216, li_10000, li_100000, li_1073741824, li_m]
  rw [hq2, hl, hG, fX6_countMove_L10]
  simp (discharger := omega) only [li_0, li_1, li_2, li_3, li_4, li_5, li_6, li_7, li_8, li_9, li_10, li_11, li_12, li_13, li_14, li_15, li_16, li_17, li_18, li_19, li_20, li_21, li_22, li_23, li_24, li_25, li_26, li_27, li_28, li_29, li_30, li_31, li_32, li_33, li_34, li_35, li_36, li_37, li_38, li_39, li_40, li_41, li_42, li_43, li_44, li_45, li_46, li_47, li_48, li_49, li_50, li_51, li_52, li_53, li_54, li_55, li_56, li_57, li_58, li_59, li_60, li_61, li_62, li_63, li_64, li_65, li_66, li_67, li_68, li_69, li_70, li_71, li_72, li_73, li_74, li_75, li_76, li_77, li_78, li_79, li_80, li_81, li_82, li_83, li_84, li_85, li_86, li_87, li_88, li_89, li_90, li_91, li_92, li_93, li_94, li_95, li_96, li_97, li_98, li_99, li_100, li_101, li_102, li_103, li_104, li_105, li_106, li_107, li_108, li_109, li_110, li_111, li_112, li_113, li_114, li_115, li_116, li_117, li_118, li_119, li_120, li_121, li_122, li_123, li_124, li_125, li_126, li_127, li_128, li_144, li_150, li_200, li_255, li_384, li_512, li_999, li_1000, li_1024, li_1152, li_1920, li_3776, li_4096, li_9216, li_10000, li_100000, li_1073741824, li_m, ↓rcb_17, ↓fIb_17, ↓pIb_17, ↓fRb_17_5, ↓fRb_17_6, ↓fRb_17_7, ↓fRb_17_9, ↓fRb_17_10, ↓fRb_17_11, ↓fRb_17_12, ↓fRb_17_15, ↓fRb_17_16, ↓fRb_17_17, ↓fRb_17_0, ↓aIb_18, ↓sIb_18, ↓aIb_19, ↓sIb_19, ↓aIb_20, ↓sIb_20, ↓aIb_21, ↓sIb_21, ↓aIb_22, ↓sIb_22, ↓aIb_23, ↓sIb_23, ↓aIb_24, ↓sIb_24, ↓aIb_25, ↓sIb_25, ↓aIb_26, ↓sIb_26, ↓aIb_27, ↓sIb_27, r0_17_5, r0_17_6, r0_17_7, r0_17_9, r0_17_10, r0_17_11, r0_17_12, r0_17_15, r0_17_16, r0_17_17, r0_17_0, rc_17, fI_17, fR_17, pI_17, pR_17, aI_18, sI_18, aI_19, sI_19, aI_20, sI_20, aI_21, sI_21, aI_22, sI_22, aI_23, sI_23, aI_24, sI_24, aI_25, sI_25, aI_26, sI_26, aI_27, sI_27, w_bind, w_bd2, b01_eq0, b01_ok, b01_ok2, w_lt, w_le, w_eq, w_mlt, w_mle, w_ltm, w_lem, w_meq, w_eqm, w_mm, w_mmlt, w_mmle, nI_add, w_sub, pk_mul, w_div, w_rem, w_and, w_or, w_shr, w_shl1, w_a31, w_andn, ↓reduceIte, Nat.reduceAdd, Nat.reduceEqDiff, Nat.zero_lt_one, Nat.not_lt_zero, Nat.one_ne_zero, Nat.zero_ne_one, not_true_eq_false, not_false_eq_true, Bool.false_eq_true, Bool.true_eq_false, h14', Nat.le_refl]
/-- an edge of the runner more, and its counts -/
theorem c_edgeR (hF : 99999999 ≤ FU) (hW : WfP P) (hT : ShT P I0) (h14 : I0 17 14 = nI (shS P)) {D D' : Sd → Nat → Bool} {g : Nat → Sd × Nat} {ne m t : Nat} {q : Sd} (h : LI P I0 D g ne I) (hne : ne < 3776) (ho : okE P q m) (hq : q.2.2.2.1 = 1) (ht : tgO P q m = some t) (hw : m ≠ 0 → (m - 1) % 16 < Pn P) (hd0 : D q m = false) (hD : ∀ q' m', okE P q' m' → (D' q' m' = true ↔ D q' m' = true ∨ (q', m') = (q, m))) : ∃ J J', fX6_addEdge FU 17 (nI (cC q)) (nI t) (oI (psd P m)) (I, R0 pl nm hd rd) = some (J, R0 pl nm hd rd) ∧ fX6_countMove FU 17 (nI (cC q)) (oI (psd P m)) (J, R0 pl nm hd rd) = some (J', R0 pl nm hd rd) ∧ LI P I0 D' (va_up g ne (q, m)) (ne + 1) J' := by
  have h9 := shS_le P
  obtain ⟨h1, h2, h3, h4⟩ := h
  obtain ⟨J, j1, j2, j3, j4⟩ := c_addEdge (FU := FU) (pl := pl) (nm := nm) (hd := hd) (rd := rd) hW h1 hne ho ht hd0 hD
  have hq0 := ho.2.1
  have hin := Vd_in hW ho.1
  have hx : cC q < 1024 := by
    obtain ⟨a1, a2, a3, a4, a5⟩ := hin
    unfold cC
    rw [hq0]
    omega
  have hTJ : ShT P J := by
    have e : J 25 = I0 25 := by rw [j3 25 (by decide) (by decide) (by decide) (by decide) (by decide), h2 25 (by decide) (by decide) (by decide) (by decide) (by decide) (by decide)]
    unfold ShT
    rw [e]
    exact hT
  have h14J : J 17 14 = nI (shS P) := by rw [j4 14 (by decide), h3 14 (by decide), h14]
  obtain ⟨J', i1, i2, i3⟩ := c_countMove (FU := FU) (pl := pl) (nm := nm) (hd := hd) (rd := rd) hF hW hTJ h14J ho.2.2.2.1 hw hx
  refine ⟨J, J', j1, i1, j2.congr (by rw [i2 17 (by decide)]) (i2 21 (by decide)) (i2 22 (by decide)) (i2 23 (by decide)) (i2 24 (by decide)), fun k k1 k2 k3 k4 k5 k6 => by rw [i2 k k2, j3 k k1 k3 k4 k5 k6]; exact h2 k k1 k2 k3 k4 k5 k6, fun i hi => by rw [i2 17 (by decide), j4 i hi]; exact h3 i hi, fun s hs hs1 hn => ?_⟩
  have hsi := Vd_in hW hs
  have e1 : cC s = s.2.2.2.2 * 1024 + cC (posS s) := by
    unfold cC posS
    simp only
    omega
  have e2 : cC (posS s) < 1024 := by
    obtain ⟨a1, a2, a3, a4, a5⟩ := hsi
    unfold cC posS
    simp only
    omega
  have e3 := i3 s.2.2.2.2 (cC (posS s)) e2 (by have := hs.2.2.2; omega)
  rw [← e1, j3 19 (by decide) (by decide) (by decide) (by decide) (by decide), h4 s hs hs1 hn] at e3
  rw [e3]
  by_cases z : posS s = q
  · rw [z]
    have hmo : (m ≤ 32) := ho.2.2.2.1
    by_cases y : opnM P m s.2.2.2.2 = true
    · rw [if_pos ⟨rfl, hs.2.2.2, y⟩, nI_add]
      congr 1
      symm
      apply cnt_flip (m := m) (by omega)
      · intro m' hm' hne'
        cases e : (bhd P s m').isSome
        · rfl
        · rw [Bool.true_and, Bool.true_and]
          have ho' : okE P q m' := z ▸ okE_of hs hn (by omega) e
          have d := hD q m' ho'
          cases e3 : D q m'
          · cases e4 : D' q m'
            · rfl
            · rcases d.mp e4 with w | w
              · rw [e3] at w; cases w
              · exact absurd (congrArg (fun x => x.2) w) hne'
          · exact d.mpr (Or.inl e3)
      · rw [hd0, Bool.and_false]
      · rw [(hD q m ho).mpr (Or.inr rfl), Bool.and_true, bhd_some, z]
        exact ⟨y, ho.2.2.2.2⟩
    · rw [if_neg (fun w => y w.2.2)]
      congr 1
      apply cnt_congr
      intro m' hm'
      cases e : (bhd P s m').isSome
      · rfl
      · rw [Bool.true_and, Bool.true_and]
        have ho' : okE P q m' := z ▸ okE_of hs hn (by omega) e
        have d := hD q m' ho'
        have hne' : m' ≠ m := by
          intro w
          rw [w, bhd_some] at e
          exact y e.1
        cases e3 : D q m'
        · cases e4 : D' q m'
          · rfl
          · rcases d.mp e4 with w | w
            · rw [e3] at w; cases w
            · exact absurd (congrArg (fun x => x.2) w) hne'
        · exact (d.mpr (Or.inl e3)).symm
  · have z2 : cC (posS s) ≠ cC q := by
      intro w
      apply z
      obtain ⟨a1, a2, a3, a4, a5⟩ := hsi
      obtain ⟨b1, b2, b3, b4, b5⟩ := hin
      obtain ⟨q1, q2, q3, q4, q5⟩ := q
      unfold cC posS at w
      unfold posS
      simp only at w hq0 b1 b2 b3 b4 b5 ⊢
      rw [Prod.mk.injEq, Prod.mk.injEq, Prod.mk.injEq, Prod.mk.injEq]
      omega
    rw [if_neg (fun w => z2 w.1)]
    congr 1
    apply cnt_D hs hn
    intro m' ho'
    have d := hD _ m' ho'
    have e2 : (posS s, m') ≠ (q, m) := fun w => z (congrArg (fun x => x.1) w)
    cases e3 : D (posS s) m'
    · cases e4 : D' (posS s) m'
      · rfl
      · rcases d.mp e4 with w | w
        · rw [e3] at w; cases w
        · exact absurd w e2
    · exact (d.mpr (Or.inl e3)).symm
end Link
