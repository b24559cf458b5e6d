/-! the class's solve: the rows of what is shut -/
section CS2
variable {FU c : Nat} {P : Pln} {I J : Nat → Nat → Int32} {pl nm hd rd : Option Nat}
/-- a loop whatever follows -/
theorem lpK {κ σ β : Type} (L : κ → Nat → σ → Option β) (Inv : Nat → σ → Prop) (b : Nat) (step : ∀ i s, i < b → Inv i s → ∃ s', Inv (i + 1) s' ∧ ∀ K F, L K (F + 1) s = L K F s') : ∀ n a s F, n + a = b → n ≤ F → Inv a s → ∃ s', Inv b s' ∧ ∀ K, L K F s = L K (F - n) s' := by
  intro n
  induction n with
  | zero =>
    intro a s F h _ hi
    have : a = b := by omega
    subst this
    exact ⟨s, hi, fun K => rfl⟩
  | succ n ih =>
    intro a s F h hF hi
    obtain ⟨F, rfl⟩ : ∃ G, F = G + 1 := ⟨F - 1, by omega⟩
    obtain ⟨s', h1, h2⟩ := step a s (by omega) hi
    obtain ⟨s'', h3, h4⟩ := ih (a + 1) s' F (by omega) (by omega) h1
    refine ⟨s'', h3, fun K => ?_⟩
    rw [h2 K F, h4 K]
    congr 1
    omega
theorem mk_s (p : Nat → Bool) (n : Nat) : mk p (n + 1) = mk p n ||| if p n = true then 2 ^ n else 0 := rfl
def rkM (P : Pln) (q i : Nat) (J : Nat → Nat → Int32) : Nat → Nat → Int32 := match tT P q i with
  | none => up2 J 25 (q * 9 + i) (mI 1)
  | some v => up2 (up2 J 25 (q * 9 + i) (nI v)) 26 (q * 9 + v) (J 26 (q * 9 + v) ||| nI (2 ^ i))
theorem c_reckonStep (hc : c = 1 ∨ c = 9) (hP : PlC c P J) (hW : WfP P) (h14 : J 17 14 = nI (shS P)) {q i F : Nat} (hq : q ≤ shN P (Pn P)) (hi : i < shS P) {K : Int32 → Mem → Option Mem} : fX6_reckonShutting_L43 FU K 17 (pq q) (nI (q * 9)) (F + 1) (nI i) (J, R0 (some c) nm hd rd) = fX6_reckonShutting_L43 FU K 17 (pq q) (nI (q * 9)) F (nI (i + 1)) (rkM P q i J, R0 (some c) nm hd rd) := by
  have h2 := wf_sh hW
  have h9 := shS_le P
  have d1 := c_one (FU := FU) (nm := nm) (hd := hd) (rd := rd) hc hP hW (q := q) (k := 0) (b := i % 3) (by omega) hq (by omega)
  have d2 := c_one (FU := FU) (nm := nm) (hd := hd) (rd := rd) hc hP hW (q := q) (k := 1) (b := i / 3) (by omega) hq (by omega)
  have d3 := tT_of (P := P) (q := q) (b := i) (by omega) (by omega)
  have hx : ∀ x, (if 0 + 1 = q then (if i % 3 = 0 then some (sFn P 0 (Pn P)) else none) else some (i % 3 - 1)) = some x → x < 3 := by
    intro x e
    have := sFn_le (P := P) 0 (Pn P)
    by_cases z : 0 + 1 = q
    · rw [if_pos z] at e
      by_cases y : i % 3 = 0
      · rw [if_pos y] at e
        have e := Option.some.inj e
        omega
      · rw [if_neg y] at e; cases e
    · rw [if_neg z] at e
      have e := Option.some.inj e
      omega
  have hy : ∀ x, (if 1 + 1 = q then (if i / 3 = 0 then some (sFn P 1 (Pn P)) else none) else some (i / 3 - 1)) = some x → x < 3 := by
    intro x e
    have := sFn_le (P := P) 1 (Pn P)
    by_cases z : 1 + 1 = q
    · rw [if_pos z] at e
      by_cases y : i / 3 = 0
      · rw [if_pos y] at e
        have e := Option.some.inj e
        omega
      · rw [if_neg y] at e; cases e
    · rw [if_neg z] at e
      have e := Option.some.inj e
      omega
  generalize (if 0 + 1 = q then (if i % 3 = 0 then some (sFn P 0 (Pn P)) else none) else some (i % 3 - 1)) = a at d1 d3 hx
  generalize (if 1 + 1 = q then (if i / 3 = 0 then some (sFn P 1 (Pn P)) else none) else some (i / 3 - 1)) = b at d2 d3 hy
  rw [fX6_reckonShutting_L43]
  unfold rkM
  rw [d3]
  unfold fX6_reckonShutting_b87 fX6_reckonShutting_b88 fX6_reckonShutting_b113 fX6_reckonShutting_b139
  cases a with
  | none =>
    simp (discharger := omega) only [li_0, li_1, li_2, li_3, li_4, li_5, li_6, li_7, li_8, li_9, li_10, li_11, li_12, li_13, li_14, li_15, li_16, li_17, li_18, li_19, li_20, li_21, li_22, li_23, li_24, li_25, li_26, li_27, li_28, li_29, li_30, li_31, li_32, li_33, li_34, li_35, li_36, li_37, li_38, li_39, li_40, li_41, li_42, li_43, li_44, li_45, li_46, li_47, li_48, li_49, li_50, li_51, li_52, li_53, li_54, li_55, li_56, li_57, li_58, li_59, li_60, li_61, li_62, li_63, li_64, li_65, li_66, li_67, li_68, li_69, li_70, li_71, li_72, li_73, li_74, li_75, li_76, li_77, li_78, li_79, li_80, li_81, li_82, li_83, li_84, li_85, li_86, li_87, li_88, li_89, li_90, li_91, li_92, li_93, li_94, li_95, li_96, li_97, li_98, li_99, li_100, li_101, li_102, li_103, li_104, li_105, li_106, li_107, li_108, li_109, li_110, li_111, li_112, li_113, li_114, li_115, li_116, li_117, li_118, li_119, li_120, li_121, li_122, li_123, li_124, li_125, li_126, li_127, li_128, li_144, li_150, li_200, li_255, li_384, li_512, li_999, li_1000, li_1024, li_1152, li_1920, li_3776, li_4096, li_9216, li_10000, li_100000, li_1073741824, li_m, ↓rcb_17, ↓fIb_17, ↓pIb_17, ↓fRb_17_5, ↓fRb_17_6, ↓fRb_17_7, ↓fRb_17_9, ↓fRb_17_10, ↓fRb_17_11, ↓fRb_17_12, ↓fRb_17_15, ↓fRb_17_16, ↓fRb_17_17, ↓fRb_17_0, ↓aIb_18, ↓sIb_18, ↓aIb_19, ↓sIb_19, ↓aIb_20, ↓sIb_20, ↓aIb_21, ↓sIb_21, ↓aIb_22, ↓sIb_22, ↓aIb_23, ↓sIb_23, ↓aIb_24, ↓sIb_24, ↓aIb_25, ↓sIb_25, ↓aIb_26, ↓sIb_26, ↓aIb_27, ↓sIb_27, r0_17_5, r0_17_6, r0_17_7, r0_17_9, r0_17_10, r0_17_11, r0_17_12, r0_17_15, r0_17_16, r0_17_17, r0_17_0, rc_17, fI_17, fR_17, pI_17, pR_17, aI_18, sI_18, aI_19, sI_19, aI_20, sI_20, aI_21, sI_21, aI_22, sI_22, aI_23, sI_23, aI_24, sI_24, aI_25, sI_25, aI_26, sI_26, aI_27, sI_27, ↓dn d1, ↓dn d2, dn d1, dn d2, w_bind, w_bd2, b01_eq0, b01_ok, b01_ok2, w_lt, w_le, w_eq, w_mlt, w_mle, w_ltm, w_lem, w_meq, w_eqm, w_mm, w_mmlt, w_mmle, nI_add, w_sub, pk_mul, w_div, w_rem, w_and, w_or, w_shr, w_shl1, w_a31, w_andn, h14, Nat.not_le.mpr hi, ↓reduceIte, Nat.reduceAdd, Nat.reduceEqDiff, Nat.zero_lt_one, Nat.not_lt_zero, Nat.one_ne_zero, Nat.zero_ne_one, not_true_eq_false, not_false_eq_true, oI]
  | some x =>
    have hx := hx x rfl
    cases b with
    | none =>
      simp (discharger := omega) only [li_0, li_1, li_2, li_3, li_4, li_5, li_6, li_7, li_8, li_9, li_10, li_11, li_12, li_13, li_14, li_15, li_16, li_17, li_18, li_19, li_20, li_21, li_22, li_23, li_24, li_25, li_26, li_27, li_28, li_29, li_30, li_31, li_32, li_33, li_34, li_35, li_36, li_37, li_38, li_39, li_40, li_41, li_42, li_43, li_44, li_45, li_46, li_47, li_48, li_49, li_50, li_51, li_52, li_53, li_54, li_55, li_56, li_57, li_58, li_59, li_60, li_61, li_62, li_63, li_64, li_65, li_66, li_67, li_68, li_69, li_70, li_71, li_72, li_73, li_74, li_75, li_76, li_77, li_78, li_79, li_80, li_81, li_82, li_83, li_84, li_85, li_86, li_87, li_88, li_89, li_90, li_91, li_92, li_93, li_94, li_95, li_96, li_97, li_98, li_99, li_100, li_101, li_102, li_103, li_104, li_105, li_106, li_107, li_108, li_109, li_110, li_111, li_112, li_113, li_114, li_115, li_116, li_117, li_118, li_119, li_120, li_121, li_122, li_123, li_124, li_125, li_126, li_127, li_128, li_144, li_150, li_200, li_255, li_384, li_512, li_999, li_1000, li_1024, li_1152, li_1920, li_3776, li_4096, li_9216, li_10000, li_100000, li_1073741824, li_m, ↓rcb_17, ↓fIb_17, ↓pIb_17, ↓fRb_17_5, ↓fRb_17_6, ↓fRb_17_7, ↓fRb_17_9, ↓fRb_17_10, ↓fRb_17_11, ↓fRb_17_12, ↓fRb_17_15, ↓fRb_17_16, ↓fRb_17_17, ↓fRb_17_0, ↓aIb_18, ↓sIb_18, ↓aIb_19, ↓sIb_19, ↓aIb_20, ↓sIb_20, ↓aIb_21, ↓sIb_21, ↓aIb_22, ↓sIb_22, ↓aIb_23, ↓sIb_23, ↓aIb_24, ↓sIb_24, ↓aIb_25, ↓sIb_25, ↓aIb_26, ↓sIb_26, ↓aIb_27, ↓sIb_27, r0_17_5, r0_17_6, r0_17_7, r0_17_9, r0_17_10, r0_17_11, r0_17_12, r0_17_15, r0_17_16, r0_17_17, r0_17_0, rc_17, fI_17, fR_17, pI_17, pR_17, aI_18, sI_18, aI_19, sI_19, aI_20, sI_20, aI_21, sI_21, aI_22, sI_22, aI_23, sI_23, aI_24, sI_24, aI_25, sI_25, aI_26, sI_26, aI_27, sI_27, ↓dn d1, ↓dn d2, dn d1, dn d2, w_bind, w_bd2, b01_eq0, b01_ok, b01_ok2, w_lt, w_le, w_eq, w_mlt, w_mle, w_ltm, w_lem, w_meq, w_eqm, w_mm, w_mmlt, w_mmle, nI_add, w_sub, pk_mul, w_div, w_rem, w_and, w_or, w_shr, w_shl1, w_a31, w_andn, h14, Nat.not_le.mpr hi, ↓reduceIte, Nat.reduceAdd, Nat.reduceEqDiff, Nat.zero_lt_one, Nat.not_lt_zero, Nat.one_ne_zero, Nat.zero_ne_one, not_true_eq_false, not_false_eq_true, oI]
    | some y =>
      have hy := hy y rfl
      simp (discharger := omega) only [li_0, li_1, li_2, li_3, li_4, li_5, li_6, li_7, li_8, li_9, li_10, li_11, li_12, li_13, li_14, li_15, li_16, li_17, li_18, li_19, li_20, li_21, li_22, li_23, li_24, li_25, li_26, li_27, li_28, li_29, li_30, li_31, li_32, li_33, li_34, li_35, li_36, li_37, li_38, li_39, li_40, li_41, li_42, li_43, li_44, li_45, li_46, li_47, li_48, li_49, li_50, li_51, li_52, li_53, li_54, li_55, li_56, li_57, li_58, li_59, li_60, li_61, li_62, li_63, li_64, li_65, li_66, li_67, li_68, li_69, li_70, li_71, li_72, li_73, li_74, li_75, li_76, li_77, li_78, li_79, li_80, li_81, li_82, li_83, li_84, li_85, li_86, li_87, li_88, li_89, li_90, li_91, li_92, li_93, li_94, li_95, li_96, li_97, li_98, li_99, li_100, li_101, li_102, li_103, li_104, li_105, li_106, li_107, li_108, li_109, li_110, li_111, li_112, li_113, li_114, li_115, li_116, li_117, li_118, li_119, li_120, li_121, li_122, li_123, li_124, li_125, li_126, li_127, li_128, li_144, li_150, li_200, li_255, li_384, li_512, li_999, li_1000, li_1024, li_1152, li_1920, li_3776, li_4096, li_9216, li_10000, li_100000, li_1073741824, li_m, ↓rcb_17, ↓fIb_17, ↓pIb_17, ↓fRb_17_5, ↓fRb_17_6, ↓fRb_17_7, ↓fRb_17_9, ↓fRb_17_10, ↓fRb_17_11, ↓fRb_17_12, ↓fRb_17_15, ↓fRb_17_16, ↓fRb_17_17, ↓fRb_17_0, ↓aIb_18, ↓sIb_18, ↓aIb_19, ↓sIb_19, ↓aIb_20, ↓sIb_20, ↓aIb_21, ↓sIb_21, ↓aIb_22, ↓sIb_22, ↓aIb_23, ↓sIb_23, ↓aIb_24, ↓sIb_24, ↓aIb_25, ↓sIb_25, ↓aIb_26, ↓sIb_26, ↓aIb_27, ↓sIb_27, r0_17_5, r0_17_6, r0_17_7, r0_17_9, r0_17_10, r0_17_11, r0_17_12, r0_17_15, r0_17_16, r0_17_17, r0_17_0, rc_17, fI_17, fR_17, pI_17, pR_17, aI_18, sI_18, aI_19, sI_19, aI_20, sI_20, aI_21, sI_21, aI_22, sI_22, aI_23, sI_23, aI_24, sI_24, aI_25, sI_25, aI_26, sI_26, aI_27, sI_27, ↓dn d1, ↓dn d2, dn d1, dn d2, w_bind, w_bd2, b01_eq0, b01_ok, b01_ok2, w_lt, w_le, w_eq, w_mlt, w_mle, w_ltm, w_lem, w_meq, w_eqm, w_mm, w_mmlt, w_mmle, nI_add, w_sub, pk_mul, w_div, w_rem, w_and, w_or, w_shr, w_shl1, w_a31, w_andn, h14, Nat.not_le.mpr hi, ↓reduceIte, Nat.reduceAdd, Nat.reduceEqDiff, Nat.zero_lt_one, Nat.not_lt_zero, Nat.one_ne_zero, Nat.zero_ne_one, not_true_eq_false, not_false_eq_true, oI, up2_k (show (26 : Nat) ≠ 25 by decide), Nat.add_assoc]
theorem rkM_ok {q i : Nat} (hq : q ≤ 2) (hi : i < 9) (f3 : ∀ b, b < i → J 25 (q * 9 + b) = oI (tT P q b)) (f4 : ∀ v, v < 9 → J 26 (q * 9 + v) = nI (mk (fun b => tT P q b == some v) i)) : (∀ k, k ≠ 25 → k ≠ 26 → rkM P q i J k = J k) ∧ (∀ j, j < q * 9 ∨ q * 9 + 9 ≤ j → rkM P q i J 25 j = J 25 j ∧ rkM P q i J 26 j = J 26 j) ∧ (∀ b, b < i + 1 → rkM P q i J 25 (q * 9 + b) = oI (tT P q b)) ∧ (∀ v, v < 9 → rkM P q i J 26 (q * 9 + v) = nI (mk (fun b => tT P q b == some v) (i + 1))) := by
  unfold rkM
  cases e : tT P q i with
  | none =>
    simp only
    refine ⟨fun k k1 k2 => up2_ne k1, fun j hj => ⟨up2_i (by omega), up2_k (by decide)⟩, fun b hb => ?_, fun v hv => ?_⟩
    · by_cases z : b = i
      · rw [z, up2_s, e]; rfl
      · rw [up2_i (by omega)]; exact f3 b (by omega)
    · rw [up2_k (by decide), f4 v hv, mk_s, e]
      simp
  | some w =>
    simp only
    have hw := tT_lt hi e
    refine ⟨fun k k1 k2 => ?_, fun j hj => ⟨?_, ?_⟩, fun b hb => ?_, fun v hv => ?_⟩
    · rw [up2_ne k2, up2_ne k1]
    · rw [up2_k (by decide), up2_i (by omega)]
    · rw [up2_i (by omega), up2_k (by decide)]
    · rw [up2_k (by decide)]
      by_cases z : b = i
      · rw [z, up2_s, e]; rfl
      · rw [up2_i (by omega)]; exact f3 b (by omega)
    · rw [mk_s, e]
      by_cases z : v = w
      · subst z
        rw [up2_s, f4 v hv, w_or]
        simp
      · rw [up2_i (by omega), up2_k (by decide), f4 v hv]
        have z2 : (some w == some v) = false := by
          simp
          omega
        rw [z2]
        simp
/-- the rows up to q -/
def RkI (P : Pln) (I : Nat → Nat → Int32) (q : Nat) (J : Nat → Nat → Int32) : Prop := (∀ k, k ≠ 25 → k ≠ 26 → J k = I k) ∧ (∀ p, p < q → ∀ b, b < shS P → J 25 (p * 9 + b) = oI (tT P p b)) ∧ (∀ p, p < q → ∀ v, v < 9 → J 26 (p * 9 + v) = nI (mk (fun b => tT P p b == some v) (shS P))) ∧ (∀ i, q * 9 ≤ i → i < 27 → J 26 i = nI 0)
theorem c_reckonRow (hF : 99999999 ≤ FU) (hc : c = 1 ∨ c = 9) (hP : PlC c P I) (hW : WfP P) (h14 : I 17 14 = nI (shS P)) {q : Nat} (hq : q ≤ shN P (Pn P)) (hJ : RkI P I q J) : ∃ J', RkI P I (q + 1) J' ∧ ∀ K, fX6_reckonShutting_L43 FU K 17 (pq q) (nI (q * 9)) FU (nI 0) (J, R0 (some c) nm hd rd) = K (nI q) (J', R0 (some c) nm hd rd) := by
  have h2 := wf_sh hW
  have h9 := shS_le P
  have st : ∀ i (s : Int32 × Mem), i < shS P → (∃ T, s = (nI i, (T, R0 (some c) nm hd rd)) ∧ (∀ k, k ≠ 25 → k ≠ 26 → T k = J k) ∧ (∀ j, j < q * 9 ∨ q * 9 + 9 ≤ j → T 25 j = J 25 j ∧ T 26 j = J 26 j) ∧ (∀ b, b < i → T 25 (q * 9 + b) = oI (tT P q b)) ∧ (∀ v, v < 9 → T 26 (q * 9 + v) = nI (mk (fun b => tT P q b == some v) i))) → ∃ s', (∃ T, s' = (nI (i + 1), (T, R0 (some c) nm hd rd)) ∧ (∀ k, k ≠ 25 → k ≠ 26 → T k = J k) ∧ (∀ j, j < q * 9 ∨ q * 9 + 9 ≤ j → T 25 j = J 25 j ∧ T 26 j = J 26 j) ∧ (∀ b, b < i + 1 → T 25 (q * 9 + b) = oI (tT P q b)) ∧ (∀ v, v < 9 → T 26 (q * 9 + v) = nI (mk (fun b => tT P q b == some v) (i + 1)))) ∧ ∀ (K : Int32 → Mem → Option Mem) F, fX6_reckonShutting_L43 FU K 17 (pq q) (nI (q * 9)) (F + 1) s.1 s.2 = fX6_reckonShutting_L43 FU K 17 (pq q) (nI (q * 9)) F s'.1 s'.2 := by
    rintro i _ hi ⟨T, rfl, f1, f2, f3, f4⟩
    have g : ∀ k, k ≠ 25 → k ≠ 26 → T k = I k := fun k k1 k2 => by rw [f1 k k1 k2, hJ.1 k k1 k2]
    have hPT : PlC c P T := hP.congr (fun k _ _ => g k (by omega) (by omega))
    have h14' : T 17 14 = nI (shS P) := by rw [g 17 (by decide) (by decide), h14]
    obtain ⟨a1, a2, a3, a4⟩ := rkM_ok (P := P) (J := T) (q := q) (i := i) (by omega) (by omega) f3 f4
    refine ⟨(nI (i + 1), (rkM P q i T, R0 (some c) nm hd rd)), ⟨_, rfl, fun k k1 k2 => by rw [a1 k k1 k2, f1 k k1 k2], fun j hj => ⟨by rw [(a2 j hj).1, (f2 j hj).1], by rw [(a2 j hj).2, (f2 j hj).2]⟩, a3, a4⟩, fun K F => ?_⟩
    exact c_reckonStep hc hPT hW h14' hq hi
  obtain ⟨s', ⟨T, rfl, g1, g2, g3, g4⟩, hl⟩ := lpK (fun K F (s : Int32 × Mem) => fX6_reckonShutting_L43 FU K 17 (pq q) (nI (q * 9)) F s.1 s.2) _ (shS P) st (shS P) 0 (nI 0, (J, R0 (some c) nm hd rd)) FU (by omega) (by omega) ⟨J, rfl, fun k _ _ => rfl, fun i _ => ⟨rfl, rfl⟩, fun b hb => by omega, fun v hv => by rw [hJ.2.2.2 _ (by omega) (by omega)]; rfl⟩
  simp only at hl
  have h14' : T 17 14 = nI (shS P) := by rw [g1 17 (by decide) (by decide), hJ.1 17 (by decide) (by decide), h14]
  refine ⟨T, ⟨?_, ?_, ?_, ?_⟩, fun K => ?_⟩
  rotate_left 4
  · have hl := hl K
    obtain ⟨G, hG⟩ : ∃ G, FU - shS P = G + 1 := ⟨FU - shS P - 1, by omega⟩
    rw [hl, hG, fX6_reckonShutting_L43]
    simp (discharger := omega) only [li_0, li_1, li_2, li_3, li_4, li_5, li_6, li_7, li_8, li_9, li_10, li_11, li_12, li_13, li_14, li_15, li_16, li_17, li_18, li_19, li_20, li_21, li_22, li_23, li_24, li_25, li_26, li_27, li_28, li_29, li_30, li_31, li_32, li_33, li_34, li_35, li_36, li_37, li_38, li_39, li_40, li_41, li_42, li_43, li_44, li_45, li_46, li_47, li_48, li_49, li_50, li_51, li_52, li_53, li_54, li_55, li_56, li_57, li_58, li_59, li_60, li_61, li_62, li_63, li_64, li_65, li_66, li_67, li_68, li_69, li_70, li_71, li_72, li_73, li_74, li_75, li_76, li_77, li_78, li_79, li_80, li_81, li_82, li_83, li_84, li_85, li_86, li_87, li_88, li_89, li_90, li_91, li_92, li_93, li_94, li_95, li_96, li_97, li_98, li_99, li_100, li_101, li_102, li_103, li_104, li_105, li_106, li_107, li_108, li_109, li_110, li_111, li_112, li_113, li_114, li_115, li_116, li_117, li_118, li_119, li_120, li_121, li_122, li_123, li_124, li_125, li_126, li_127, li_128, li_144, li_150, li_200, li_255, li_384, li_512, li_999, li_1000, li_1024, li_1152, li_1920, li_3776, li_4096, li_9216, li_10000, li_100000, li_1073741824, li_m, ↓rcb_17, ↓fIb_17, ↓pIb_17, ↓fRb_17_5, ↓fRb_17_6, ↓fRb_17_7, ↓fRb_17_9, ↓fRb_17_10, ↓fRb_17_11, ↓fRb_17_12, ↓fRb_17_15, ↓fRb_17_16, ↓fRb_17_17, ↓fRb_17_0, ↓aIb_18, ↓sIb_18, ↓aIb_19, ↓sIb_19, ↓aIb_20, ↓sIb_20, ↓aIb_21, ↓sIb_21, ↓aIb_22, ↓sIb_22, ↓aIb_23, ↓sIb_23, ↓aIb_24, ↓sIb_24, ↓aIb_25, ↓sIb_25, ↓aIb_26, ↓sIb_26, ↓aIb_27, ↓sIb_27, r0_17_5, r0_17_6, r0_17_7, r0_17_9, r0_17_10, r0_17_11, r0_17_12, r0_17_15, r0_17_16, r0_17_17, r0_17_0, rc_17, fI_17, fR_17, pI_17, pR_17, aI_18, sI_18, aI_19, sI_19, aI_20, sI_20, aI_21, sI_21, aI_22, sI_22, aI_23, sI_23, aI_24, sI_24, aI_25, sI_25, aI_26, sI_26, aI_27, sI_27, w_bind, w_bd2, b01_eq0, b01_ok, b01_ok2, w_lt, w_le, w_eq, w_mlt, w_mle, w_ltm, w_lem, w_meq, w_eqm, w_mm, w_mmlt, w_mmle, nI_add, w_sub, pk_mul, w_div, w_rem, w_and, w_or, w_shr, w_shl1, w_a31, w_andn, h14', Nat.le_refl, if_true, pq_s]
  · intro k k1 k2
    rw [g1 k k1 k2, hJ.1 k k1 k2]
  · intro p hp b hb
    by_cases z : p = q
    · subst z; exact g3 b hb
    · rw [(g2 _ (by omega)).1]; exact hJ.2.1 p (by omega) b hb
  · intro p hp v hv
    by_cases z : p = q
    · subst z; exact g4 v hv
    · rw [(g2 _ (by omega)).2]; exact hJ.2.2.1 p (by omega) v hv
  · intro i h1 h2
    rw [(g2 _ (by omega)).2]; exact hJ.2.2.2 i (by omega) h2
end CS2
