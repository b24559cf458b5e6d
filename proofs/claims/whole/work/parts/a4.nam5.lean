/-! alike, the class: leastRow -/
section Nam5
variable {FU ver : Nat} {P : Pln} {I J : Nat → Nat → Int32} {pl nm hd rd : Option Nat}
def rowF (h i r : Nat) (f : Nat → Nat) : Nat := 100 * (srt (f h) (f i)).1 + 10 * (srt (f h) (f i)).2 + f r
def idxF (h i r : Nat) (f : Nat → Nat) : Nat := ((srt (f h) (f i)).1 * 8 + (srt (f h) (f i)).2) * 8 + f r
/-- the least row -/
def AL (P : Pln) (h i r v : Nat) : Prop := (∃ f, Aut P f ∧ rowF h i r f = v) ∧ ∀ f, Aut P f → v ≤ rowF h i r f
theorem row_idx {a b c a' b' c' : Nat} (hb : b < 8) (hc : c < 8) (h : (a * 8 + b) * 8 + c ≤ (a' * 8 + b') * 8 + c') (hb' : b' < 8) (hc' : c' < 8) : 100 * a + 10 * b + c ≤ 100 * a' + 10 * b' + c' := by
  by_cases z : a < a'
  · omega
  · have z1 : a = a' := by omega
    subst z1
    by_cases y : b < b'
    · omega
    · have y1 : b = b' := by omega
      subst y1
      omega
theorem srt_id {a b : Nat} (h : a ≤ b) : srt a b = (a, b) ∧ srt b a = (a, b) := by
  unfold srt
  by_cases z : a < b
  · rw [if_pos z, if_neg (by omega)]
    exact ⟨rfl, rfl⟩
  · have e : a = b := by omega
    subst e
    rw [if_neg z]
    exact ⟨rfl, rfl⟩
theorem srt_cases (x y : Nat) : (x = (srt x y).1 ∧ y = (srt x y).2) ∨ (y = (srt x y).1 ∧ x = (srt x y).2) := by
  unfold srt
  split
  · exact Or.inl ⟨rfl, rfl⟩
  · exact Or.inr ⟨rfl, rfl⟩
theorem c_row53 (hF : 99999999 ≤ FU) (hW : WfP P) {h i r a b : Nat} (hh : h < Pp P) (hi : i < Pp P) (hr : r < Pp P) (hab : a ≤ b) (hb : b < Pp P) {K : Int32 → Mem → Option (Int32 × Mem)} : ∀ d c I F, d + c = Pp P → d < F → PlC 1 P I → CJ P (Pn P) I → (∀ f, Aut P f → (a * 8 + b) * 8 + c ≤ idxF h i r f) → (∀ I'', FrN I I'' → (∀ f, Aut P f → (a * 8 + b + 1) * 8 ≤ idxF h i r f) → ∃ I' v, K (nI (a * 8 + b + 1)) (I'', R0 pl (some 1) hd rd) = some (nI v, (I', R0 pl (some 1) hd rd)) ∧ FrN I'' I' ∧ AL P h i r v) → ∃ I' v, fX2_leastRow_L53 FU K 28 (nI (h * 8 + i)) (nI r) (nI (a * 8 + b)) (nI a) (nI b) F (nI c) (I, R0 pl (some 1) hd rd) = some (nI v, (I', R0 pl (some 1) hd rd)) ∧ FrN I I' ∧ AL P h i r v := by
  have hp := wf_p hW
  have ex : nI b * (8 : Int32) + nI a = nI (b * 8 + a) := by simp (discharger := omega) only [li_0, li_1, li_2, li_3, li_4, li_5, li_6, li_7, li_8, li_9, li_10, li_11, li_12, li_13, li_14, li_15, li_16, li_17, li_18, li_19, li_20, li_21, li_22, li_23, li_24, li_25, li_26, li_27, li_28, li_29, li_30, li_31, li_32, li_33, li_34, li_35, li_36, li_37, li_38, li_39, li_40, li_41, li_42, li_43, li_44, li_45, li_46, li_47, li_48, li_49, li_50, li_51, li_52, li_53, li_54, li_55, li_56, li_57, li_58, li_59, li_60, li_61, li_62, li_63, li_64, li_65, li_66, li_67, li_68, li_69, li_70, li_71, li_72, li_73, li_74, li_75, li_76, li_77, li_78, li_79, li_80, li_81, li_82, li_83, li_84, li_85, li_86, li_87, li_88, li_89, li_90, li_91, li_92, li_93, li_94, li_95, li_96, li_97, li_98, li_99, li_100, li_101, li_102, li_103, li_104, li_105, li_106, li_107, li_108, li_109, li_110, li_111, li_112, li_113, li_114, li_115, li_116, li_117, li_118, li_119, li_120, li_121, li_122, li_123, li_124, li_125, li_126, li_127, li_128, li_144, li_150, li_200, li_255, li_384, li_512, li_999, li_1000, li_1024, li_1152, li_1920, li_3776, li_4096, li_9216, li_10000, li_100000, li_1073741824, li_m, w_lt, w_le, w_eq, w_mlt, w_mle, w_ltm, w_lem, w_meq, w_eqm, w_mm, w_mmlt, w_mmle, nI_add, w_sub, pk_mul, w_div, w_rem, w_and, w_or, w_shr, w_shl1, w_a31, w_andn]
  intro d
  induction d with
  | zero =>
    intro c I F h1 h2 hC hJ hno hK
    obtain ⟨G, rfl⟩ : ∃ G, F = G + 1 := ⟨F - 1, by omega⟩
    obtain ⟨I', v, k1, k2, k3⟩ := hK I FrN.refl (fun f hf => by
      have q1 := hno f hf
      obtain ⟨f1, _, _⟩ := (aut_iff hW).mp hf
      have q2 := (f1 r hr).1
      have q3 := srt_lt (f1 h hh).1 (f1 i hi).1
      unfold idxF at q1 ⊢
      by_cases z : (srt (f h) (f i)).1 * 8 + (srt (f h) (f i)).2 = a * 8 + b
      · rw [z] at q1
        omega
      · omega)
    refine ⟨I', v, ?_, k2, k3⟩
    rw [fX2_leastRow_L53, fRb_28_0, fIb_1, hC.1, if_pos (by rw [w_le (by omega) (by omega)]; omega)]
    unfold fX2_leastRow_b111
    rw [li_1, nI_add]
    exact k1
  | succ d ih =>
    intro c I F h1 h2 hC hJ hno hK
    obtain ⟨G, rfl⟩ : ∃ G, F = G + 1 := ⟨F - 1, by omega⟩
    have f0 : ¬ nI (Pp P) ≤ nI c := by rw [w_le (by omega) (by omega)]; omega
    have told : ∀ M : Mem, fX2_leastRow_b97 FU (nI (a * 8 + b)) (nI c) M = some (nI (100 * a + 10 * b + c), M) := by
      intro M
      have e3 : nI (a * 8 + b) >>> ((3 : Int32) &&& 31) = nI a := by
        simp (discharger := omega) only [li_0, li_1, li_2, li_3, li_4, li_5, li_6, li_7, li_8, li_9, li_10, li_11, li_12, li_13, li_14, li_15, li_16, li_17, li_18, li_19, li_20, li_21, li_22, li_23, li_24, li_25, li_26, li_27, li_28, li_29, li_30, li_31, li_32, li_33, li_34, li_35, li_36, li_37, li_38, li_39, li_40, li_41, li_42, li_43, li_44, li_45, li_46, li_47, li_48, li_49, li_50, li_51, li_52, li_53, li_54, li_55, li_56, li_57, li_58, li_59, li_60, li_61, li_62, li_63, li_64, li_65, li_66, li_67, li_68, li_69, li_70, li_71, li_72, li_73, li_74, li_75, li_76, li_77, li_78, li_79, li_80, li_81, li_82, li_83, li_84, li_85, li_86, li_87, li_88, li_89, li_90, li_91, li_92, li_93, li_94, li_95, li_96, li_97, li_98, li_99, li_100, li_101, li_102, li_103, li_104, li_105, li_106, li_107, li_108, li_109, li_110, li_111, li_112, li_113, li_114, li_115, li_116, li_117, li_118, li_119, li_120, li_121, li_122, li_123, li_124, li_125, li_126, li_127, li_128, li_144, li_150, li_200, li_255, li_384, li_512, li_999, li_1000, li_1024, li_1152, li_1920, li_3776, li_4096, li_9216, li_10000, li_100000, li_1073741824, li_m, w_lt, w_le, w_eq, w_mlt, w_mle, w_ltm, w_lem, w_meq, w_eqm, w_mm, w_mmlt, w_mmle, nI_add, w_sub, pk_mul, w_div, w_rem, w_and, w_or, w_shr, w_shl1, w_a31, w_andn]
        rw [w_ph (by omega)]
      have e4 : nI (a * 8 + b) &&& (7 : Int32) = nI b := by
        simp (discharger := omega) only [li_0, li_1, li_2, li_3, li_4, li_5, li_6, li_7, li_8, li_9, li_10, li_11, li_12, li_13, li_14, li_15, li_16, li_17, li_18, li_19, li_20, li_21, li_22, li_23, li_24, li_25, li_26, li_27, li_28, li_29, li_30, li_31, li_32, li_33, li_34, li_35, li_36, li_37, li_38, li_39, li_40, li_41, li_42, li_43, li_44, li_45, li_46, li_47, li_48, li_49, li_50, li_51, li_52, li_53, li_54, li_55, li_56, li_57, li_58, li_59, li_60, li_61, li_62, li_63, li_64, li_65, li_66, li_67, li_68, li_69, li_70, li_71, li_72, li_73, li_74, li_75, li_76, li_77, li_78, li_79, li_80, li_81, li_82, li_83, li_84, li_85, li_86, li_87, li_88, li_89, li_90, li_91, li_92, li_93, li_94, li_95, li_96, li_97, li_98, li_99, li_100, li_101, li_102, li_103, li_104, li_105, li_106, li_107, li_108, li_109, li_110, li_111, li_112, li_113, li_114, li_115, li_116, li_117, li_118, li_119, li_120, li_121, li_122, li_123, li_124, li_125, li_126, li_127, li_128, li_144, li_150, li_200, li_255, li_384, li_512, li_999, li_1000, li_1024, li_1152, li_1920, li_3776, li_4096, li_9216, li_10000, li_100000, li_1073741824, li_m, w_lt, w_le, w_eq, w_mlt, w_mle, w_ltm, w_lem, w_meq, w_eqm, w_mm, w_mmlt, w_mmle, nI_add, w_sub, pk_mul, w_div, w_rem, w_and, w_or, w_shr, w_shl1, w_a31, w_andn, w_a7]
        rw [w_pi (by omega)]
      unfold fX2_leastRow_b97 fX6_rowTold
      rw [w_bd2, e3, e4, li_100, li_10, pk_mul, pk_mul, nI_add, nI_add]
    have hit : ∀ f, Aut P f → srt (f h) (f i) = (a, b) → f r = c → AL P h i r (100 * a + 10 * b + c) := by
      intro f hf q1 q2
      refine ⟨⟨f, hf, ?_⟩, fun f' hf' => ?_⟩
      · unfold rowF
        rw [q1, q2]
      · have q3 := hno f' hf'
        obtain ⟨f1, _, _⟩ := (aut_iff hW).mp hf'
        have q4 := (f1 r hr).1
        have q5 := srt_lt (f1 h hh).1 (f1 i hi).1
        unfold idxF at q3
        unfold rowF
        exact row_idx (by omega) (by omega) q3 (by omega) (by omega)
    have go : ∀ I1, FrN I I1 → ¬ Tn P h i r a b c → ¬ Tn P h i r b a c → ∃ I' v, fX2_leastRow_L53 FU K 28 (nI (h * 8 + i)) (nI r) (nI (a * 8 + b)) (nI a) (nI b) G (nI (c + 1)) (I1, R0 pl (some 1) hd rd) = some (nI v, (I', R0 pl (some 1) hd rd)) ∧ FrN I I' ∧ AL P h i r v := by
      intro I1 fr n1 n2
      obtain ⟨I', v, k1, k2, k3⟩ := ih (c + 1) I1 G (by omega) (by omega) (fr.plc hC) (fr.cj hJ) (fun f hf => by
        have q3 := hno f hf
        obtain ⟨f1, _, _⟩ := (aut_iff hW).mp hf
        have q4 := (f1 r hr).1
        have q5 := srt_lt (f1 h hh).1 (f1 i hi).1
        unfold idxF at q3 ⊢
        apply Classical.byContradiction
        intro w
        have w1 : (srt (f h) (f i)).1 = a := by omega
        have w2 : (srt (f h) (f i)).2 = b := by omega
        have w3 : f r = c := by omega
        rcases srt_cases (f h) (f i) with ⟨s1, s2⟩ | ⟨s1, s2⟩
        · exact n1 ⟨f, hf, by rw [s1, w1], by rw [s2, w2], w3⟩
        · exact n2 ⟨f, hf, by rw [s2, w2], by rw [s1, w1], w3⟩) (fun I'' fr'' no => by
        obtain ⟨I', v, k1, k2, k3⟩ := hK I'' (fr.trans fr'') no
        exact ⟨I', v, k1, k2, k3⟩)
      exact ⟨I', v, k1, fr.trans k2, k3⟩
    rw [fX2_leastRow_L53, fRb_28_0, fIb_1, hC.1, if_neg f0, show rc 2 (some 28) = some 28 from rfl, w_bind]
    rcases c_canTurn (FU := FU) (pl := pl) (hd := hd) (rd := rd) hF hC hW hJ hh hi hr (a := a) (b := b) (c := c) (by omega) hb (by omega) with ⟨t, I1, b1, b2⟩ | ⟨t, I1, b1, b2⟩
    · obtain ⟨f, q1, q2, q3, q4⟩ := t
      refine ⟨I1, 100 * a + 10 * b + c, ?_, b2, hit f q1 (by rw [q2, q3]; exact (srt_id hab).1) q4⟩
      rw [dn b1, if_pos (by decide), told]
    · rcases c_canTurn (FU := FU) (pl := pl) (hd := hd) (rd := rd) hF (b2.plc hC) hW (b2.cj hJ) hh hi hr (a := b) (b := a) (c := c) hb (by omega) (by omega) with ⟨t2, I2, c1, c2⟩ | ⟨t2, I2, c1, c2⟩
      · obtain ⟨f, q1, q2, q3, q4⟩ := t2
        refine ⟨I2, 100 * a + 10 * b + c, ?_, b2.trans c2, hit f q1 (by rw [q2, q3]; exact (srt_id hab).2) q4⟩
        rw [dn b1, if_neg (fun h => h rfl), w_bind, ex, dn c1, if_neg (by decide), told]
      · obtain ⟨I', v, k1, k2⟩ := go I2 (b2.trans c2) t t2
        refine ⟨I', v, ?_, k2⟩
        rw [dn b1, if_neg (fun h => h rfl), w_bind, ex, dn c1, if_pos (by decide), li_1, nI_add]
        exact k1
theorem c_row8 (hF : 99999999 ≤ FU) (hW : WfP P) {h i r : Nat} (hh : h < Pp P) (hi : i < Pp P) (hr : r < Pp P) : ∀ d k I F, d + k = 64 → d < F → PlC 1 P I → CJ P (Pn P) I → (∀ f, Aut P f → k * 8 ≤ idxF h i r f) → ∃ I' v, fX2_leastRow_L8 FU 28 (nI (h * 8 + i)) (nI r) F (nI k) (I, R0 pl (some 1) hd rd) = some (nI v, (I', R0 pl (some 1) hd rd)) ∧ FrN I I' ∧ AL P h i r v := by
  have hp := wf_p hW
  intro d
  induction d with
  | zero =>
    intro k I F h1 h2 hC hJ hno
    exfalso
    have q := hno (fun x => x) (aut_id P hW)
    have q5 := srt_lt hh hi
    unfold idxF at q
    simp only at q
    omega
  | succ d ih =>
    intro k I F h1 h2 hC hJ hno
    obtain ⟨G, rfl⟩ : ∃ G, F = G + 1 := ⟨F - 1, by omega⟩
    have f0 : ¬ (64 : Int32) ≤ nI k := by rw [li_64, w_le (by omega) (by omega)]; omega
    obtain ⟨a, b, ha, hb, hk⟩ : ∃ a b, a < 8 ∧ b < 8 ∧ k = a * 8 + b := ⟨k / 8, k % 8, by omega, by omega, by omega⟩
    subst hk
    have e3 : nI (a * 8 + b) >>> ((3 : Int32) &&& 31) = nI a := by
      simp (discharger := omega) only [li_0, li_1, li_2, li_3, li_4, li_5, li_6, li_7, li_8, li_9, li_10, li_11, li_12, li_13, li_14, li_15, li_16, li_17, li_18, li_19, li_20, li_21, li_22, li_23, li_24, li_25, li_26, li_27, li_28, li_29, li_30, li_31, li_32, li_33, li_34, li_35, li_36, li_37, li_38, li_39, li_40, li_41, li_42, li_43, li_44, li_45, li_46, li_47, li_48, li_49, li_50, li_51, li_52, li_53, li_54, li_55, li_56, li_57, li_58, li_59, li_60, li_61, li_62, li_63, li_64, li_65, li_66, li_67, li_68, li_69, li_70, li_71, li_72, li_73, li_74, li_75, li_76, li_77, li_78, li_79, li_80, li_81, li_82, li_83, li_84, li_85, li_86, li_87, li_88, li_89, li_90, li_91, li_92, li_93, li_94, li_95, li_96, li_97, li_98, li_99, li_100, li_101, li_102, li_103, li_104, li_105, li_106, li_107, li_108, li_109, li_110, li_111, li_112, li_113, li_114, li_115, li_116, li_117, li_118, li_119, li_120, li_121, li_122, li_123, li_124, li_125, li_126, li_127, li_128, li_144, li_150, li_200, li_255, li_384, li_512, li_999, li_1000, li_1024, li_1152, li_1920, li_3776, li_4096, li_9216, li_10000, li_100000, li_1073741824, li_m, w_lt, w_le, w_eq, w_mlt, w_mle, w_ltm, w_lem, w_meq, w_eqm, w_mm, w_mmlt, w_mmle, nI_add, w_sub, pk_mul, w_div, w_rem, w_and, w_or, w_shr, w_shl1, w_a31, w_andn]
      rw [w_ph (by omega)]
    have e4 : nI (a * 8 + b) &&& (7 : Int32) = nI b := by
      simp (discharger := omega) only [li_0, li_1, li_2, li_3, li_4, li_5, li_6, li_7, li_8, li_9, li_10, li_11, li_12, li_13, li_14, li_15, li_16, li_17, li_18, li_19, li_20, li_21, li_22, li_23, li_24, li_25, li_26, li_27, li_28, li_29, li_30, li_31, li_32, li_33, li_34, li_35, li_36, li_37, li_38, li_39, li_40, li_41, li_42, li_43, li_44, li_45, li_46, li_47, li_48, li_49, li_50, li_51, li_52, li_53, li_54, li_55, li_56, li_57, li_58, li_59, li_60, li_61, li_62, li_63, li_64, li_65, li_66, li_67, li_68, li_69, li_70, li_71, li_72, li_73, li_74, li_75, li_76, li_77, li_78, li_79, li_80, li_81, li_82, li_83, li_84, li_85, li_86, li_87, li_88, li_89, li_90, li_91, li_92, li_93, li_94, li_95, li_96, li_97, li_98, li_99, li_100, li_101, li_102, li_103, li_104, li_105, li_106, li_107, li_108, li_109, li_110, li_111, li_112, li_113, li_114, li_115, li_116, li_117, li_118, li_119, li_120, li_121, li_122, li_123, li_124, li_125, li_126, li_127, li_128, li_144, li_150, li_200, li_255, li_384, li_512, li_999, li_1000, li_1024, li_1152, li_1920, li_3776, li_4096, li_9216, li_10000, li_100000, li_1073741824, li_m, w_lt, w_le, w_eq, w_mlt, w_mle, w_ltm, w_lem, w_meq, w_eqm, w_mm, w_mmlt, w_mmle, nI_add, w_sub, pk_mul, w_div, w_rem, w_and, w_or, w_shr, w_shl1, w_a31, w_andn, w_a7]
      rw [w_pi (by omega)]
    have skip : (b < a ∨ Pp P ≤ b) → ∃ I' v, fX2_leastRow_b111 FU (fX2_leastRow_L8 FU 28 (nI (h * 8 + i)) (nI r) G) 28 (nI (h * 8 + i)) (nI r) (nI (a * 8 + b)) (I, R0 pl (some 1) hd rd) = some (nI v, (I', R0 pl (some 1) hd rd)) ∧ FrN I I' ∧ AL P h i r v := by
      intro sk
      obtain ⟨I', v, k1, k2, k3⟩ := ih (a * 8 + b + 1) I G (by omega) (by omega) hC hJ (fun f hf => by
        have q3 := hno f hf
        obtain ⟨f1, _, _⟩ := (aut_iff hW).mp hf
        have q4 := (f1 r hr).1
        have q5 := srt_lt (f1 h hh).1 (f1 i hi).1
        unfold idxF at q3 ⊢
        omega)
      refine ⟨I', v, ?_, k2, k3⟩
      unfold fX2_leastRow_b111
      rw [li_1, nI_add]
      exact k1
    rw [fX2_leastRow_L8, if_neg f0, e3, e4]
    by_cases z : b < a
    · rw [if_pos (by rw [w_lt (by omega) (by omega)]; exact z)]
      exact skip (Or.inl z)
    · rw [if_neg (by rw [w_lt (by omega) (by omega)]; exact z), fRb_28_0, fIb_1, hC.1]
      by_cases y : b < Pp P
      · rw [if_pos (by rw [w_lt (by omega) (by omega)]; exact y), li_0]
        exact c_row53 (FU := FU) (pl := pl) (hd := hd) (rd := rd) hF hW hh hi hr (by omega) y (Pp P) 0 I FU (by omega) (by omega) hC hJ (fun f hf => by have := hno f hf; omega) (fun I'' fr no => by
          obtain ⟨I', v, k1, k2, k3⟩ := ih (a * 8 + b + 1) I'' G (by omega) (by omega) (fr.plc hC) (fr.cj hJ) no
          exact ⟨I', v, k1, k2, k3⟩)
      · rw [if_neg (by rw [w_lt (by omega) (by omega)]; exact y)]
        exact skip (Or.inr (by omega))
theorem AL_one {h i r v w : Nat} (a : AL P h i r v) (b : AL P h i r w) : v = w := by
  obtain ⟨⟨f, f1, f2⟩, a2⟩ := a
  obtain ⟨⟨g, g1, g2⟩, b2⟩ := b
  have := a2 g g1
  have := b2 f f1
  omega
theorem AL_swap {h i r v : Nat} (a : AL P h i r v) : AL P i h r v := by
  have e : ∀ f, rowF i h r f = rowF h i r f := by
    intro f
    unfold rowF
    rw [srt_comm]
  obtain ⟨⟨f, f1, f2⟩, a2⟩ := a
  exact ⟨⟨f, f1, by rw [e, f2]⟩, fun g hg => by rw [e]; exact a2 g hg⟩
theorem c_leastRow (hF : 99999999 ≤ FU) (hC : PlC 1 P I) (hW : WfP P) (hv : I 1 12 = nI ver) (hver : ver < 2 ^ 30) (hK : K28 P ver nm I) {h i r : Nat} (hh : h < Pp P) (hi : i < Pp P) (hr : r < Pp P) : ∃ I' v, fX2_leastRow FU 28 (some 1) (nI (h * 8 + i)) (nI r) (I, R0 pl nm hd rd) = some (nI v, (I', R0 pl (some 1) hd rd)) ∧ AL P h i r v ∧ CJ P (Pn P) I' ∧ I' 28 1 = nI ver ∧ (I' 28 2 = mI 1 ∨ I' 28 2 = nI (nTur P)) ∧ (∀ q, q ≠ 28 → q ≠ 29 → q ≠ 30 → I' q = I q) := by
  obtain ⟨I1, a1, a2, a3, a4, a5⟩ := c_take (FU := FU) (pl := pl) (nm := nm) (hd := hd) (rd := rd) hF hC hW hv hver hK
  have hC1 : PlC 1 P I1 := hC.congr (fun k _ _ => a5 k (by omega) (by omega))
  obtain ⟨I2, v, b1, b2, b3⟩ := c_row8 (FU := FU) (pl := pl) (hd := hd) (rd := rd) hF hW hh hi hr 64 0 I1 FU (by omega) (by omega) hC1 a2 (fun f _ => by omega)
  refine ⟨I2, v, ?_, b3, b2.cj a2, by rw [b2.2 1 (by decide), a3], by rw [b2.2 2 (by decide)]; exact a4, fun q q1 q2 q3 => (b2.1 q q1 q3).trans (a5 q q1 q2)⟩
  unfold fX2_leastRow
  rw [show rc 2 (some 28) = some 28 from rfl, w_bind, dn1 a1, li_0]
  exact b1
end Nam5
