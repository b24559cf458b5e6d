/-! turnings, the class: give, canNameRest -/
section Nam3
variable {FU ver : Nat} {P : Pln} {I J : Nat → Nat → Int32} {pl nm hd rd : Option Nat}
/-- names given so far -/
abbrev Nmg : Type := Nat → Option Nat
def gUp (g : Nmg) (x y : Nat) : Nmg := fun j => if j = x then some y else g j
def wfG (P : Pln) (g : Nmg) : Prop := ∀ z n, g z = some n → z < Pp P ∧ n < Pp P
def GS (P : Pln) (g : Nmg) (I : Nat → Nat → Int32) : Prop := (∀ j, j < 8 → I 30 j = oI (g j)) ∧ ∃ u, I 28 5 = nI u ∧ u < 256 ∧ ∀ y, y < 8 → (u.testBit y = true ↔ ∃ z, g z = some y)
def FrN (I I' : Nat → Nat → Int32) : Prop := (∀ q, q ≠ 28 → q ≠ 30 → I' q = I q) ∧ (∀ i, i ≠ 5 → I' 28 i = I 28 i)
theorem FrN.refl : FrN I I := ⟨fun _ _ _ => rfl, fun _ _ => rfl⟩
theorem FrN.trans {I1 I2 : Nat → Nat → Int32} (a : FrN I I1) (b : FrN I1 I2) : FrN I I2 := ⟨fun q q1 q2 => (b.1 q q1 q2).trans (a.1 q q1 q2), fun i hi => (b.2 i hi).trans (a.2 i hi)⟩
theorem FrN.plc {I' : Nat → Nat → Int32} (a : FrN I I') (h : PlC 1 P I) : PlC 1 P I' := h.congr (fun k _ _ => a.1 k (by omega) (by omega))
theorem FrN.cj {I' : Nat → Nat → Int32} {n : Nat} (a : FrN I I') (h : CJ P n I) : CJ P n I' := fun x y hx hy => by rw [a.1 29 (by decide) (by decide)]; exact h x y hx hy
def jkB (P : Pln) (g : Nmg) (x y z : Nat) : Bool := match g z with
  | none => true
  | some n => (jt P x z == jt P y n) && (jt P z x == jt P n y)
/-- x may be named y beside the names given -/
def okG (P : Pln) (g : Nmg) (x y : Nat) : Prop := (∀ z, g z ≠ some y) ∧ Pg P x = Pg P y ∧ allF (jkB P g x y) 0 (Pp P) = true
def gvP (P : Pln) (g : Nmg) (x y : Nat) : Prop := match g x with
  | some n => n = y
  | none => okG P g x y
theorem jkB_iff {g : Nmg} {x y : Nat} (hg : wfG P g) : allF (jkB P g x y) 0 (Pp P) = true ↔ ∀ z n, g z = some n → jt P x z = jt P y n ∧ jt P z x = jt P n y := by
  rw [allF_iff]
  constructor
  · intro h z n e
    have := h z (Nat.zero_le z) (by have := (hg z n e).1; omega)
    unfold jkB at this
    rw [e] at this
    simp only [Bool.and_eq_true, beq_iff_eq] at this
    exact this
  · intro h z _ _
    unfold jkB
    cases e : g z with
    | none => rfl
    | some n =>
      have := h z n e
      simp [this.1, this.2]
theorem gUp_same {g : Nmg} {x y : Nat} (h : g x = some y) : gUp g x y = g := by
  funext j
  unfold gUp
  by_cases z : j = x
  · rw [if_pos z, z, h]
  · rw [if_neg z]
theorem wfG_up {g : Nmg} {x y : Nat} (hg : wfG P g) (hx : x < Pp P) (hy : y < Pp P) : wfG P (gUp g x y) := by
  intro z n e
  unfold gUp at e
  by_cases q : z = x
  · rw [if_pos q] at e
    have e := Option.some.inj e
    omega
  · rw [if_neg q] at e
    exact hg z n e
theorem c_give (hF : 99999999 ≤ FU) (hC : PlC 1 P I) (hW : WfP P) (hJ : CJ P (Pn P) I) {g : Nmg} (hg : wfG P g) (hG : GS P g I) {x y : Nat} (hx : x < Pp P) (hy : y < Pp P) : (gvP P g x y ∧ ∃ I', fX2_give FU 28 (nI x) (nI y) (I, R0 pl (some 1) hd rd) = some (nI 1, (I', R0 pl (some 1) hd rd)) ∧ FrN I I' ∧ GS P (gUp g x y) I') ∨ (¬ gvP P g x y ∧ fX2_give FU 28 (nI x) (nI y) (I, R0 pl (some 1) hd rd) = some (nI 0, (I, R0 pl (some 1) hd rd))) := by
  have hp := wf_p hW
  have hn := wf_n hW
  obtain ⟨g1, u, g2, g3, g4⟩ := hG
  have gx := g1 x (by omega)
  unfold fX2_give gvP
  rw [fRb_28_4, aIb_30 (by omega), gx]
  cases ex : g x with
  | some n =>
    have hn2 := (hg x n ex).2
    have e0 : oI (some n) = nI n := rfl
    rw [e0, if_neg (by rw [li_0, w_lt (by omega) (by omega)]; omega), fRb_28_4, aIb_30 (by omega), gx, ex, e0]
    simp only
    by_cases z : n = y
    · left
      refine ⟨z, I, ?_, FrN.refl, ?_⟩
      · rw [if_neg (fun h => h (by rw [z]))]
        rfl
      · rw [gUp_same (by rw [ex, z])]
        exact ⟨g1, u, g2, g3, g4⟩
    · right
      refine ⟨z, ?_⟩
      rw [if_pos (by rw [w_eq (by omega) (by omega)]; exact z)]
      rfl
  | none =>
    have e0 : oI none < (0 : Int32) := by decide
    have c1 : ((nI u >>> (nI y &&& 31)) &&& (1 : Int32) = 0) = (u.testBit y = false) := by simp (discharger := omega) only [li_0, li_1, li_2, li_3, li_4, li_5, li_6, li_7, li_8, li_9, li_10, li_11, li_12, li_13, li_14, li_15, li_16, li_17, li_18, li_19, li_20, li_21, li_22, li_23, li_24, li_25, li_26, li_27, li_28, li_29, li_30, li_31, li_32, li_33, li_34, li_35, li_36, li_37, li_38, li_39, li_40, li_41, li_42, li_43, li_44, li_45, li_46, li_47, li_48, li_49, li_50, li_51, li_52, li_53, li_54, li_55, li_56, li_57, li_58, li_59, li_60, li_61, li_62, li_63, li_64, li_65, li_66, li_67, li_68, li_69, li_70, li_71, li_72, li_73, li_74, li_75, li_76, li_77, li_78, li_79, li_80, li_81, li_82, li_83, li_84, li_85, li_86, li_87, li_88, li_89, li_90, li_91, li_92, li_93, li_94, li_95, li_96, li_97, li_98, li_99, li_100, li_101, li_102, li_103, li_104, li_105, li_106, li_107, li_108, li_109, li_110, li_111, li_112, li_113, li_114, li_115, li_116, li_117, li_118, li_119, li_120, li_121, li_122, li_123, li_124, li_125, li_126, li_127, li_128, li_144, li_150, li_200, li_255, li_384, li_512, li_999, li_1000, li_1024, li_1152, li_1920, li_3776, li_4096, li_9216, li_10000, li_100000, li_1073741824, li_m, w_lt, w_le, w_eq, w_mlt, w_mle, w_ltm, w_lem, w_meq, w_eqm, w_mm, w_mmlt, w_mmle, nI_add, w_sub, pk_mul, w_div, w_rem, w_and, w_or, w_shr, w_shl1, w_a31, w_andn, w_a1, w_bit0]
    rw [if_pos e0, fIb_28, g2]
    simp only
    by_cases used : u.testBit y = true
    · right
      refine ⟨fun h => ?_, ?_⟩
      · obtain ⟨z, hz⟩ := (g4 y (by omega)).mp used
        exact h.1 z hz
      · rw [if_pos (by rw [c1, used]; decide)]
        rfl
    · have unused : u.testBit y = false := by simpa using used
      have noy : ∀ z, g z ≠ some y := fun z e => used ((g4 y (by omega)).mpr ⟨z, e⟩)
      have px := hC.2.2.2.2.2.2.2.2.2.2.1 x hx
      have py := hC.2.2.2.2.2.2.2.2.2.2.1 y hy
      have lx := wf_g hW hx
      have ly := wf_g hW hy
      rw [if_neg (by rw [c1]; exact fun h => h unused), fRb_28_0, fRb_1_6, aIb_7 (by omega), px, fRb_28_0, fRb_1_6, aIb_7 (by omega), py]
      by_cases gr : Pg P x = Pg P y
      · rw [if_pos (by rw [gr])]
        have jl := fun a b => jv_lt (P := P) a b hn
        have loop : ∀ d z F, d + z = Pp P → d < F → fX2_give_L61 FU 28 (nI x) (nI y) F (nI z) (I, R0 pl (some 1) hd rd) = if allF (jkB P g x y) z d = true then some (nI 1, (up2 (up2 I 30 x (nI y)) 28 5 (nI (u ||| 2 ^ y)), R0 pl (some 1) hd rd)) else some (nI 0, (I, R0 pl (some 1) hd rd)) := by
          intro d
          induction d with
          | zero =>
            intro z F h1 h2
            obtain ⟨G, rfl⟩ : ∃ G, F = G + 1 := ⟨F - 1, by omega⟩
            have e1 : (1 : Int32) <<< (nI y &&& 31) = nI (2 ^ y) := by simp (discharger := omega) only [li_0, li_1, li_2, li_3, li_4, li_5, li_6, li_7, li_8, li_9, li_10, li_11, li_12, li_13, li_14, li_15, li_16, li_17, li_18, li_19, li_20, li_21, li_22, li_23, li_24, li_25, li_26, li_27, li_28, li_29, li_30, li_31, li_32, li_33, li_34, li_35, li_36, li_37, li_38, li_39, li_40, li_41, li_42, li_43, li_44, li_45, li_46, li_47, li_48, li_49, li_50, li_51, li_52, li_53, li_54, li_55, li_56, li_57, li_58, li_59, li_60, li_61, li_62, li_63, li_64, li_65, li_66, li_67, li_68, li_69, li_70, li_71, li_72, li_73, li_74, li_75, li_76, li_77, li_78, li_79, li_80, li_81, li_82, li_83, li_84, li_85, li_86, li_87, li_88, li_89, li_90, li_91, li_92, li_93, li_94, li_95, li_96, li_97, li_98, li_99, li_100, li_101, li_102, li_103, li_104, li_105, li_106, li_107, li_108, li_109, li_110, li_111, li_112, li_113, li_114, li_115, li_116, li_117, li_118, li_119, li_120, li_121, li_122, li_123, li_124, li_125, li_126, li_127, li_128, li_144, li_150, li_200, li_255, li_384, li_512, li_999, li_1000, li_1024, li_1152, li_1920, li_3776, li_4096, li_9216, li_10000, li_100000, li_1073741824, li_m, w_lt, w_le, w_eq, w_mlt, w_mle, w_ltm, w_lem, w_meq, w_eqm, w_mm, w_mmlt, w_mmle, nI_add, w_sub, pk_mul, w_div, w_rem, w_and, w_or, w_shr, w_shl1, w_a31, w_andn]
            rw [fX2_give_L61, fRb_28_0, fIb_1, hC.1, if_pos (by rw [w_le (by omega) (by omega)]; omega), fRb_28_4, sIb_30 (by omega), fIb_28, up2_k (by decide), g2, e1, w_or, pIb_28]
            rfl
          | succ d ih =>
            intro z F h1 h2
            obtain ⟨G, rfl⟩ : ∃ G, F = G + 1 := ⟨F - 1, by omega⟩
            have f0 : ¬ nI (Pp P) ≤ nI z := by rw [w_le (by omega) (by omega)]; omega
            have gz := g1 z (by omega)
            have nx := ih (z + 1) G (by omega) (by omega)
            have st : allF (jkB P g x y) z (d + 1) = (jkB P g x y z && allF (jkB P g x y) (z + 1) d) := rfl
            rw [fX2_give_L61, fRb_28_0, fIb_1, hC.1, if_neg f0, fRb_28_4, aIb_30 (by omega), gz, st]
            unfold fX2_give_b139
            cases ez : g z with
            | none =>
              have hh : (jkB P g x y z && allF (jkB P g x y) (z + 1) d) = allF (jkB P g x y) (z + 1) d := by
                have jz : jkB P g x y z = true := by
                  unfold jkB
                  rw [ez]
                rw [jz, Bool.true_and]
              rw [if_pos (show oI none < (0 : Int32) by decide), li_1, nI_add, nx, hh]
            | some n =>
              have hn2 := (hg z n ez).2
              have e0 : oI (some n) = nI n := rfl
              have a1 : nI x * (8 : Int32) + nI z = nI (x * 8 + z) := by simp (discharger := omega) only [li_0, li_1, li_2, li_3, li_4, li_5, li_6, li_7, li_8, li_9, li_10, li_11, li_12, li_13, li_14, li_15, li_16, li_17, li_18, li_19, li_20, li_21, li_22, li_23, li_24, li_25, li_26, li_27, li_28, li_29, li_30, li_31, li_32, li_33, li_34, li_35, li_36, li_37, li_38, li_39, li_40, li_41, li_42, li_43, li_44, li_45, li_46, li_47, li_48, li_49, li_50, li_51, li_52, li_53, li_54, li_55, li_56, li_57, li_58, li_59, li_60, li_61, li_62, li_63, li_64, li_65, li_66, li_67, li_68, li_69, li_70, li_71, li_72, li_73, li_74, li_75, li_76, li_77, li_78, li_79, li_80, li_81, li_82, li_83, li_84, li_85, li_86, li_87, li_88, li_89, li_90, li_91, li_92, li_93, li_94, li_95, li_96, li_97, li_98, li_99, li_100, li_101, li_102, li_103, li_104, li_105, li_106, li_107, li_108, li_109, li_110, li_111, li_112, li_113, li_114, li_115, li_116, li_117, li_118, li_119, li_120, li_121, li_122, li_123, li_124, li_125, li_126, li_127, li_128, li_144, li_150, li_200, li_255, li_384, li_512, li_999, li_1000, li_1024, li_1152, li_1920, li_3776, li_4096, li_9216, li_10000, li_100000, li_1073741824, li_m, w_lt, w_le, w_eq, w_mlt, w_mle, w_ltm, w_lem, w_meq, w_eqm, w_mm, w_mmlt, w_mmle, nI_add, w_sub, pk_mul, w_div, w_rem, w_and, w_or, w_shr, w_shl1, w_a31, w_andn]
              have a2 : nI y * (8 : Int32) + nI n = nI (y * 8 + n) := by simp (discharger := omega) only [li_0, li_1, li_2, li_3, li_4, li_5, li_6, li_7, li_8, li_9, li_10, li_11, li_12, li_13, li_14, li_15, li_16, li_17, li_18, li_19, li_20, li_21, li_22, li_23, li_24, li_25, li_26, li_27, li_28, li_29, li_30, li_31, li_32, li_33, li_34, li_35, li_36, li_37, li_38, li_39, li_40, li_41, li_42, li_43, li_44, li_45, li_46, li_47, li_48, li_49, li_50, li_51, li_52, li_53, li_54, li_55, li_56, li_57, li_58, li_59, li_60, li_61, li_62, li_63, li_64, li_65, li_66, li_67, li_68, li_69, li_70, li_71, li_72, li_73, li_74, li_75, li_76, li_77, li_78, li_79, li_80, li_81, li_82, li_83, li_84, li_85, li_86, li_87, li_88, li_89, li_90, li_91, li_92, li_93, li_94, li_95, li_96, li_97, li_98, li_99, li_100, li_101, li_102, li_103, li_104, li_105, li_106, li_107, li_108, li_109, li_110, li_111, li_112, li_113, li_114, li_115, li_116, li_117, li_118, li_119, li_120, li_121, li_122, li_123, li_124, li_125, li_126, li_127, li_128, li_144, li_150, li_200, li_255, li_384, li_512, li_999, li_1000, li_1024, li_1152, li_1920, li_3776, li_4096, li_9216, li_10000, li_100000, li_1073741824, li_m, w_lt, w_le, w_eq, w_mlt, w_mle, w_ltm, w_lem, w_meq, w_eqm, w_mm, w_mmlt, w_mmle, nI_add, w_sub, pk_mul, w_div, w_rem, w_and, w_or, w_shr, w_shl1, w_a31, w_andn]
              have a3 : nI z * (8 : Int32) + nI x = nI (z * 8 + x) := by simp (discharger := omega) only [li_0, li_1, li_2, li_3, li_4, li_5, li_6, li_7, li_8, li_9, li_10, li_11, li_12, li_13, li_14, li_15, li_16, li_17, li_18, li_19, li_20, li_21, li_22, li_23, li_24, li_25, li_26, li_27, li_28, li_29, li_30, li_31, li_32, li_33, li_34, li_35, li_36, li_37, li_38, li_39, li_40, li_41, li_42, li_43, li_44, li_45, li_46, li_47, li_48, li_49, li_50, li_51, li_52, li_53, li_54, li_55, li_56, li_57, li_58, li_59, li_60, li_61, li_62, li_63, li_64, li_65, li_66, li_67, li_68, li_69, li_70, li_71, li_72, li_73, li_74, li_75, li_76, li_77, li_78, li_79, li_80, li_81, li_82, li_83, li_84, li_85, li_86, li_87, li_88, li_89, li_90, li_91, li_92, li_93, li_94, li_95, li_96, li_97, li_98, li_99, li_100, li_101, li_102, li_103, li_104, li_105, li_106, li_107, li_108, li_109, li_110, li_111, li_112, li_113, li_114, li_115, li_116, li_117, li_118, li_119, li_120, li_121, li_122, li_123, li_124, li_125, li_126, li_127, li_128, li_144, li_150, li_200, li_255, li_384, li_512, li_999, li_1000, li_1024, li_1152, li_1920, li_3776, li_4096, li_9216, li_10000, li_100000, li_1073741824, li_m, w_lt, w_le, w_eq, w_mlt, w_mle, w_ltm, w_lem, w_meq, w_eqm, w_mm, w_mmlt, w_mmle, nI_add, w_sub, pk_mul, w_div, w_rem, w_and, w_or, w_shr, w_shl1, w_a31, w_andn]
              have a4 : nI n * (8 : Int32) + nI y = nI (n * 8 + y) := by simp (discharger := omega) only [li_0, li_1, li_2, li_3, li_4, li_5, li_6, li_7, li_8, li_9, li_10, li_11, li_12, li_13, li_14, li_15, li_16, li_17, li_18, li_19, li_20, li_21, li_22, li_23, li_24, li_25, li_26, li_27, li_28, li_29, li_30, li_31, li_32, li_33, li_34, li_35, li_36, li_37, li_38, li_39, li_40, li_41, li_42, li_43, li_44, li_45, li_46, li_47, li_48, li_49, li_50, li_51, li_52, li_53, li_54, li_55, li_56, li_57, li_58, li_59, li_60, li_61, li_62, li_63, li_64, li_65, li_66, li_67, li_68, li_69, li_70, li_71, li_72, li_73, li_74, li_75, li_76, li_77, li_78, li_79, li_80, li_81, li_82, li_83, li_84, li_85, li_86, li_87, li_88, li_89, li_90, li_91, li_92, li_93, li_94, li_95, li_96, li_97, li_98, li_99, li_100, li_101, li_102, li_103, li_104, li_105, li_106, li_107, li_108, li_109, li_110, li_111, li_112, li_113, li_114, li_115, li_116, li_117, li_118, li_119, li_120, li_121, li_122, li_123, li_124, li_125, li_126, li_127, li_128, li_144, li_150, li_200, li_255, li_384, li_512, li_999, li_1000, li_1024, li_1152, li_1920, li_3776, li_4096, li_9216, li_10000, li_100000, li_1073741824, li_m, w_lt, w_le, w_eq, w_mlt, w_mle, w_ltm, w_lem, w_meq, w_eqm, w_mm, w_mmlt, w_mmle, nI_add, w_sub, pk_mul, w_div, w_rem, w_and, w_or, w_shr, w_shl1, w_a31, w_andn]
              have l1 := jl x z
              have l2 := jl y n
              have l3 := jl z x
              have l4 := jl n y
              rw [e0, if_neg (by rw [li_0, w_lt (by omega) (by omega)]; omega), a1, a2, a3, a4, fRb_28_3, aIb_29 (by omega), hJ x z (by omega) (by omega), fRb_28_3, aIb_29 (by omega), hJ y n (by omega) (by omega), fRb_28_3, aIb_29 (by omega), hJ z x (by omega) (by omega), fRb_28_3, aIb_29 (by omega), hJ n y (by omega) (by omega), li_1, nI_add, nx]
              have jz : jkB P g x y z = ((jt P x z == jt P y n) && (jt P z x == jt P n y)) := by
                unfold jkB
                rw [ez]
              show (if ¬ nI (jt P x z) = nI (jt P y n) then _ else (if nI (jt P z x) = nI (jt P n y) then _ else _)) = _
              by_cases q1 : jt P x z = jt P y n
              · by_cases q2 : jt P z x = jt P n y
                · have hh : (jkB P g x y z && allF (jkB P g x y) (z + 1) d) = allF (jkB P g x y) (z + 1) d := by
                    rw [jz, beq_iff_eq.mpr q1, beq_iff_eq.mpr q2, Bool.true_and, Bool.true_and]
                  rw [if_neg (fun h => h (by rw [q1])), if_pos (by rw [q2]), hh]
                · have hh : (jkB P g x y z && allF (jkB P g x y) (z + 1) d) = false := by
                    have q3 : (jt P z x == jt P n y) = false := by simpa using q2
                    rw [jz, q3, Bool.and_false, Bool.false_and]
                  rw [if_neg (fun h => h (by rw [q1])), if_neg (by rw [w_eq (by exact Nat.lt_trans l3 (by decide)) (by exact Nat.lt_trans l4 (by decide))]; exact q2), hh, if_neg Bool.false_ne_true]
                  rfl
              · have hh : (jkB P g x y z && allF (jkB P g x y) (z + 1) d) = false := by
                  have q3 : (jt P x z == jt P y n) = false := by simpa using q1
                  rw [jz, q3, Bool.false_and, Bool.false_and]
                rw [if_pos (by rw [w_eq (by exact Nat.lt_trans l1 (by decide)) (by exact Nat.lt_trans l2 (by decide))]; exact q1), hh, if_neg Bool.false_ne_true]
                rfl
        have l0 := loop (Pp P) 0 FU (by omega) (by omega)
        by_cases ok : allF (jkB P g x y) 0 (Pp P) = true
        · left
          rw [if_pos ok] at l0
          refine ⟨⟨noy, gr, ok⟩, _, l0, ⟨fun q q1 q2 => by rw [up2_ne q1, up2_ne q2], fun i hi => by rw [up2_i hi, up2_k (by decide)]⟩, fun j hj => ?_, u ||| 2 ^ y, ?_, ?_, fun y' hy' => ?_⟩
          · unfold gUp
            rw [up2_k (by decide)]
            by_cases z : j = x
            · rw [if_pos z, z, up2_s]
              rfl
            · rw [if_neg z, up2_i z, g1 j hj]
          · rw [up2_s]
          · exact Nat.or_lt_two_pow (n := 8) g3 (pw_lt (by omega))
          · rw [Nat.testBit_or, Bool.or_eq_true, g4 y' hy', Nat.testBit_two_pow, decide_eq_true_eq]
            unfold gUp
            constructor
            · rintro (⟨z, hz⟩ | e)
              · exact ⟨z, by rw [if_neg (fun q => by rw [q, ex] at hz; cases hz)]; exact hz⟩
              · exact ⟨x, by rw [if_pos rfl, e]⟩
            · rintro ⟨z, hz⟩
              by_cases q : z = x
              · rw [if_pos q] at hz
                exact Or.inr (Option.some.inj hz)
              · rw [if_neg q] at hz
                exact Or.inl ⟨z, hz⟩
        · right
          rw [if_neg ok] at l0
          exact ⟨fun h => ok h.2.2, l0⟩
      · right
        refine ⟨fun h => gr h.2.1, ?_⟩
        rw [if_neg (by rw [w_eq (by omega) (by omega)]; exact gr)]
        rfl
/-- some turning gives all these names -/
def Ex (P : Pln) (g : Nmg) : Prop := ∃ f, Aut P f ∧ ∀ z n, g z = some n → f z = n
noncomputable def exB (P : Pln) (g : Nmg) : Bool := @decide (Ex P g) (Classical.propDecidable _)
theorem exB_iff {g : Nmg} : exB P g = true ↔ Ex P g := by
  unfold exB
  exact @decide_eq_true_iff _ (Classical.propDecidable _)
/-- the names given are right beside each other -/
def Con (P : Pln) (g : Nmg) : Prop := ∀ z n, g z = some n → Pg P z = Pg P n ∧ ∀ z' n', z' ≠ z → g z' = some n' → n' ≠ n ∧ jt P z z' = jt P n n'
theorem gv_con {g : Nmg} {x y : Nat} (hg : wfG P g) (hc : Con P g) (hv : gvP P g x y) : Con P (gUp g x y) := by
  unfold gvP at hv
  cases ex : g x with
  | some n =>
    rw [ex] at hv
    have hv : n = y := hv
    rw [gUp_same (by rw [ex, hv])]
    exact hc
  | none =>
    rw [ex] at hv
    obtain ⟨h1, h2, h3⟩ := hv
    have h3 := (jkB_iff hg).mp h3
    intro z n e
    unfold gUp at e
    by_cases q : z = x
    · rw [if_pos q] at e
      have e := Option.some.inj e
      subst e q
      refine ⟨h2, fun z' n' z1 z2 => ?_⟩
      unfold gUp at z2
      rw [if_neg z1] at z2
      exact ⟨fun e => h1 z' (by rw [z2, e]), (h3 z' n' z2).1⟩
    · rw [if_neg q] at e
      refine ⟨(hc z n e).1, fun z' n' z1 z2 => ?_⟩
      unfold gUp at z2
      by_cases q' : z' = x
      · rw [if_pos q'] at z2
        have z2 := Option.some.inj z2
        subst z2 q'
        exact ⟨fun e' => h1 z (by rw [e, e']), (h3 z n e).2⟩
      · rw [if_neg q'] at z2
        exact (hc z n e).2 z' n' z1 z2
/-- a turning's name may be given -/
theorem ex_gv (hW : WfP P) {g : Nmg} {x y : Nat} (hg : wfG P g) (hx : x < Pp P) {f : Nat → Nat} (hf : Aut P f) (h1 : ∀ z n, g z = some n → f z = n) (h2 : f x = y) : gvP P g x y := by
  obtain ⟨a1, a2, a3⟩ := (aut_iff hW).mp hf
  unfold gvP
  cases ex : g x with
  | some n =>
    show n = y
    rw [← h2, h1 x n ex]
  | none =>
    refine ⟨fun z e => ?_, by rw [← h2]; exact (a1 x hx).2, (jkB_iff hg).mpr (fun z n e => ?_)⟩
    · have z1 := (hg z y e).1
      have z2 := h1 z y e
      exact a2 z x z1 hx (fun q => by rw [q, ex] at e; cases e) (by rw [z2, h2])
    · have z1 := (hg z n e).1
      have z2 := h1 z n e
      rw [← z2, ← h2]
      exact ⟨a3 x z hx z1, a3 z x z1 hx⟩
theorem con_all (hW : WfP P) {g : Nmg} (hg : wfG P g) (hc : Con P g) (ha : ∀ z, z < Pp P → g z ≠ none) : Ex P g := by
  have gf : ∀ z, z < Pp P → g z = some ((g z).getD 0) := by
    intro z hz
    cases e : g z with
    | none => exact absurd e (ha z hz)
    | some n => rfl
  refine ⟨fun z => (g z).getD 0, (aut_iff hW).mpr ⟨fun a h => ?_, fun a b h1 h2 hab => ?_, fun a b h1 h2 => ?_⟩, fun z n e => by show (g z).getD 0 = n; rw [e]; rfl⟩
  · exact ⟨(hg a _ (gf a h)).2, (hc a _ (gf a h)).1⟩
  · exact ((hc b _ (gf b h2)).2 a _ hab (gf a h1)).1
  · by_cases z : a = b
    · subst z
      exact jv_self hW _ _
    · exact ((hc a _ (gf a h1)).2 b _ (fun e => z e.symm) (gf b h2)).2
theorem c_nameRest (hF : 99999999 ≤ FU) (hW : WfP P) : ∀ d x n g I, d + x = Pp P → d < n → PlC 1 P I → CJ P (Pn P) I → wfG P g → Con P g → (∀ z, z < x → g z ≠ none) → GS P g I → ∃ I', qX2_canNameRest FU n 28 (nI x) (I, R0 pl (some 1) hd rd) = some (b01 (exB P g = true), (I', R0 pl (some 1) hd rd)) ∧ FrN I I' ∧ (exB P g = false → GS P g I') := by
  have hp := wf_p hW
  intro d
  induction d with
  | zero =>
    intro x n g I h1 h2 hC hJ hg hc ha hG
    obtain ⟨m, rfl⟩ : ∃ m, n = m + 1 := ⟨n - 1, by omega⟩
    have e : exB P g = true := exB_iff.mpr (con_all hW hg hc (fun z hz => ha z (by omega)))
    refine ⟨I, ?_, FrN.refl, fun _ => hG⟩
    show fX2_canNameRest FU (qX2_canNameRest FU m) 28 (nI x) _ = _
    unfold fX2_canNameRest
    rw [fRb_28_0, fIb_1, hC.1, if_neg (by rw [w_lt (by omega) (by omega)]; omega), b01_pos e]
    rfl
  | succ d ih =>
    intro x n g I h1 h2 hC hJ hg hc ha hG
    obtain ⟨m, rfl⟩ : ∃ m, n = m + 1 := ⟨n - 1, by omega⟩
    have f0 : nI x < nI (Pp P) := by rw [w_lt (by omega) (by omega)]; omega
    have gx := hG.1 x (by omega)
    show ∃ I', fX2_canNameRest FU (qX2_canNameRest FU m) 28 (nI x) _ = _ ∧ _
    unfold fX2_canNameRest
    rw [fRb_28_0, fIb_1, hC.1, if_pos f0, fRb_28_4, aIb_30 (by omega), gx]
    cases ex : g x with
    | some k =>
      have hk := (hg x k ex).2
      have e0 : oI (some k) = nI k := rfl
      obtain ⟨I', a1, a2, a3⟩ := ih (x + 1) m g I (by omega) (by omega) hC hJ hg hc (fun z hz => by
        by_cases q : z = x
        · rw [q, ex]; exact fun h => by cases h
        · exact ha z (by omega)) hG
      refine ⟨I', ?_, a2, a3⟩
      rw [e0, if_neg (by rw [li_0, w_lt (by omega) (by omega)]; omega), show rc 2 (some 28) = some 28 from rfl, w_bind, li_1, nI_add, dn a1, if_pos]
      unfold b01
      split
      · exact Or.inr rfl
      · exact Or.inl rfl
    | none =>
      rw [if_pos (show oI none < (0 : Int32) by decide)]
      have loop : ∀ e y I F, e + y = Pp P → e < F → PlC 1 P I → CJ P (Pn P) I → GS P g I → (∀ y', y' < y → ¬ Ex P (gUp g x y')) → ∃ I', fX2_canNameRest_L32 FU (qX2_canNameRest FU m) 28 (nI x) F (nI y) (I, R0 pl (some 1) hd rd) = some (b01 (exB P g = true), (I', R0 pl (some 1) hd rd)) ∧ FrN I I' ∧ (exB P g = false → GS P g I') := by
        intro e
        induction e with
        | zero =>
          intro y I F k1 k2 hC hJ hG hno
          obtain ⟨G, rfl⟩ : ∃ G, F = G + 1 := ⟨F - 1, by omega⟩
          have ne : ¬ exB P g = true := by
            intro q
            obtain ⟨f, f1, f2⟩ := exB_iff.mp q
            have fx := (f1 x (by omega)).1
            apply hno (f x) (by omega)
            refine ⟨f, f1, fun z n e => ?_⟩
            unfold gUp at e
            by_cases w : z = x
            · rw [if_pos w] at e
              rw [w]
              exact Option.some.inj e
            · rw [if_neg w] at e
              exact f2 z n e
          refine ⟨I, ?_, FrN.refl, fun _ => hG⟩
          rw [fX2_canNameRest_L32, fRb_28_0, fIb_1, hC.1, if_pos (by rw [w_le (by omega) (by omega)]; omega), b01_neg ne]
          rfl
        | succ e ihe =>
          intro y I F k1 k2 hC hJ hG hno
          obtain ⟨G, rfl⟩ : ∃ G, F = G + 1 := ⟨F - 1, by omega⟩
          have g0 : ¬ nI (Pp P) ≤ nI y := by rw [w_le (by omega) (by omega)]; omega
          have exu : Ex P (gUp g x y) → ∃ f, Aut P f ∧ (∀ z n, g z = some n → f z = n) ∧ f x = y := by
            rintro ⟨f, f1, f2⟩
            refine ⟨f, f1, fun z n ez => f2 z n ?_, f2 x y ?_⟩
            · unfold gUp
              rw [if_neg (fun q => by rw [q, ex] at ez; cases ez)]
              exact ez
            · unfold gUp
              rw [if_pos rfl]
          rw [fX2_canNameRest_L32, fRb_28_0, fIb_1, hC.1, if_neg g0, show rc 2 (some 28) = some 28 from rfl, w_bind]
          unfold fX2_canNameRest_b85
          rcases c_give (FU := FU) (pl := pl) (hd := hd) (rd := rd) hF hC hW hJ hg hG (x := x) (y := y) (by omega) (by omega) with ⟨gv, I1, b1, b2, b3⟩ | ⟨gv, b1⟩
          · obtain ⟨I2, c1, c2, c3⟩ := ih (x + 1) m (gUp g x y) I1 (by omega) (by omega) (b2.plc hC) (b2.cj hJ) (wfG_up hg (by omega) (by omega)) (gv_con hg hc gv) (fun z hz => by
              unfold gUp
              by_cases q : z = x
              · rw [if_pos q]; exact fun h => by cases h
              · rw [if_neg q]; exact ha z (by omega)) b3
            rw [dn b1, if_neg (by decide), w_bind, li_1, nI_add, dn c1]
            by_cases q : exB P (gUp g x y) = true
            · have eg : exB P g = true := by
                obtain ⟨f, f1, f2, _⟩ := exu (exB_iff.mp q)
                exact exB_iff.mpr ⟨f, f1, f2⟩
              refine ⟨I2, ?_, b2.trans c2, fun h => by rw [eg] at h; cases h⟩
              rw [b01_pos q, if_neg (by decide), b01_pos eg]
            · have q2 : exB P (gUp g x y) = false := by simpa using q
              obtain ⟨d1, u, d2, d3, d4⟩ := c3 q2
              have okg : okG P g x y := by
                unfold gvP at gv
                rw [ex] at gv
                exact gv
              generalize hT : up2 (up2 I2 30 x (mI 1)) 28 5 (nI (andn u (2 ^ y))) = T
              have tF : FrN I2 T := ⟨fun q q1 q2 => by rw [← hT, up2_ne q1, up2_ne q2], fun i hi => by rw [← hT, up2_i hi, up2_k (by decide)]⟩
              have tG : GS P g T := by
                refine ⟨fun j hj => ?_, andn u (2 ^ y), ?_, ?_, fun y' hy' => ?_⟩
                · rw [← hT, up2_k (by decide)]
                  by_cases w : j = x
                  · rw [w, up2_s, ex]
                    rfl
                  · rw [up2_i w, d1 j hj]
                    unfold gUp
                    rw [if_neg w]
                · rw [← hT, up2_s]
                · exact Nat.lt_of_le_of_lt (andn_le _ _) d3
                · rw [tb_andn, Bool.and_eq_true, d4 y' hy', Nat.testBit_two_pow]
                  unfold gUp
                  constructor
                  · rintro ⟨⟨z, hz⟩, ny⟩
                    by_cases w : z = x
                    · rw [if_pos w] at hz
                      have hz := Option.some.inj hz
                      rw [hz] at ny
                      simp at ny
                    · rw [if_neg w] at hz
                      exact ⟨z, hz⟩
                  · rintro ⟨z, hz⟩
                    refine ⟨⟨z, ?_⟩, ?_⟩
                    · rw [if_neg (fun q => by rw [q, ex] at hz; cases hz)]
                      exact hz
                    · have : y ≠ y' := fun w => okg.1 z (by rw [hz, w])
                      simp [this]
              have fT := (b2.trans c2).trans tF
              obtain ⟨I3, e1, e2, e3⟩ := ihe (y + 1) T G (by omega) (by omega) (fT.plc hC) (fT.cj hJ) tG (fun y' hy' => by
                by_cases w : y' = y
                · rw [w]
                  exact fun h => q (exB_iff.mpr h)
                · exact hno y' (by omega))
              refine ⟨I3, ?_, fT.trans e2, e3⟩
              have x1 : up2 I2 30 x (-nI 1) 28 5 = nI u := by rw [up2_k (by decide), d2]
              have x2 : nI u &&& ((nI 1 <<< (nI y &&& 31)) ^^^ (-nI 1)) = nI (andn u (2 ^ y)) := by simp (discharger := omega) only [li_0, li_1, li_2, li_3, li_4, li_5, li_6, li_7, li_8, li_9, li_10, li_11, li_12, li_13, li_14, li_15, li_16, li_17, li_18, li_19, li_20, li_21, li_22, li_23, li_24, li_25, li_26, li_27, li_28, li_29, li_30, li_31, li_32, li_33, li_34, li_35, li_36, li_37, li_38, li_39, li_40, li_41, li_42, li_43, li_44, li_45, li_46, li_47, li_48, li_49, li_50, li_51, li_52, li_53, li_54, li_55, li_56, li_57, li_58, li_59, li_60, li_61, li_62, li_63, li_64, li_65, li_66, li_67, li_68, li_69, li_70, li_71, li_72, li_73, li_74, li_75, li_76, li_77, li_78, li_79, li_80, li_81, li_82, li_83, li_84, li_85, li_86, li_87, li_88, li_89, li_90, li_91, li_92, li_93, li_94, li_95, li_96, li_97, li_98, li_99, li_100, li_101, li_102, li_103, li_104, li_105, li_106, li_107, li_108, li_109, li_110, li_111, li_112, li_113, li_114, li_115, li_116, li_117, li_118, li_119, li_120, li_121, li_122, li_123, li_124, li_125, li_126, li_127, li_128, li_144, li_150, li_200, li_255, li_384, li_512, li_999, li_1000, li_1024, li_1152, li_1920, li_3776, li_4096, li_9216, li_10000, li_100000, li_1073741824, li_m, w_lt, w_le, w_eq, w_mlt, w_mle, w_ltm, w_lem, w_meq, w_eqm, w_mm, w_mmlt, w_mmle, nI_add, w_sub, pk_mul, w_div, w_rem, w_and, w_or, w_shr, w_shl1, w_a31, w_andn]
              have hT' : up2 (up2 I2 30 x (-nI 1)) 28 5 (nI (andn u (2 ^ y))) = T := hT
              rw [b01_neg q, if_pos (by decide), fRb_28_4, sIb_30 (by omega), fIb_28, x1, x2, pIb_28, hT', nI_add]
              exact e1
          · obtain ⟨I3, e1, e2, e3⟩ := ihe (y + 1) I G (by omega) (by omega) hC hJ hG (fun y' hy' => by
              by_cases w : y' = y
              · rw [w]
                intro h
                obtain ⟨f, f1, f2, f3⟩ := exu h
                exact gv (ex_gv hW hg (by omega) f1 f2 f3)
              · exact hno y' (by omega))
            refine ⟨I3, ?_, e2, e3⟩
            rw [dn b1, if_pos (by decide), li_1, nI_add]
            exact e1
      exact loop (Pp P) 0 I FU (by omega) (by omega) hC hJ hG (fun y' hy' => by omega)
end Nam3
