/-! the reference's solve -/
section RefS2
variable {FU : Nat} {P : Pln} {I : Nat → Nat → Int32} {pl nm hd rd : Option Nat}
def sR (k : Nat) : Sd := (k / 1152, k / 144 % 8, k / 18 % 8, k / 9 % 2, k % 9)
theorem sR_in {k : Nat} (h : k < 9216) : inS (sR k) := by
  unfold inS sR
  simp only
  omega
theorem cR_sR (k : Nat) : cR (sR k) = k := by
  unfold cR sR
  simp only
  omega
theorem sR_cR {s : Sd} (h : inS s) : sR (cR s) = s := by
  obtain ⟨h1, h2, h3, h4, h5⟩ := h
  unfold sR cR
  rw [q_1 h2 h3 h4 h5, q_2 h2 h3 h4 h5, q_3 h2 h3 h4 h5, q_4 h2 h3 h4 h5, q_5 h5]
/-- f below i, g from there on -/
def pre {α : Type} (f g : Nat → α) (i : Nat) : Nat → α := fun k => if k < i then f k else g k
theorem pre_0 {α : Type} (f g : Nat → α) : pre f g 0 = g := by
  funext k
  unfold pre
  rw [if_neg (by omega)]
theorem pre_s {α : Type} (f g : Nat → α) (i : Nat) {x : α} (hx : x = f i) : va_up (pre f g i) i x = pre f g (i + 1) := by
  funext k
  unfold va_up pre
  by_cases e : k = i
  · subst e
    rw [if_pos rfl, if_pos (by omega), hx]
  · rw [if_neg e]
    by_cases e2 : k < i
    · rw [if_pos e2, if_pos (by omega)]
    · rw [if_neg e2, if_neg (by omega)]
theorem pre_n {α : Type} (f g : Nat → α) (i : Nat) (hx : f i = g i) : pre f g i = pre f g (i + 1) := by
  funext k
  unfold pre
  by_cases e : k = i
  · subst e
    rw [if_neg (by omega), if_pos (by omega), hx]
  · by_cases e2 : k < i
    · rw [if_pos e2, if_pos (by omega)]
    · rw [if_neg e2, if_neg (by omega)]
/-- two rows anew -/
def M67 (I : Nat → Nat → Int32) (A B : Nat → Int32) : Nat → Nat → Int32 := va_up (va_up I 66 A) 67 B
theorem M67_66 {A B : Nat → Int32} : M67 I A B 66 = A := rfl
theorem M67_67 {A B : Nat → Int32} : M67 I A B 67 = B := rfl
theorem M67_o {A B : Nat → Int32} {k : Nat} (h1 : k ≠ 66) (h2 : k ≠ 67) : M67 I A B k = I k := by
  unfold M67 va_up
  rw [if_neg h2, if_neg h1]
theorem M67_same : M67 I (I 66) (I 67) = I := by
  funext k
  unfold M67 va_up
  split
  · rename_i e; rw [e]
  · split
    · rename_i e; rw [e]
    · rfl
theorem M67_a {A B : Nat → Int32} {i : Nat} {x : Int32} : up2 (M67 I A B) 66 i x = M67 I (va_up A i x) B := by
  funext k
  by_cases e : k = 66
  · subst e
    rw [up2_eq]
    rfl
  · rw [up2_ne e]
    unfold M67 va_up
    simp [e]
theorem M67_b {A B : Nat → Int32} {i : Nat} {x : Int32} : up2 (M67 I A B) 67 i x = M67 I A (va_up B i x) := by
  funext k
  by_cases e : k = 67
  · subst e
    rw [up2_eq]
    rfl
  · rw [up2_ne e]
    unfold M67 va_up
    simp [e]
theorem M67_Pl {A B : Nat → Int32} (h : PlR P I) : PlR P (M67 I A B) := h.congr (fun i _ => by rw [M67_o (by decide) (by decide)]) (fun k h1 h2 => M67_o (by omega) (by omega))
def RowL (lf : Sd → Option Nat) (A : Nat → Int32) : Prop := ∀ k, k < 9216 → A k = oI (lf (sR k))
def newB (P : Pln) (j : Nat) (lf : Sd → Option Nat) (k : Nat) : Bool := (lf (sR k)).isNone && (vdB P (sR k) && isOfB P lf j (sR k))
theorem lay1_new {j : Nat} {lf : Sd → Option Nat} {k : Nat} : lay1 P j lf (sR k) = if newB P j lf k = true then some (j + 1) else lf (sR k) := by
  unfold lay1 newB
  by_cases h1 : lf (sR k) = none <;> by_cases h2 : vdB P (sR k) = true <;> by_cases h3 : isOfB P lf j (sR k) = true <;> simp [h1, h2, h3]
theorem nar1_0 : narA 1 (nI 0) = nI 0 := by decide
theorem nar1_1 : narA 1 (nI 1) = nI 1 := by decide
theorem nar1_b {c : Prop} [Decidable c] : narA 1 (b01 c) = b01 c := by
  by_cases h : c
  · rw [b01_pos h]; exact nar1_1
  · rw [b01_neg h]; exact nar1_0
theorem r_layer (hF : 99999999 ≤ FU) (hP : PlR P I) (hW : WfP P) {A B : Nat → Int32} {lf : Sd → Option Nat} {j : Nat} (hj : j < 99999) (hA : RowL lf A) (hlt : ∀ t n, lf t = some n → n < 100000) {K : Int32 → Int32 → Mem → Option Mem} : ∃ A' B', RowL (lay1 P j lf) A' ∧ fX9_solve_L67 FU K 60 (nI 0) (nI (j + 1)) FU (nI 0) (M67 I A B, R0 pl nm hd rd) = K (b01 (anyB (newB P j lf) 9216 = true)) (nI (j + 2)) (M67 I A' B', R0 pl nm hd rd) := by
  have nb : ∀ k, (newB P j lf k = true) = (lf (sR k) = none ∧ vdB P (sR k) = true ∧ isOfB P lf j (sR k) = true) := by
    intro k
    unfold newB
    simp
  have s1 : ∀ i, i < 9216 → ∀ F, fX9_solve_L67 FU K 60 (nI 0) (nI (j + 1)) (F + 1) (nI i) (M67 I A (pre (fun k => b01 (newB P j lf k = true)) B i), R0 pl nm hd rd) = fX9_solve_L67 FU K 60 (nI 0) (nI (j + 1)) F (nI (i + 1)) (M67 I A (pre (fun k => b01 (newB P j lf k = true)) B (i + 1)), R0 pl nm hd rd) := by
    intro i hi F
    have d1 := r_isOne (FU := FU) (pl := pl) (nm := nm) (hd := hd) (rd := rd) hF (M67_Pl (A := A) (B := pre (fun k => b01 (newB P j lf k = true)) B i) hP) hW (sR_in hi)
    rw [cR_sR] at d1
    have d2 := hA i hi
    have ps := pre_s (fun k => b01 (newB P j lf k = true)) B i (x := b01 (newB P j lf i = true)) rfl
    rw [← ps, ← M67_b]
    rw [fX9_solve_L67]
    unfold fX9_solve_b109 fX9_solve_b110
    cases e : lf (sR i) with
    | some n =>
      have d3 := hlt _ _ e
      rw [e] at d2
      have e2 : newB P j lf i = false := by unfold newB; simp [e]
      simp (discharger := omega) only [li_0, li_1, li_2, li_3, li_4, li_5, li_6, li_7, li_8, li_9, li_10, li_11, li_12, li_13, li_14, li_15, li_16, li_17, li_18, li_19, li_20, li_21, li_22, li_23, li_24, li_25, li_26, li_27, li_28, li_29, li_30, li_31, li_32, li_33, li_34, li_35, li_36, li_37, li_38, li_39, li_40, li_41, li_42, li_43, li_44, li_45, li_46, li_47, li_48, li_49, li_50, li_51, li_52, li_53, li_54, li_55, li_56, li_57, li_58, li_59, li_60, li_61, li_62, li_63, li_64, li_65, li_66, li_67, li_68, li_69, li_70, li_71, li_72, li_73, li_74, li_75, li_76, li_77, li_78, li_79, li_80, li_81, li_82, li_83, li_84, li_85, li_86, li_87, li_88, li_89, li_90, li_91, li_92, li_93, li_94, li_95, li_96, li_97, li_98, li_99, li_100, li_101, li_102, li_103, li_104, li_105, li_106, li_107, li_108, li_109, li_110, li_111, li_112, li_113, li_114, li_115, li_116, li_117, li_118, li_119, li_120, li_121, li_122, li_123, li_124, li_125, li_126, li_127, li_128, li_144, li_150, li_200, li_255, li_384, li_512, li_999, li_1000, li_1024, li_1152, li_1920, li_3776, li_4096, li_9216, li_10000, li_100000, li_1073741824, li_m, ↓rcb_60, ↓fIb_60, ↓pIb_60, ↓fRb_60_4, ↓fRb_60_5, ↓fRb_60_6, ↓fRb_60_7, ↓fRb_60_8, ↓fRb_60_10, ↓fRb_60_11, ↓fRb_60_12, ↓fRb_60_13, ↓fRb_60_14, ↓fRb_60_16, ↓fRb_60_17, ↓fRb_60_18, ↓fRb_60_24, ↓fRb_60_25, ↓fRb_60_26, ↓fRb_60_30, ↓fRb_60_31, ↓fRb_60_36, ↓fRb_60_37, ↓fRb_60_42, ↓fRb_60_43, ↓fRb_60_44, ↓fRb_60_45, ↓aIb_61, ↓sIb_61, ↓aIb_62, ↓sIb_62, ↓aIb_63, ↓sIb_63, ↓aIb_64, ↓sIb_64, ↓aIb_65, ↓sIb_65, ↓aIb_66, ↓sIb_66, ↓aIb_67, ↓sIb_67, ↓aIb_68, ↓sIb_68, ↓aIb_69, ↓sIb_69, ↓aIb_70, ↓sIb_70, ↓aIb_71, ↓sIb_71, ↓aIb_72, ↓sIb_72, ↓aIb_73, ↓sIb_73, ↓aIb_74, ↓sIb_74, ↓aIb_75, ↓sIb_75, ↓aIb_76, ↓sIb_76, ↓aIb_77, ↓sIb_77, ↓aIb_78, ↓sIb_78, ↓aIb_79, ↓sIb_79, ↓aIb_80, ↓sIb_80, ↓aIb_81, ↓sIb_81, ↓aIb_82, ↓sIb_82, ↓aIb_83, ↓sIb_83, ↓aIb_84, ↓sIb_84, r0_60_4, r0_60_5, r0_60_6, r0_60_7, r0_60_8, r0_60_10, r0_60_11, r0_60_12, r0_60_13, r0_60_14, r0_60_16, r0_60_17, r0_60_18, r0_60_24, r0_60_25, r0_60_26, r0_60_30, r0_60_31, r0_60_36, r0_60_37, r0_60_42, r0_60_43, r0_60_44, r0_60_45, rc_60, fI_60, fR_60, pI_60, aI_61, sI_61, aI_62, sI_62, aI_63, sI_63, aI_64, sI_64, aI_65, sI_65, aI_66, sI_66, aI_67, sI_67, aI_68, sI_68, aI_69, sI_69, aI_70, sI_70, aI_71, sI_71, aI_72, sI_72, aI_73, sI_73, aI_74, sI_74, aI_75, sI_75, aI_76, sI_76, aI_77, sI_77, aI_78, sI_78, aI_79, sI_79, aI_80, sI_80, aI_81, sI_81, aI_82, sI_82, aI_83, sI_83, aI_84, sI_84, ↓dn d1, w_bind, w_bd2, b01_eq0, b01_ok, b01_ok2, w_lt, w_le, w_eq, w_mlt, w_mle, w_ltm, w_lem, w_meq, w_eqm, w_mm, w_mmlt, w_mmle, nI_add, w_sub, pk_mul, w_div, w_rem, w_and, w_or, w_shr, w_shl1, w_a31, w_andn, M67_66, d2, oI, show ¬ 9216 ≤ i by omega, if_false, nar1_0, if_true, e2, b01]
      simp
    | none =>
      rw [e] at d2
      by_cases v : vdB P (sR i) = true
      · have d4 := r_isOf (FU := FU) (pl := pl) (nm := nm) (hd := hd) (rd := rd) hF (M67_Pl (A := A) (B := pre (fun k => b01 (newB P j lf k = true)) B i) hP) hW (vdB_iff.mp v) (l := j) (lf := lf) (by omega) (by intro t ht; rw [M67_66, hA _ (cR_lt (Vd_in hW ht)), sR_cR (Vd_in hW ht)]) hlt
        rw [cR_sR] at d4
        have e2 : newB P j lf i = isOfB P lf j (sR i) := by unfold newB; simp [e, v]
        simp (discharger := omega) only [li_0, li_1, li_2, li_3, li_4, li_5, li_6, li_7, li_8, li_9, li_10, li_11, li_12, li_13, li_14, li_15, li_16, li_17, li_18, li_19, li_20, li_21, li_22, li_23, li_24, li_25, li_26, li_27, li_28, li_29, li_30, li_31, li_32, li_33, li_34, li_35, li_36, li_37, li_38, li_39, li_40, li_41, li_42, li_43, li_44, li_45, li_46, li_47, li_48, li_49, li_50, li_51, li_52, li_53, li_54, li_55, li_56, li_57, li_58, li_59, li_60, li_61, li_62, li_63, li_64, li_65, li_66, li_67, li_68, li_69, li_70, li_71, li_72, li_73, li_74, li_75, li_76, li_77, li_78, li_79, li_80, li_81, li_82, li_83, li_84, li_85, li_86, li_87, li_88, li_89, li_90, li_91, li_92, li_93, li_94, li_95, li_96, li_97, li_98, li_99, li_100, li_101, li_102, li_103, li_104, li_105, li_106, li_107, li_108, li_109, li_110, li_111, li_112, li_113, li_114, li_115, li_116, li_117, li_118, li_119, li_120, li_121, li_122, li_123, li_124, li_125, li_126, li_127, li_128, li_144, li_150, li_200, li_255, li_384, li_512, li_999, li_1000, li_1024, li_1152, li_1920, li_3776, li_4096, li_9216, li_10000, li_100000, li_1073741824, li_m, ↓rcb_60, ↓fIb_60, ↓pIb_60, ↓fRb_60_4, ↓fRb_60_5, ↓fRb_60_6, ↓fRb_60_7, ↓fRb_60_8, ↓fRb_60_10, ↓fRb_60_11, ↓fRb_60_12, ↓fRb_60_13, ↓fRb_60_14, ↓fRb_60_16, ↓fRb_60_17, ↓fRb_60_18, ↓fRb_60_24, ↓fRb_60_25, ↓fRb_60_26, ↓fRb_60_30, ↓fRb_60_31, ↓fRb_60_36, ↓fRb_60_37, ↓fRb_60_42, ↓fRb_60_43, ↓fRb_60_44, ↓fRb_60_45, ↓aIb_61, ↓sIb_61, ↓aIb_62, ↓sIb_62, ↓aIb_63, ↓sIb_63, ↓aIb_64, ↓sIb_64, ↓aIb_65, ↓sIb_65, ↓aIb_66, ↓sIb_66, ↓aIb_67, ↓sIb_67, ↓aIb_68, ↓sIb_68, ↓aIb_69, ↓sIb_69, ↓aIb_70, ↓sIb_70, ↓aIb_71, ↓sIb_71, ↓aIb_72, ↓sIb_72, ↓aIb_73, ↓sIb_73, ↓aIb_74, ↓sIb_74, ↓aIb_75, ↓sIb_75, ↓aIb_76, ↓sIb_76, ↓aIb_77, ↓sIb_77, ↓aIb_78, ↓sIb_78, ↓aIb_79, ↓sIb_79, ↓aIb_80, ↓sIb_80, ↓aIb_81, ↓sIb_81, ↓aIb_82, ↓sIb_82, ↓aIb_83, ↓sIb_83, ↓aIb_84, ↓sIb_84, r0_60_4, r0_60_5, r0_60_6, r0_60_7, r0_60_8, r0_60_10, r0_60_11, r0_60_12, r0_60_13, r0_60_14, r0_60_16, r0_60_17, r0_60_18, r0_60_24, r0_60_25, r0_60_26, r0_60_30, r0_60_31, r0_60_36, r0_60_37, r0_60_42, r0_60_43, r0_60_44, r0_60_45, rc_60, fI_60, fR_60, pI_60, aI_61, sI_61, aI_62, sI_62, aI_63, sI_63, aI_64, sI_64, aI_65, sI_65, aI_66, sI_66, aI_67, sI_67, aI_68, sI_68, aI_69, sI_69, aI_70, sI_70, aI_71, sI_71, aI_72, sI_72, aI_73, sI_73, aI_74, sI_74, aI_75, sI_75, aI_76, sI_76, aI_77, sI_77, aI_78, sI_78, aI_79, sI_79, aI_80, sI_80, aI_81, sI_81, aI_82, sI_82, aI_83, sI_83, aI_84, sI_84, ↓dn d1, ↓dn d4, w_bind, w_bd2, b01_eq0, b01_ok, b01_ok2, w_lt, w_le, w_eq, w_mlt, w_mle, w_ltm, w_lem, w_meq, w_eqm, w_mm, w_mmlt, w_mmle, nI_add, w_sub, pk_mul, w_div, w_rem, w_and, w_or, w_shr, w_shl1, w_a31, w_andn, M67_66, d2, oI, show ¬ 9216 ≤ i by omega, if_false, nar1_0, nar1_1, if_true, v, e2]
        by_cases z : isOfB P lf j (sR i) = true
        · simp [z, b01]; rfl
        · simp [z, b01]; rfl
      · have e2 : newB P j lf i = false := by unfold newB; simp [v]
        simp (discharger := omega) only [li_0, li_1, li_2, li_3, li_4, li_5, li_6, li_7, li_8, li_9, li_10, li_11, li_12, li_13, li_14, li_15, li_16, li_17, li_18, li_19, li_20, li_21, li_22, li_23, li_24, li_25, li_26, li_27, li_28, li_29, li_30, li_31, li_32, li_33, li_34, li_35, li_36, li_37, li_38, li_39, li_40, li_41, li_42, li_43, li_44, li_45, li_46, li_47, li_48, li_49, li_50, li_51, li_52, li_53, li_54, li_55, li_56, li_57, li_58, li_59, li_60, li_61, li_62, li_63, li_64, li_65, li_66, li_67, li_68, li_69, li_70, li_71, li_72, li_73, li_74, li_75, li_76, li_77, li_78, li_79, li_80, li_81, li_82, li_83, li_84, li_85, li_86, li_87, li_88, li_89, li_90, li_91, li_92, li_93, li_94, li_95, li_96, li_97, li_98, li_99, li_100, li_101, li_102, li_103, li_104, li_105, li_106, li_107, li_108, li_109, li_110, li_111, li_112, li_113, li_114, li_115, li_116, li_117, li_118, li_119, li_120, li_121, li_122, li_123, li_124, li_125, li_126, li_127, li_128, li_144, li_150, li_200, li_255, li_384, li_512, li_999, li_1000, li_1024, li_1152, li_1920, li_3776, li_4096, li_9216, li_10000, li_100000, li_1073741824, li_m, ↓rcb_60, ↓fIb_60, ↓pIb_60, ↓fRb_60_4, ↓fRb_60_5, ↓fRb_60_6, ↓fRb_60_7, ↓fRb_60_8, ↓fRb_60_10, ↓fRb_60_11, ↓fRb_60_12, ↓fRb_60_13, ↓fRb_60_14, ↓fRb_60_16, ↓fRb_60_17, ↓fRb_60_18, ↓fRb_60_24, ↓fRb_60_25, ↓fRb_60_26, ↓fRb_60_30, ↓fRb_60_31, ↓fRb_60_36, ↓fRb_60_37, ↓fRb_60_42, ↓fRb_60_43, ↓fRb_60_44, ↓fRb_60_45, ↓aIb_61, ↓sIb_61, ↓aIb_62, ↓sIb_62, ↓aIb_63, ↓sIb_63, ↓aIb_64, ↓sIb_64, ↓aIb_65, ↓sIb_65, ↓aIb_66, ↓sIb_66, ↓aIb_67, ↓sIb_67, ↓aIb_68, ↓sIb_68, ↓aIb_69, ↓sIb_69, ↓aIb_70, ↓sIb_70, ↓aIb_71, ↓sIb_71, ↓aIb_72, ↓sIb_72, ↓aIb_73, ↓sIb_73, ↓aIb_74, ↓sIb_74, ↓aIb_75, ↓sIb_75, ↓aIb_76, ↓sIb_76, ↓aIb_77, ↓sIb_77, ↓aIb_78, ↓sIb_78, ↓aIb_79, ↓sIb_79, ↓aIb_80, ↓sIb_80, ↓aIb_81, ↓sIb_81, ↓aIb_82, ↓sIb_82, ↓aIb_83, ↓sIb_83, ↓aIb_84, ↓sIb_84, r0_60_4, r0_60_5, r0_60_6, r0_60_7, r0_60_8, r0_60_10, r0_60_11, r0_60_12, r0_60_13, r0_60_14, r0_60_16, r0_60_17, r0_60_18, r0_60_24, r0_60_25, r0_60_26, r0_60_30, r0_60_31, r0_60_36, r0_60_37, r0_60_42, r0_60_43, r0_60_44, r0_60_45, rc_60, fI_60, fR_60, pI_60, aI_61, sI_61, aI_62, sI_62, aI_63, sI_63, aI_64, sI_64, aI_65, sI_65, aI_66, sI_66, aI_67, sI_67, aI_68, sI_68, aI_69, sI_69, aI_70, sI_70, aI_71, sI_71, aI_72, sI_72, aI_73, sI_73, aI_74, sI_74, aI_75, sI_75, aI_76, sI_76, aI_77, sI_77, aI_78, sI_78, aI_79, sI_79, aI_80, sI_80, aI_81, sI_81, aI_82, sI_82, aI_83, sI_83, aI_84, sI_84, ↓dn d1, w_bind, w_bd2, b01_eq0, b01_ok, b01_ok2, w_lt, w_le, w_eq, w_mlt, w_mle, w_ltm, w_lem, w_meq, w_eqm, w_mm, w_mmlt, w_mmle, nI_add, w_sub, pk_mul, w_div, w_rem, w_and, w_or, w_shr, w_shl1, w_a31, w_andn, M67_66, d2, oI, show ¬ 9216 ≤ i by omega, if_false, nar1_0, if_true, v, e2, b01]
        simp
  have l1 := lpU (fun F (q : Int32 × Mem) => fX9_solve_L67 FU K 60 (nI 0) (nI (j + 1)) F q.1 q.2) (fun i => (nI i, (M67 I A (pre (fun k => b01 (newB P j lf k = true)) B i), R0 pl nm hd rd))) 9216 s1 9216 0 FU (by omega) (by omega)
  simp only [pre_0] at l1
  obtain ⟨G, hG⟩ : ∃ G, FU - 9216 = G + 1 := ⟨FU - 9216 - 1, by omega⟩
  rw [l1, hG, fX9_solve_L67]
  have b2 : ∀ k, k < 9216 → pre (fun k => b01 (newB P j lf k = true)) B 9216 k = b01 (newB P j lf k = true) := by
    intro k hk
    unfold pre
    rw [if_pos hk]
  generalize pre (fun k => b01 (newB P j lf k = true)) B 9216 = B2 at b2
  refine ⟨pre (fun k => oI (lay1 P j lf (sR k))) A 9216, B2, fun k hk => ?_, ?_⟩
  · unfold pre
    rw [if_pos hk]
  have s2 : ∀ i, i < 9216 → ∀ F, fX9_solve_L119 FU K 60 (nI (j + 1)) (F + 1) (b01 (anyB (newB P j lf) i = true)) (nI i) (M67 I (pre (fun k => oI (lay1 P j lf (sR k))) A i) B2, R0 pl nm hd rd) = fX9_solve_L119 FU K 60 (nI (j + 1)) F (b01 (anyB (newB P j lf) (i + 1) = true)) (nI (i + 1)) (M67 I (pre (fun k => oI (lay1 P j lf (sR k))) A (i + 1)) B2, R0 pl nm hd rd) := by
    intro i hi F
    have d1 := b2 i hi
    rw [fX9_solve_L119]
    unfold fX9_solve_b147
    simp (discharger := omega) only [li_0, li_1, li_2, li_3, li_4, li_5, li_6, li_7, li_8, li_9, li_10, li_11, li_12, li_13, li_14, li_15, li_16, li_17, li_18, li_19, li_20, li_21, li_22, li_23, li_24, li_25, li_26, li_27, li_28, li_29, li_30, li_31, li_32, li_33, li_34, li_35, li_36, li_37, li_38, li_39, li_40, li_41, li_42, li_43, li_44, li_45, li_46, li_47, li_48, li_49, li_50, li_51, li_52, li_53, li_54, li_55, li_56, li_57, li_58, li_59, li_60, li_61, li_62, li_63, li_64, li_65, li_66, li_67, li_68, li_69, li_70, li_71, li_72, li_73, li_74, li_75, li_76, li_77, li_78, li_79, li_80, li_81, li_82, li_83, li_84, li_85, li_86, li_87, li_88, li_89, li_90, li_91, li_92, li_93, li_94, li_95, li_96, li_97, li_98, li_99, li_100, li_101, li_102, li_103, li_104, li_105, li_106, li_107, li_108, li_109, li_110, li_111, li_112, li_113, li_114, li_115, li_116, li_117, li_118, li_119, li_120, li_121, li_122, li_123, li_124, li_125, li_126, li_127, li_128, li_144, li_150, li_200, li_255, li_384, li_512, li_999, li_1000, li_1024, li_1152, li_1920, li_3776, li_4096, li_9216, li_10000, li_100000, li_1073741824, li_m, ↓rcb_60, ↓fIb_60, ↓pIb_60, ↓fRb_60_4, ↓fRb_60_5, ↓fRb_60_6, ↓fRb_60_7, ↓fRb_60_8, ↓fRb_60_10, ↓fRb_60_11, ↓fRb_60_12, ↓fRb_60_13, ↓fRb_60_14, ↓fRb_60_16, ↓fRb_60_17, ↓fRb_60_18, ↓fRb_60_24, ↓fRb_60_25, ↓fRb_60_26, ↓fRb_60_30, ↓fRb_60_31, ↓fRb_60_36, ↓fRb_60_37, ↓fRb_60_42, ↓fRb_60_43, ↓fRb_60_44, ↓fRb_60_45, ↓aIb_61, ↓sIb_61, ↓aIb_62, ↓sIb_62, ↓aIb_63, ↓sIb_63, ↓aIb_64, ↓sIb_64, ↓aIb_65, ↓sIb_65, ↓aIb_66, ↓sIb_66, ↓aIb_67, ↓sIb_67, ↓aIb_68, ↓sIb_68, ↓aIb_69, ↓sIb_69, ↓aIb_70, ↓sIb_70, ↓aIb_71, ↓sIb_71, ↓aIb_72, ↓sIb_72, ↓aIb_73, ↓sIb_73, ↓aIb_74, ↓sIb_74, ↓aIb_75, ↓sIb_75, ↓aIb_76, ↓sIb_76, ↓aIb_77, ↓sIb_77, ↓aIb_78, ↓sIb_78, ↓aIb_79, ↓sIb_79, ↓aIb_80, ↓sIb_80, ↓aIb_81, ↓sIb_81, ↓aIb_82, ↓sIb_82, ↓aIb_83, ↓sIb_83, ↓aIb_84, ↓sIb_84, r0_60_4, r0_60_5, r0_60_6, r0_60_7, r0_60_8, r0_60_10, r0_60_11, r0_60_12, r0_60_13, r0_60_14, r0_60_16, r0_60_17, r0_60_18, r0_60_24, r0_60_25, r0_60_26, r0_60_30, r0_60_31, r0_60_36, r0_60_37, r0_60_42, r0_60_43, r0_60_44, r0_60_45, rc_60, fI_60, fR_60, pI_60, aI_61, sI_61, aI_62, sI_62, aI_63, sI_63, aI_64, sI_64, aI_65, sI_65, aI_66, sI_66, aI_67, sI_67, aI_68, sI_68, aI_69, sI_69, aI_70, sI_70, aI_71, sI_71, aI_72, sI_72, aI_73, sI_73, aI_74, sI_74, aI_75, sI_75, aI_76, sI_76, aI_77, sI_77, aI_78, sI_78, aI_79, sI_79, aI_80, sI_80, aI_81, sI_81, aI_82, sI_82, aI_83, sI_83, aI_84, sI_84, w_bind, w_bd2, b01_eq0, b01_ok, b01_ok2, w_lt, w_le, w_eq, w_mlt, w_mle, w_ltm, w_lem, w_meq, w_eqm, w_mm, w_mmlt, w_mmle, nI_add, w_sub, pk_mul, w_div, w_rem, w_and, w_or, w_shr, w_shl1, w_a31, w_andn, M67_67, d1, show ¬ 9216 ≤ i by omega, if_false]
    by_cases z : newB P j lf i = true
    · rw [M67_a, pre_s (fun k => oI (lay1 P j lf (sR k))) A i (by rw [lay1_new, if_pos z]; rfl)]
      simp [z, anyB_s, b01]
      rfl
    · rw [pre_n (fun k => oI (lay1 P j lf (sR k))) A i (by rw [lay1_new, if_neg z]; exact (hA i hi).symm)]
      simp [z, anyB_s]
  have l2 := lpU (fun F (q : Int32 × Int32 × Mem) => fX9_solve_L119 FU K 60 (nI (j + 1)) F q.1 q.2.1 q.2.2) (fun i => (b01 (anyB (newB P j lf) i = true), nI i, (M67 I (pre (fun k => oI (lay1 P j lf (sR k))) A i) B2, R0 pl nm hd rd))) 9216 s2 9216 0 FU (by omega) (by omega)
  simp only [pre_0] at l2
  simp (discharger := omega) only [li_0, li_1, li_2, li_3, li_4, li_5, li_6, li_7, li_8, li_9, li_10, li_11, li_12, li_13, li_14, li_15, li_16, li_17, li_18, li_19, li_20, li_21, li_22, li_23, li_24, li_25, li_26, li_27, li_28, li_29, li_30, li_31, li_32, li_33, li_34, li_35, li_36, li_37, li_38, li_39, li_40, li_41, li_42, li_43, li_44, li_45, li_46, li_47, li_48, li_49, li_50, li_51, li_52, li_53, li_54, li_55, li_56, li_57, li_58, li_59, li_60, li_61, li_62, li_63, li_64, li_65, li_66, li_67, li_68, li_69, li_70, li_71, li_72, li_73, li_74, li_75, li_76, li_77, li_78, li_79, li_80, li_81, li_82, li_83, li_84, li_85, li_86, li_87, li_88, li_89, li_90, li_91, li_92, li_93, li_94, li_95, li_96, li_97, li_98, li_99, li_100, li_101, li_102, li_103, li_104, li_105, li_106, li_107, li_108, li_109, li_110, li_111, li_112, li_113, li_114, li_115, li_116, li_117, li_118, li_119, li_120, li_121, li_122, li_123, li_124, li_125, li_126, li_127, li_128, li_144, li_150, li_200, li_255, li_384, li_512, li_999, li_1000, li_1024, li_1152, li_1920, li_3776, li_4096, li_9216, li_10000, li_100000, li_1073741824, li_m, w_lt, w_le, w_eq, w_mlt, w_mle, w_ltm, w_lem, w_meq, w_eqm, w_mm, w_mmlt, w_mmle, nI_add, w_sub, pk_mul, w_div, w_rem, w_and, w_or, w_shr, w_shl1, w_a31, w_andn, Nat.le_refl, if_true]
  have e0 : b01 (anyB (newB P j lf) 0 = true) = nI 0 := rfl
  rw [e0] at l2
  rw [l2, hG, fX9_solve_L119]
  simp (discharger := omega) only [li_0, li_1, li_2, li_3, li_4, li_5, li_6, li_7, li_8, li_9, li_10, li_11, li_12, li_13, li_14, li_15, li_16, li_17, li_18, li_19, li_20, li_21, li_22, li_23, li_24, li_25, li_26, li_27, li_28, li_29, li_30, li_31, li_32, li_33, li_34, li_35, li_36, li_37, li_38, li_39, li_40, li_41, li_42, li_43, li_44, li_45, li_46, li_47, li_48, li_49, li_50, li_51, li_52, li_53, li_54, li_55, li_56, li_57, li_58, li_59, li_60, li_61, li_62, li_63, li_64, li_65, li_66, li_67, li_68, li_69, li_70, li_71, li_72, li_73, li_74, li_75, li_76, li_77, li_78, li_79, li_80, li_81, li_82, li_83, li_84, li_85, li_86, li_87, li_88, li_89, li_90, li_91, li_92, li_93, li_94, li_95, li_96, li_97, li_98, li_99, li_100, li_101, li_102, li_103, li_104, li_105, li_106, li_107, li_108, li_109, li_110, li_111, li_112, li_113, li_114, li_115, li_116, li_117, li_118, li_119, li_120, li_121, li_122, li_123, li_124, li_125, li_126, li_127, li_128, li_144, li_150, li_200, li_255, li_384, li_512, li_999, li_1000, li_1024, li_1152, li_1920, li_3776, li_4096, li_9216, li_10000, li_100000, li_1073741824, li_m, w_lt, w_le, w_eq, w_mlt, w_mle, w_ltm, w_lem, w_meq, w_eqm, w_mm, w_mmlt, w_mmle, nI_add, w_sub, pk_mul, w_div, w_rem, w_and, w_or, w_shr, w_shl1, w_a31, w_andn, Nat.le_refl, if_true]
def undec (lf : Sd → Option Nat) : Nat := cnt (fun k => (lf (sR k)).isNone) 9216
theorem cnt_lt {p q : Nat → Bool} {n i : Nat} (h : ∀ k, k < n → q k = true → p k = true) (hi : i < n) (h1 : p i = true) (h2 : q i = false) : cnt q n < cnt p n := by
  have le : ∀ m, m ≤ n → cnt q m ≤ cnt p m := by
    intro m hm
    induction m with
    | zero => exact Nat.le_refl _
    | succ m ih =>
      have a := ih (by omega)
      have b := h m (by omega)
      unfold cnt
      by_cases z : q m = true
      · rw [if_pos z, if_pos (b z)]; omega
      · rw [if_neg z]; split <;> omega
  have k : ∀ m, i < m → m ≤ n → cnt q m < cnt p m := by
    intro m hm hmn
    induction m with
    | zero => omega
    | succ m ih =>
      unfold cnt
      by_cases e : m = i
      · subst e
        have := le m (by omega)
        rw [h1, h2]
        simp
        omega
      · have a := ih (by omega) (by omega)
        have b := h m (by omega)
        by_cases z : q m = true
        · rw [if_pos z, if_pos (b z)]; omega
        · rw [if_neg z]; split <;> omega
  exact k n hi (Nat.le_refl _)
theorem undec_lt {j : Nat} {lf : Sd → Option Nat} (h : anyB (newB P j lf) 9216 = true) : undec (lay1 P j lf) < undec lf := by
  obtain ⟨i, hi, h2⟩ := anyB_iff.mp h
  have e : (lf (sR i)).isNone = true := by
    unfold newB at h2
    rw [Bool.and_eq_true] at h2
    exact h2.1
  apply cnt_lt (i := i) _ hi e
  · rw [lay1_new, if_pos h2]; rfl
  · intro k hk hz
    rw [lay1_new] at hz
    split at hz
    · cases hz
    · exact hz
theorem r_layers (hF : 99999999 ≤ FU) (hP : PlR P I) (hW : WfP P) : ∀ n (A B : Nat → Int32) (lf : Sd → Option Nat) (j F : Nat), undec lf < n → j + undec lf ≤ 9216 → n < F → RowL lf A → Lay P (j + 1) lf → (∀ s, ¬ Vd P s → lf s = none) → ∃ A' B' L, fX9_solve_L59 FU 60 F (nI 1) (nI (j + 1)) (M67 I A B, R0 pl nm hd rd) = some (M67 I A' B', R0 pl nm hd rd) ∧ RowL L A' ∧ LenF P L ∧ (∀ s, ¬ Vd P s → L s = none) ∧ (∀ s k, L s = some k → k < 9300) := by
  intro n
  induction n with
  | zero =>
    intro A B lf j F hn
    omega
  | succ n ih =>
    intro A B lf j F hn hj hF' hA hL hv
    obtain ⟨F, rfl⟩ : ∃ G, F = G + 1 := ⟨F - 1, by omega⟩
    have hlt : ∀ t k, lf t = some k → k < j + 1 := by
      intro t k e
      by_cases v : Vd P t
      · exact (hL t v).2.2.1 k e
      · rw [hv t v] at e; cases e
    obtain ⟨A', B', q1, q2⟩ := r_layer (FU := FU) (pl := pl) (nm := nm) (hd := hd) (rd := rd) hF hP hW (A := A) (B := B) (j := j) (by omega) hA (fun t k e => by have := hlt t k e; omega) (K := fX9_solve_L59 FU 60 F)
    rw [fX9_solve_L59]
    simp (discharger := omega) only [li_0, li_1, li_2, li_3, li_4, li_5, li_6, li_7, li_8, li_9, li_10, li_11, li_12, li_13, li_14, li_15, li_16, li_17, li_18, li_19, li_20, li_21, li_22, li_23, li_24, li_25, li_26, li_27, li_28, li_29, li_30, li_31, li_32, li_33, li_34, li_35, li_36, li_37, li_38, li_39, li_40, li_41, li_42, li_43, li_44, li_45, li_46, li_47, li_48, li_49, li_50, li_51, li_52, li_53, li_54, li_55, li_56, li_57, li_58, li_59, li_60, li_61, li_62, li_63, li_64, li_65, li_66, li_67, li_68, li_69, li_70, li_71, li_72, li_73, li_74, li_75, li_76, li_77, li_78, li_79, li_80, li_81, li_82, li_83, li_84, li_85, li_86, li_87, li_88, li_89, li_90, li_91, li_92, li_93, li_94, li_95, li_96, li_97, li_98, li_99, li_100, li_101, li_102, li_103, li_104, li_105, li_106, li_107, li_108, li_109, li_110, li_111, li_112, li_113, li_114, li_115, li_116, li_117, li_118, li_119, li_120, li_121, li_122, li_123, li_124, li_125, li_126, li_127, li_128, li_144, li_150, li_200, li_255, li_384, li_512, li_999, li_1000, li_1024, li_1152, li_1920, li_3776, li_4096, li_9216, li_10000, li_100000, li_1073741824, li_m, w_lt, w_le, w_eq, w_mlt, w_mle, w_ltm, w_lem, w_meq, w_eqm, w_mm, w_mmlt, w_mmle, nI_add, w_sub, pk_mul, w_div, w_rem, w_and, w_or, w_shr, w_shl1, w_a31, w_andn, Nat.one_ne_zero, if_false, false_and]
    rw [q2]
    by_cases z : anyB (newB P j lf) 9216 = true
    · rw [b01_pos z]
      have u := undec_lt z
      have hv' : ∀ s, ¬ Vd P s → lay1 P j lf s = none := by
        intro s hs
        unfold lay1
        rw [if_neg (fun q => hs (vdB_iff.mp q.1.2)), hv s hs]
      exact ih A' B' (lay1 P j lf) (j + 1) F (by omega) (by omega) (by omega) q1 (lay_s hW hL) hv'
    · rw [b01_neg z]
      obtain ⟨F, rfl⟩ : ∃ G, F = G + 1 := ⟨F - 1, by omega⟩
      rw [fX9_solve_L59]
      have nn : ∀ k, k < 9216 → newB P j lf k = false := by
        intro k hk
        cases e : newB P j lf k
        · rfl
        · exact absurd (anyB_iff.mpr ⟨k, hk, e⟩) z
      refine ⟨A', B', lf, ?_, ?_, ?_, hv, fun s k e => by have := hlt s k e; omega⟩
      · simp (discharger := omega) only [li_0, li_1, li_2, li_3, li_4, li_5, li_6, li_7, li_8, li_9, li_10, li_11, li_12, li_13, li_14, li_15, li_16, li_17, li_18, li_19, li_20, li_21, li_22, li_23, li_24, li_25, li_26, li_27, li_28, li_29, li_30, li_31, li_32, li_33, li_34, li_35, li_36, li_37, li_38, li_39, li_40, li_41, li_42, li_43, li_44, li_45, li_46, li_47, li_48, li_49, li_50, li_51, li_52, li_53, li_54, li_55, li_56, li_57, li_58, li_59, li_60, li_61, li_62, li_63, li_64, li_65, li_66, li_67, li_68, li_69, li_70, li_71, li_72, li_73, li_74, li_75, li_76, li_77, li_78, li_79, li_80, li_81, li_82, li_83, li_84, li_85, li_86, li_87, li_88, li_89, li_90, li_91, li_92, li_93, li_94, li_95, li_96, li_97, li_98, li_99, li_100, li_101, li_102, li_103, li_104, li_105, li_106, li_107, li_108, li_109, li_110, li_111, li_112, li_113, li_114, li_115, li_116, li_117, li_118, li_119, li_120, li_121, li_122, li_123, li_124, li_125, li_126, li_127, li_128, li_144, li_150, li_200, li_255, li_384, li_512, li_999, li_1000, li_1024, li_1152, li_1920, li_3776, li_4096, li_9216, li_10000, li_100000, li_1073741824, li_m, w_lt, w_le, w_eq, w_mlt, w_mle, w_ltm, w_lem, w_meq, w_eqm, w_mm, w_mmlt, w_mmle, nI_add, w_sub, pk_mul, w_div, w_rem, w_and, w_or, w_shr, w_shl1, w_a31, w_andn, if_true]
      · intro k hk
        rw [q1 k hk, lay1_new, nn k hk]
        rfl
      · apply lay_e hW hL
        intro s hs e y
        have h1 := nn (cR s) (cR_lt (Vd_in hW hs))
        unfold newB at h1
        rw [sR_cR (Vd_in hW hs), e, vdB_iff.mpr hs, y] at h1
        cases h1
/-- the reference has solved this plan -/
def SolR (P : Pln) (L : Sd → Option Nat) (I : Nat → Nat → Int32) : Prop := LenF P L ∧ (∀ s, ¬ Vd P s → L s = none) ∧ (∀ s k, L s = some k → k < 9300) ∧ RowL L (I 66)
theorem r_solve0 (hF : 99999999 ≤ FU) (hP : PlR P I) (hW : WfP P) (h0 : I 60 9 = nI 0) : ∃ A' B' L, fX9_solve FU 60 (I, R0 pl nm hd rd) = some (M67 (up2 I 60 9 (nI 1)) A' B', R0 pl nm hd rd) ∧ SolR P L (M67 (up2 I 60 9 (nI 1)) A' B') := by
  have hP2 : PlR P (up2 I 60 9 (nI 1)) := hP.congr (fun i hi => up2_i (by omega)) (fun k h1 h2 => up2_ne (by omega))
  generalize hI : up2 I 60 9 (nI 1) = I2 at hP2 ⊢
  have s1 : ∀ i, i < 9216 → ∀ F, fX9_solve_L15 FU 60 (F + 1) (nI i) (M67 I2 (pre (fun k => oI (if vdB P (sR k) = true ∧ cgtB P (sR k) = true then some 0 else none)) (I2 66) i) (I2 67), R0 pl nm hd rd) = fX9_solve_L15 FU 60 F (nI (i + 1)) (M67 I2 (pre (fun k => oI (if vdB P (sR k) = true ∧ cgtB P (sR k) = true then some 0 else none)) (I2 66) (i + 1)) (I2 67), R0 pl nm hd rd) := by
    intro i hi F
    have hP3 := M67_Pl (A := pre (fun k => oI (if vdB P (sR k) = true ∧ cgtB P (sR k) = true then some 0 else none)) (I2 66) i) (B := I2 67) hP2
    have d1 := r_isOne (FU := FU) (pl := pl) (nm := nm) (hd := hd) (rd := rd) hF hP3 hW (sR_in hi)
    rw [cR_sR] at d1
    have ps := pre_s (fun k => oI (if vdB P (sR k) = true ∧ cgtB P (sR k) = true then some 0 else none)) (I2 66) i (x := oI (if vdB P (sR i) = true ∧ cgtB P (sR i) = true then some 0 else none)) rfl
    rw [← ps, ← M67_a]
    rw [fX9_solve_L15]
    unfold fX9_solve_b47 fX9_solve_b48
    by_cases v : vdB P (sR i) = true
    · have d2 := r_isCaught (FU := FU) (pl := pl) (nm := nm) (hd := hd) (rd := rd) hF hP3 hW (vdB_iff.mp v)
      rw [cR_sR] at d2
      simp (discharger := omega) only [li_0, li_1, li_2, li_3, li_4, li_5, li_6, li_7, li_8, li_9, li_10, li_11, li_12, li_13, li_14, li_15, li_16, li_17, li_18, li_19, li_20, li_21, li_22, li_23, li_24, li_25, li_26, li_27, li_28, li_29, li_30, li_31, li_32, li_33, li_34, li_35, li_36, li_37, li_38, li_39, li_40, li_41, li_42, li_43, li_44, li_45, li_46, li_47, li_48, li_49, li_50, li_51, li_52, li_53, li_54, li_55, li_56, li_57, li_58, li_59, li_60, li_61, li_62, li_63, li_64, li_65, li_66, li_67, li_68, li_69, li_70, li_71, li_72, li_73, li_74, li_75, li_76, li_77, li_78, li_79, li_80, li_81, li_82, li_83, li_84, li_85, li_86, li_87, li_88, li_89, li_90, li_91, li_92, li_93, li_94, li_95, li_96, li_97, li_98, li_99, li_100, li_101, li_102, li_103, li_104, li_105, li_106, li_107, li_108, li_109, li_110, li_111, li_112, li_113, li_114, li_115, li_116, li_117, li_118, li_119, li_120, li_121, li_122, li_123, li_124, li_125, li_126, li_127, li_128, li_144, li_150, li_200, li_255, li_384, li_512, li_999, li_1000, li_1024, li_1152, li_1920, li_3776, li_4096, li_9216, li_10000, li_100000, li_1073741824, li_m, ↓rcb_60, ↓fIb_60, ↓pIb_60, ↓fRb_60_4, ↓fRb_60_5, ↓fRb_60_6, ↓fRb_60_7, ↓fRb_60_8, ↓fRb_60_10, ↓fRb_60_11, ↓fRb_60_12, ↓fRb_60_13, ↓fRb_60_14, ↓fRb_60_16, ↓fRb_60_17, ↓fRb_60_18, ↓fRb_60_24, ↓fRb_60_25, ↓fRb_60_26, ↓fRb_60_30, ↓fRb_60_31, ↓fRb_60_36, ↓fRb_60_37, ↓fRb_60_42, ↓fRb_60_43, ↓fRb_60_44, ↓fRb_60_45, ↓aIb_61, ↓sIb_61, ↓aIb_62, ↓sIb_62, ↓aIb_63, ↓sIb_63, ↓aIb_64, ↓sIb_64, ↓aIb_65, ↓sIb_65, ↓aIb_66, ↓sIb_66, ↓aIb_67, ↓sIb_67, ↓aIb_68, ↓sIb_68, ↓aIb_69, ↓sIb_69, ↓aIb_70, ↓sIb_70, ↓aIb_71, ↓sIb_71, ↓aIb_72, ↓sIb_72, ↓aIb_73, ↓sIb_73, ↓aIb_74, ↓sIb_74, ↓aIb_75, ↓sIb_75, ↓aIb_76, ↓sIb_76, ↓aIb_77, ↓sIb_77, ↓aIb_78, ↓sIb_78, ↓aIb_79, ↓sIb_79, ↓aIb_80, ↓sIb_80, ↓aIb_81, ↓sIb_81, ↓aIb_82, ↓sIb_82, ↓aIb_83, ↓sIb_83, ↓aIb_84, ↓sIb_84, r0_60_4, r0_60_5, r0_60_6, r0_60_7, r0_60_8, r0_60_10, r0_60_11, r0_60_12, r0_60_13, r0_60_14, r0_60_16, r0_60_17, r0_60_18, r0_60_24, r0_60_25, r0_60_26, r0_60_30, r0_60_31, r0_60_36, r0_60_37, r0_60_42, r0_60_43, r0_60_44, r0_60_45, rc_60, fI_60, fR_60, pI_60, aI_61, sI_61, aI_62, sI_62, aI_63, sI_63, aI_64, sI_64, aI_65, sI_65, aI_66, sI_66, aI_67, sI_67, aI_68, sI_68, aI_69, sI_69, aI_70, sI_70, aI_71, sI_71, aI_72, sI_72, aI_73, sI_73, aI_74, sI_74, aI_75, sI_75, aI_76, sI_76, aI_77, sI_77, aI_78, sI_78, aI_79, sI_79, aI_80, sI_80, aI_81, sI_81, aI_82, sI_82, aI_83, sI_83, aI_84, sI_84, ↓dn d1, ↓dn d2, w_bind, w_bd2, b01_eq0, b01_ok, b01_ok2, w_lt, w_le, w_eq, w_mlt, w_mle, w_ltm, w_lem, w_meq, w_eqm, w_mm, w_mmlt, w_mmle, nI_add, w_sub, pk_mul, w_div, w_rem, w_and, w_or, w_shr, w_shl1, w_a31, w_andn, show ¬ 9216 ≤ i by omega, if_false, v, if_true]
      by_cases z : cgtB P (sR i) = true
      · simp [z, oI]
      · simp [z, oI]
    · simp (discharger := omega) only [li_0, li_1, li_2, li_3, li_4, li_5, li_6, li_7, li_8, li_9, li_10, li_11, li_12, li_13, li_14, li_15, li_16, li_17, li_18, li_19, li_20, li_21, li_22, li_23, li_24, li_25, li_26, li_27, li_28, li_29, li_30, li_31, li_32, li_33, li_34, li_35, li_36, li_37, li_38, li_39, li_40, li_41, li_42, li_43, li_44, li_45, li_46, li_47, li_48, li_49, li_50, li_51, li_52, li_53, li_54, li_55, li_56, li_57, li_58, li_59, li_60, li_61, li_62, li_63, li_64, li_65, li_66, li_67, li_68, li_69, li_70, li_71, li_72, li_73, li_74, li_75, li_76, li_77, li_78, li_79, li_80, li_81, li_82, li_83, li_84, li_85, li_86, li_87, li_88, li_89, li_90, li_91, li_92, li_93, li_94, li_95, li_96, li_97, li_98, li_99, li_100, li_101, li_102, li_103, li_104, li_105, li_106, li_107, li_108, li_109, li_110, li_111, li_112, li_113, li_114, li_115, li_116, li_117, li_118, li_119, li_120, li_121, li_122, li_123, li_124, li_125, li_126, li_127, li_128, li_144, li_150, li_200, li_255, li_384, li_512, li_999, li_1000, li_1024, li_1152, li_1920, li_3776, li_4096, li_9216, li_10000, li_100000, li_1073741824, li_m, ↓rcb_60, ↓fIb_60, ↓pIb_60, ↓fRb_60_4, ↓fRb_60_5, ↓fRb_60_6, ↓fRb_60_7, ↓fRb_60_8, ↓fRb_60_10, ↓fRb_60_11, ↓fRb_60_12, ↓fRb_60_13, ↓fRb_60_14, ↓fRb_60_16, ↓fRb_60_17, ↓fRb_60_18, ↓fRb_60_24, ↓fRb_60_25, ↓fRb_60_26, ↓fRb_60_30, ↓fRb_60_31, ↓fRb_60_36, ↓fRb_60_37, ↓fRb_60_42, ↓fRb_60_43, ↓fRb_60_44, ↓fRb_60_45, ↓aIb_61, ↓sIb_61, ↓aIb_62, ↓sIb_62, ↓aIb_63, ↓sIb_63, ↓aIb_64, ↓sIb_64, ↓aIb_65, ↓sIb_65, ↓aIb_66, ↓sIb_66, ↓aIb_67, ↓sIb_67, ↓aIb_68, ↓sIb_68, ↓aIb_69, ↓sIb_69, ↓aIb_70, ↓sIb_70, ↓aIb_71, ↓sIb_71, ↓aIb_72, ↓sIb_72, ↓aIb_73, ↓sIb_73, ↓aIb_74, ↓sIb_74, ↓aIb_75, ↓sIb_75, ↓aIb_76, ↓sIb_76, ↓aIb_77, ↓sIb_77, ↓aIb_78, ↓sIb_78, ↓aIb_79, ↓sIb_79, ↓aIb_80, ↓sIb_80, ↓aIb_81, ↓sIb_81, ↓aIb_82, ↓sIb_82, ↓aIb_83, ↓sIb_83, ↓aIb_84, ↓sIb_84, r0_60_4, r0_60_5, r0_60_6, r0_60_7, r0_60_8, r0_60_10, r0_60_11, r0_60_12, r0_60_13, r0_60_14, r0_60_16, r0_60_17, r0_60_18, r0_60_24, r0_60_25, r0_60_26, r0_60_30, r0_60_31, r0_60_36, r0_60_37, r0_60_42, r0_60_43, r0_60_44, r0_60_45, rc_60, fI_60, fR_60, pI_60, aI_61, sI_61, aI_62, sI_62, aI_63, sI_63, aI_64, sI_64, aI_65, sI_65, aI_66, sI_66, aI_67, sI_67, aI_68, sI_68, aI_69, sI_69, aI_70, sI_70, aI_71, sI_71, aI_72, sI_72, aI_73, sI_73, aI_74, sI_74, aI_75, sI_75, aI_76, sI_76, aI_77, sI_77, aI_78, sI_78, aI_79, sI_79, aI_80, sI_80, aI_81, sI_81, aI_82, sI_82, aI_83, sI_83, aI_84, sI_84, ↓dn d1, w_bind, w_bd2, b01_eq0, b01_ok, b01_ok2, w_lt, w_le, w_eq, w_mlt, w_mle, w_ltm, w_lem, w_meq, w_eqm, w_mm, w_mmlt, w_mmle, nI_add, w_sub, pk_mul, w_div, w_rem, w_and, w_or, w_shr, w_shl1, w_a31, w_andn, show ¬ 9216 ≤ i by omega, if_false, v, if_true]
      simp [oI]
  have l1 := lpU (fun F (q : Int32 × Mem) => fX9_solve_L15 FU 60 F q.1 q.2) (fun i => (nI i, (M67 I2 (pre (fun k => oI (if vdB P (sR k) = true ∧ cgtB P (sR k) = true then some 0 else none)) (I2 66) i) (I2 67), R0 pl nm hd rd))) 9216 s1 9216 0 FU (by omega) (by omega)
  simp only [pre_0, M67_same] at l1
  obtain ⟨G, hG⟩ : ∃ G, FU - 9216 = G + 1 := ⟨FU - 9216 - 1, by omega⟩
  have hu : undec (fun s => if vdB P s = true ∧ cgtB P s = true then some 0 else none) ≤ 9216 := cnt_le _ _
  obtain ⟨A', B', L, q1, q2, q3, q4, q5⟩ := r_layers (FU := FU) (pl := pl) (nm := nm) (hd := hd) (rd := rd) hF hP2 hW 9217 (pre (fun k => oI (if vdB P (sR k) = true ∧ cgtB P (sR k) = true then some 0 else none)) (I2 66) 9216) (I2 67) (fun s => if vdB P s = true ∧ cgtB P s = true then some 0 else none) 0 FU (by omega) (by omega) (by omega) (by
    intro k hk
    unfold pre
    rw [if_pos hk]) lay_0 (by
    intro s hs
    rw [if_neg (fun q => hs (vdB_iff.mp q.1))])
  refine ⟨A', B', L, ?_, q3, q4, q5, q2⟩
  unfold fX9_solve
  simp (discharger := omega) only [li_0, li_1, li_2, li_3, li_4, li_5, li_6, li_7, li_8, li_9, li_10, li_11, li_12, li_13, li_14, li_15, li_16, li_17, li_18, li_19, li_20, li_21, li_22, li_23, li_24, li_25, li_26, li_27, li_28, li_29, li_30, li_31, li_32, li_33, li_34, li_35, li_36, li_37, li_38, li_39, li_40, li_41, li_42, li_43, li_44, li_45, li_46, li_47, li_48, li_49, li_50, li_51, li_52, li_53, li_54, li_55, li_56, li_57, li_58, li_59, li_60, li_61, li_62, li_63, li_64, li_65, li_66, li_67, li_68, li_69, li_70, li_71, li_72, li_73, li_74, li_75, li_76, li_77, li_78, li_79, li_80, li_81, li_82, li_83, li_84, li_85, li_86, li_87, li_88, li_89, li_90, li_91, li_92, li_93, li_94, li_95, li_96, li_97, li_98, li_99, li_100, li_101, li_102, li_103, li_104, li_105, li_106, li_107, li_108, li_109, li_110, li_111, li_112, li_113, li_114, li_115, li_116, li_117, li_118, li_119, li_120, li_121, li_122, li_123, li_124, li_125, li_126, li_127, li_128, li_144, li_150, li_200, li_255, li_384, li_512, li_999, li_1000, li_1024, li_1152, li_1920, li_3776, li_4096, li_9216, li_10000, li_100000, li_1073741824, li_m, ↓rcb_60, ↓fIb_60, ↓pIb_60, ↓fRb_60_4, ↓fRb_60_5, ↓fRb_60_6, ↓fRb_60_7, ↓fRb_60_8, ↓fRb_60_10, ↓fRb_60_11, ↓fRb_60_12, ↓fRb_60_13, ↓fRb_60_14, ↓fRb_60_16, ↓fRb_60_17, ↓fRb_60_18, ↓fRb_60_24, ↓fRb_60_25, ↓fRb_60_26, ↓fRb_60_30, ↓fRb_60_31, ↓fRb_60_36, ↓fRb_60_37, ↓fRb_60_42, ↓fRb_60_43, ↓fRb_60_44, ↓fRb_60_45, ↓aIb_61, ↓sIb_61, ↓aIb_62, ↓sIb_62, ↓aIb_63, ↓sIb_63, ↓aIb_64, ↓sIb_64, ↓aIb_65, ↓sIb_65, ↓aIb_66, ↓sIb_66, ↓aIb_67, ↓sIb_67, ↓aIb_68, ↓sIb_68, ↓aIb_69, ↓sIb_69, ↓aIb_70, ↓sIb_70, ↓aIb_71, ↓sIb_71, ↓aIb_72, ↓sIb_72, ↓aIb_73, ↓sIb_73, ↓aIb_74, ↓sIb_74, ↓aIb_75, ↓sIb_75, ↓aIb_76, ↓sIb_76, ↓aIb_77, ↓sIb_77, ↓aIb_78, ↓sIb_78, ↓aIb_79, ↓sIb_79, ↓aIb_80, ↓sIb_80, ↓aIb_81, ↓sIb_81, ↓aIb_82, ↓sIb_82, ↓aIb_83, ↓sIb_83, ↓aIb_84, ↓sIb_84, r0_60_4, r0_60_5, r0_60_6, r0_60_7, r0_60_8, r0_60_10, r0_60_11, r0_60_12, r0_60_13, r0_60_14, r0_60_16, r0_60_17, r0_60_18, r0_60_24, r0_60_25, r0_60_26, r0_60_30, r0_60_31, r0_60_36, r0_60_37, r0_60_42, r0_60_43, r0_60_44, r0_60_45, rc_60, fI_60, fR_60, pI_60, aI_61, sI_61, aI_62, sI_62, aI_63, sI_63, aI_64, sI_64, aI_65, sI_65, aI_66, sI_66, aI_67, sI_67, aI_68, sI_68, aI_69, sI_69, aI_70, sI_70, aI_71, sI_71, aI_72, sI_72, aI_73, sI_73, aI_74, sI_74, aI_75, sI_75, aI_76, sI_76, aI_77, sI_77, aI_78, sI_78, aI_79, sI_79, aI_80, sI_80, aI_81, sI_81, aI_82, sI_82, aI_83, sI_83, aI_84, sI_84, w_bind, w_bd2, b01_eq0, b01_ok, b01_ok2, w_lt, w_le, w_eq, w_mlt, w_mle, w_ltm, w_lem, w_meq, w_eqm, w_mm, w_mmlt, w_mmle, nI_add, w_sub, pk_mul, w_div, w_rem, w_and, w_or, w_shr, w_shl1, w_a31, w_andn, h0, if_true, hI]
  rw [l1, hG, fX9_solve_L15]
  simp (discharger := omega) only [li_0, li_1, li_2, li_3, li_4, li_5, li_6, li_7, li_8, li_9, li_10, li_11, li_12, li_13, li_14, li_15, li_16, li_17, li_18, li_19, li_20, li_21, li_22, li_23, li_24, li_25, li_26, li_27, li_28, li_29, li_30, li_31, li_32, li_33, li_34, li_35, li_36, li_37, li_38, li_39, li_40, li_41, li_42, li_43, li_44, li_45, li_46, li_47, li_48, li_49, li_50, li_51, li_52, li_53, li_54, li_55, li_56, li_57, li_58, li_59, li_60, li_61, li_62, li_63, li_64, li_65, li_66, li_67, li_68, li_69, li_70, li_71, li_72, li_73, li_74, li_75, li_76, li_77, li_78, li_79, li_80, li_81, li_82, li_83, li_84, li_85, li_86, li_87, li_88, li_89, li_90, li_91, li_92, li_93, li_94, li_95, li_96, li_97, li_98, li_99, li_100, li_101, li_102, li_103, li_104, li_105, li_106, li_107, li_108, li_109, li_110, li_111, li_112, li_113, li_114, li_115, li_116, li_117, li_118, li_119, li_120, li_121, li_122, li_123, li_124, li_125, li_126, li_127, li_128, li_144, li_150, li_200, li_255, li_384, li_512, li_999, li_1000, li_1024, li_1152, li_1920, li_3776, li_4096, li_9216, li_10000, li_100000, li_1073741824, li_m, w_lt, w_le, w_eq, w_mlt, w_mle, w_ltm, w_lem, w_meq, w_eqm, w_mm, w_mmlt, w_mmle, nI_add, w_sub, pk_mul, w_div, w_rem, w_and, w_or, w_shr, w_shl1, w_a31, w_andn, Nat.le_refl, if_true]
  exact q1
theorem r_solve1 (h1 : I 60 9 = nI 1) : fX9_solve FU 60 (I, R0 pl nm hd rd) = some (I, R0 pl nm hd rd) := by
  unfold fX9_solve
  simp (discharger := omega) only [li_0, li_1, li_2, li_3, li_4, li_5, li_6, li_7, li_8, li_9, li_10, li_11, li_12, li_13, li_14, li_15, li_16, li_17, li_18, li_19, li_20, li_21, li_22, li_23, li_24, li_25, li_26, li_27, li_28, li_29, li_30, li_31, li_32, li_33, li_34, li_35, li_36, li_37, li_38, li_39, li_40, li_41, li_42, li_43, li_44, li_45, li_46, li_47, li_48, li_49, li_50, li_51, li_52, li_53, li_54, li_55, li_56, li_57, li_58, li_59, li_60, li_61, li_62, li_63, li_64, li_65, li_66, li_67, li_68, li_69, li_70, li_71, li_72, li_73, li_74, li_75, li_76, li_77, li_78, li_79, li_80, li_81, li_82, li_83, li_84, li_85, li_86, li_87, li_88, li_89, li_90, li_91, li_92, li_93, li_94, li_95, li_96, li_97, li_98, li_99, li_100, li_101, li_102, li_103, li_104, li_105, li_106, li_107, li_108, li_109, li_110, li_111, li_112, li_113, li_114, li_115, li_116, li_117, li_118, li_119, li_120, li_121, li_122, li_123, li_124, li_125, li_126, li_127, li_128, li_144, li_150, li_200, li_255, li_384, li_512, li_999, li_1000, li_1024, li_1152, li_1920, li_3776, li_4096, li_9216, li_10000, li_100000, li_1073741824, li_m, ↓rcb_60, ↓fIb_60, ↓pIb_60, ↓fRb_60_4, ↓fRb_60_5, ↓fRb_60_6, ↓fRb_60_7, ↓fRb_60_8, ↓fRb_60_10, ↓fRb_60_11, ↓fRb_60_12, ↓fRb_60_13, ↓fRb_60_14, ↓fRb_60_16, ↓fRb_60_17, ↓fRb_60_18, ↓fRb_60_24, ↓fRb_60_25, ↓fRb_60_26, ↓fRb_60_30, ↓fRb_60_31, ↓fRb_60_36, ↓fRb_60_37, ↓fRb_60_42, ↓fRb_60_43, ↓fRb_60_44, ↓fRb_60_45, ↓aIb_61, ↓sIb_61, ↓aIb_62, ↓sIb_62, ↓aIb_63, ↓sIb_63, ↓aIb_64, ↓sIb_64, ↓aIb_65, ↓sIb_65, ↓aIb_66, ↓sIb_66, ↓aIb_67, ↓sIb_67, ↓aIb_68, ↓sIb_68, ↓aIb_69, ↓sIb_69, ↓aIb_70, ↓sIb_70, ↓aIb_71, ↓sIb_71, ↓aIb_72, ↓sIb_72, ↓aIb_73, ↓sIb_73, ↓aIb_74, ↓sIb_74, ↓aIb_75, ↓sIb_75, ↓aIb_76, ↓sIb_76, ↓aIb_77, ↓sIb_77, ↓aIb_78, ↓sIb_78, ↓aIb_79, ↓sIb_79, ↓aIb_80, ↓sIb_80, ↓aIb_81, ↓sIb_81, ↓aIb_82, ↓sIb_82, ↓aIb_83, ↓sIb_83, ↓aIb_84, ↓sIb_84, r0_60_4, r0_60_5, r0_60_6, r0_60_7, r0_60_8, r0_60_10, r0_60_11, r0_60_12, r0_60_13, r0_60_14, r0_60_16, r0_60_17, r0_60_18, r0_60_24, r0_60_25, r0_60_26, r0_60_30, r0_60_31, r0_60_36, r0_60_37, r0_60_42, r0_60_43, r0_60_44, r0_60_45, rc_60, fI_60, fR_60, pI_60, aI_61, sI_61, aI_62, sI_62, aI_63, sI_63, aI_64, sI_64, aI_65, sI_65, aI_66, sI_66, aI_67, sI_67, aI_68, sI_68, aI_69, sI_69, aI_70, sI_70, aI_71, sI_71, aI_72, sI_72, aI_73, sI_73, aI_74, sI_74, aI_75, sI_75, aI_76, sI_76, aI_77, sI_77, aI_78, sI_78, aI_79, sI_79, aI_80, sI_80, aI_81, sI_81, aI_82, sI_82, aI_83, sI_83, aI_84, sI_84, w_bind, w_bd2, b01_eq0, b01_ok, b01_ok2, w_lt, w_le, w_eq, w_mlt, w_mle, w_ltm, w_lem, w_meq, w_eqm, w_mm, w_mmlt, w_mmle, nI_add, w_sub, pk_mul, w_div, w_rem, w_and, w_or, w_shr, w_shl1, w_a31, w_andn, h1, Nat.one_ne_zero, if_false]
end RefS2
