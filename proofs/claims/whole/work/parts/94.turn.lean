/-! a turn of the game -/
section Turn
variable {FU ver : Nat} {P : Pln} {I J : Nat → Nat → Int32} {pl nm hd rd : Option Nat}
/-- the sets of those places that a set has, together -/
def orS (kn : Nat) (f : Nat → Nat) (x : Nat) : Nat := mk (fun y => anyB (fun x => kn.testBit x && (f x).testBit y) x) 8
theorem orS_lt (kn : Nat) (f : Nat → Nat) (x : Nat) : orS kn f x < 256 := mk_lt _ 8
theorem orS_0 (kn : Nat) (f : Nat → Nat) : orS kn f 0 = 0 := by
  apply Nat.eq_of_testBit_eq
  intro y
  unfold orS
  rw [tb_mk]
  simp [anyB]
theorem orS_y {kn x : Nat} {f : Nat → Nat} (e : kn.testBit x = true) (hf : f x < 256) : orS kn f (x + 1) = orS kn f x ||| f x := by
  apply Nat.eq_of_testBit_eq
  intro y
  rw [Nat.testBit_or]
  unfold orS
  rw [tb_mk, tb_mk, anyB_s]
  by_cases z : y < 8
  · simp [z, e]
  · have := tb_of_lt (a := f x) (i := y) (k := 8) hf (by omega)
    simp [z, this]
theorem orS_n {kn x : Nat} {f : Nat → Nat} (e : kn.testBit x = false) : orS kn f (x + 1) = orS kn f x := by
  unfold orS
  apply mk_congr
  intro y hy
  simp [anyB, e]
theorem rch_lt (x h i sh : Nat) : rch P x h i sh < 256 := mk_lt _ 8
theorem c_knownB (hF : 99999999 ≤ FU) (hC : PlC 1 P I) (hW : WfP P) {s : Sd} {kn : Nat} (hs : Vd P s) (hk : kn < 256) (h1 : I 35 1 = nI (cC s)) (h2 : I 35 2 = nI kn) : fX0_knownBehindRunner FU 35 (some 1) (I, R0 pl nm hd rd) = some (nI (runsS P kn s.1 s.2.1 s.2.2.2.2), (I, R0 pl nm hd rd)) := by
  have hc : (1 : Nat) = 1 ∨ (1 : Nat) = 9 := Or.inl rfl
  have hp := wf_p hW
  have hin := Vd_in hW hs
  have cl := cC_lt hin
  have a0 := hC.1
  obtain ⟨a1, a2, a3, a4, a5⟩ := hin
  have e1 : (cC s >>> 3) % 64 = s.1 * 8 + s.2.1 := by unfold cC; exact k_1 a1 a2 a3 a4
  have e4 : cC s / 1024 = s.2.2.2.2 := by unfold cC; exact k_3 a1 a2 a3 a4
  have step : ∀ x, x < Pp P → ∀ F, fX0_knownBehindRunner_L4 FU 35 (some 1) (F + 1) (nI (orS kn (fun x => rch P x s.1 s.2.1 s.2.2.2.2) x)) (nI x) (I, R0 pl nm hd rd) = fX0_knownBehindRunner_L4 FU 35 (some 1) F (nI (orS kn (fun x => rch P x s.1 s.2.1 s.2.2.2.2) (x + 1))) (nI (x + 1)) (I, R0 pl nm hd rd) := by
    intro x hx F
    have d1 := c_reachOf (FU := FU) (pl := pl) (nm := nm) (hd := hd) (rd := rd) hF hc hC hW hx a1 a2 a5
    have d2 := rch_lt (P := P) x s.1 s.2.1 s.2.2.2.2
    rw [fX0_knownBehindRunner_L4]
    unfold fX0_knownBehindRunner_b48
    by_cases z : kn.testBit x = true
    · rw [orS_y z d2]
      simp (discharger := omega) only [li_0, li_1, li_2, li_3, li_4, li_5, li_6, li_7, li_8, li_9, li_10, li_11, li_12, li_13, li_14, li_15, li_16, li_17, li_18, li_19, li_20, li_21, li_22, li_23, li_24, li_25, li_26, li_27, li_28, li_29, li_30, li_31, li_32, li_33, li_34, li_35, li_36, li_37, li_38, li_39, li_40, li_41, li_42, li_43, li_44, li_45, li_46, li_47, li_48, li_49, li_50, li_51, li_52, li_53, li_54, li_55, li_56, li_57, li_58, li_59, li_60, li_61, li_62, li_63, li_64, li_65, li_66, li_67, li_68, li_69, li_70, li_71, li_72, li_73, li_74, li_75, li_76, li_77, li_78, li_79, li_80, li_81, li_82, li_83, li_84, li_85, li_86, li_87, li_88, li_89, li_90, li_91, li_92, li_93, li_94, li_95, li_96, li_97, li_98, li_99, li_100, li_101, li_102, li_103, li_104, li_105, li_106, li_107, li_108, li_109, li_110, li_111, li_112, li_113, li_114, li_115, li_116, li_117, li_118, li_119, li_120, li_121, li_122, li_123, li_124, li_125, li_126, li_127, li_128, li_144, li_150, li_200, li_255, li_384, li_512, li_999, li_1000, li_1024, li_1152, li_1920, li_3776, li_4096, li_9216, li_10000, li_100000, li_1073741824, li_m, ↓rcb_35, ↓fIb_35, ↓pIb_35, ↓fRb_35_5, ↓fRb_35_6, ↓aIb_36, ↓sIb_36, ↓aIb_37, ↓sIb_37, r0_35_5, r0_35_6, rc_35, fI_35, fR_35, pI_35, aI_36, sI_36, aI_37, sI_37, ↓rcb_1, ↓fIb_1, w_bind, w_bd2, b01_eq0, b01_ok, b01_ok2, w_lt, w_le, w_eq, w_mlt, w_mle, w_ltm, w_lem, w_meq, w_eqm, w_mm, w_mmlt, w_mmle, nI_add, w_sub, pk_mul, w_div, w_rem, w_and, w_or, w_shr, w_shl1, w_a31, w_andn, ↓reduceIte, Nat.reduceAdd, Nat.reduceEqDiff, Nat.zero_lt_one, Nat.not_lt_zero, Nat.one_ne_zero, Nat.zero_ne_one, not_true_eq_false, not_false_eq_true, Bool.false_eq_true, Bool.true_eq_false, n_leT, n_leF, n_ltT, n_ltF, n_eqT, n_eqF, and_true, true_and, and_false, false_and, or_true, true_or, or_false, false_or, not_true_eq_false, not_false_eq_true, a0, h1, h2, w_a63, w_a1, w_bit0, z, e1, e4, dn d1]
    · have z2 : kn.testBit x = false := by simpa using z
      rw [orS_n z2]
      simp (discharger := omega) only [li_0, li_1, li_2, li_3, li_4, li_5, li_6, li_7, li_8, li_9, li_10, li_11, li_12, li_13, li_14, li_15, li_16, li_17, li_18, li_19, li_20, li_21, li_22, li_23, li_24, li_25, li_26, li_27, li_28, li_29, li_30, li_31, li_32, li_33, li_34, li_35, li_36, li_37, li_38, li_39, li_40, li_41, li_42, li_43, li_44, li_45, li_46, li_47, li_48, li_49, li_50, li_51, li_52, li_53, li_54, li_55, li_56, li_57, li_58, li_59, li_60, li_61, li_62, li_63, li_64, li_65, li_66, li_67, li_68, li_69, li_70, li_71, li_72, li_73, li_74, li_75, li_76, li_77, li_78, li_79, li_80, li_81, li_82, li_83, li_84, li_85, li_86, li_87, li_88, li_89, li_90, li_91, li_92, li_93, li_94, li_95, li_96, li_97, li_98, li_99, li_100, li_101, li_102, li_103, li_104, li_105, li_106, li_107, li_108, li_109, li_110, li_111, li_112, li_113, li_114, li_115, li_116, li_117, li_118, li_119, li_120, li_121, li_122, li_123, li_124, li_125, li_126, li_127, li_128, li_144, li_150, li_200, li_255, li_384, li_512, li_999, li_1000, li_1024, li_1152, li_1920, li_3776, li_4096, li_9216, li_10000, li_100000, li_1073741824, li_m, ↓rcb_35, ↓fIb_35, ↓pIb_35, ↓fRb_35_5, ↓fRb_35_6, ↓aIb_36, ↓sIb_36, ↓aIb_37, ↓sIb_37, r0_35_5, r0_35_6, rc_35, fI_35, fR_35, pI_35, aI_36, sI_36, aI_37, sI_37, ↓rcb_1, ↓fIb_1, w_bind, w_bd2, b01_eq0, b01_ok, b01_ok2, w_lt, w_le, w_eq, w_mlt, w_mle, w_ltm, w_lem, w_meq, w_eqm, w_mm, w_mmlt, w_mmle, nI_add, w_sub, pk_mul, w_div, w_rem, w_and, w_or, w_shr, w_shl1, w_a31, w_andn, ↓reduceIte, Nat.reduceAdd, Nat.reduceEqDiff, Nat.zero_lt_one, Nat.not_lt_zero, Nat.one_ne_zero, Nat.zero_ne_one, not_true_eq_false, not_false_eq_true, Bool.false_eq_true, Bool.true_eq_false, n_leT, n_leF, n_ltT, n_ltF, n_eqT, n_eqF, and_true, true_and, and_false, false_and, or_true, true_or, or_false, false_or, not_true_eq_false, not_false_eq_true, a0, h1, h2, w_a63, w_a1, w_bit0, z2]
  have lp := lpU (fun F (q : Int32 × Int32 × Mem) => fX0_knownBehindRunner_L4 FU 35 (some 1) F q.1 q.2.1 q.2.2) (fun x => (nI (orS kn (fun x => rch P x s.1 s.2.1 s.2.2.2.2) x), nI x, (I, R0 pl nm hd rd))) (Pp P) step (Pp P) 0 FU (by omega) (by omega)
  simp only at lp
  obtain ⟨G, hG⟩ : ∃ G, FU - Pp P = G + 1 := ⟨FU - Pp P - 1, by omega⟩
  rw [orS_0] at lp
  unfold fX0_knownBehindRunner
  simp only [li_0]
  rw [lp, hG, fX0_knownBehindRunner_L4]
  simp (discharger := omega) only [li_0, li_1, li_2, li_3, li_4, li_5, li_6, li_7, li_8, li_9, li_10, li_11, li_12, li_13, li_14, li_15, li_16, li_17, li_18, li_19, li_20, li_21, li_22, li_23, li_24, li_25, li_26, li_27, li_28, li_29, li_30, li_31, li_32, li_33, li_34, li_35, li_36, li_37, li_38, li_39, li_40, li_41, li_42, li_43, li_44, li_45, li_46, li_47, li_48, li_49, li_50, li_51, li_52, li_53, li_54, li_55, li_56, li_57, li_58, li_59, li_60, li_61, li_62, li_63, li_64, li_65, li_66, li_67, li_68, li_69, li_70, li_71, li_72, li_73, li_74, li_75, li_76, li_77, li_78, li_79, li_80, li_81, li_82, li_83, li_84, li_85, li_86, li_87, li_88, li_89, li_90, li_91, li_92, li_93, li_94, li_95, li_96, li_97, li_98, li_99, li_100, li_101, li_102, li_103, li_104, li_105, li_106, li_107, li_108, li_109, li_110, li_111, li_112, li_113, li_114, li_115, li_116, li_117, li_118, li_119, li_120, li_121, li_122, li_123, li_124, li_125, li_126, li_127, li_128, li_144, li_150, li_200, li_255, li_384, li_512, li_999, li_1000, li_1024, li_1152, li_1920, li_3776, li_4096, li_9216, li_10000, li_100000, li_1073741824, li_m, ↓fIb_1, w_bind, w_bd2, b01_eq0, b01_ok, b01_ok2, w_lt, w_le, w_eq, w_mlt, w_mle, w_ltm, w_lem, w_meq, w_eqm, w_mm, w_mmlt, w_mmle, nI_add, w_sub, pk_mul, w_div, w_rem, w_and, w_or, w_shr, w_shl1, w_a31, w_andn, ↓reduceIte, Nat.reduceAdd, Nat.reduceEqDiff, Nat.zero_lt_one, Nat.not_lt_zero, Nat.one_ne_zero, Nat.zero_ne_one, not_true_eq_false, not_false_eq_true, Bool.false_eq_true, Bool.true_eq_false, n_leT, n_leF, n_ltT, n_ltF, n_eqT, n_eqF, and_true, true_and, and_false, false_and, or_true, true_or, or_false, false_or, not_true_eq_false, not_false_eq_true, a0]
  rfl
/-- known behind a turn, before the look -/
def knT (P : Pln) (s t : Sd) (kn : Nat) : Nat := if s.2.2.2.1 = 1 then runsS P kn s.1 s.2.1 s.2.2.2.2 else andn kn (plcM t.1 t.2.1)
theorem knT_lt (s t : Sd) {kn : Nat} (hk : kn < 256) : knT P s t kn < 256 := by
  unfold knT
  split
  · exact mk_lt _ 8
  · exact Nat.lt_of_le_of_lt (andn_le _ _) hk
theorem c_turn121 (hF : 99999999 ≤ FU) (hC : PlC 1 P I) (hW : WfP P) {t : Sd} {kn : Nat} (ht : Vd P t) (hk : kn < 256) (h2 : I 35 2 = nI kn) : fX0_turn_b121 FU 35 (nI (cC t)) (some 1) (I, R0 pl nm hd rd) = some (up2 (up2 I 35 1 (nI (cC t))) 35 2 (nI (lookK P t kn)), R0 pl nm hd rd) := by
  generalize hT : up2 I 35 1 (nI (cC t)) = T
  have d := c_look (FU := FU) (pl := pl) (nm := nm) (hd := hd) (rd := rd) (I := T) hF (hC.congr (fun j _ _ => by rw [← hT, up2_ne (by omega)])) hW ht hk (by rw [← hT, up2_s]) (by rw [← hT, up2_i (by decide), h2])
  unfold fX0_turn_b121
  rw [pIb_35, hT, show rc 0 (some 35) = some 35 from rfl, w_bind, dn1 d]
theorem c_turn (hF : 99999999 ≤ FU) (hC : PlC 1 P I) (hW : WfP P) (hT : ShT P I) {s t : Sd} {m kn n kp : Nat} (hs : Vd P s) (hm : m ≤ 32) (hb : bhd P s m = some t) (hk : kn < 256) (hn : n < 2 ^ 30) (hp : kp ≤ 64) (h1 : I 35 1 = nI (cC s)) (h2 : I 35 2 = nI kn) (h3 : I 35 3 = nI n) (h4 : I 35 4 = nI kp) : ∃ I', fX0_turn FU 35 (some 17) (nI m) (I, R0 (some 1) nm hd rd) = some (I', R0 (some 1) nm hd rd) ∧ I' 35 0 = I 35 0 ∧ I' 35 1 = nI (cC t) ∧ I' 35 2 = nI (lookK P t (knT P s t kn)) ∧ I' 35 3 = nI (n + 1) ∧ I' 35 4 = nI (if kp + 1 < 64 then kp + 1 else 64) ∧ I' 36 = va_up (I 36) (n % 64) (nI (cC s)) ∧ I' 37 = va_up (I 37) (n % 64) (nI kn) ∧ ∀ k, k ≠ 35 → k ≠ 36 → k ≠ 37 → I' k = I k := by
  have hc : (1 : Nat) = 1 ∨ (1 : Nat) = 9 := Or.inl rfl
  have hin := Vd_in hW hs
  have vt := bhd_Vd hW hs hb
  have hit := Vd_in hW vt
  have cl := cC_lt hin
  have clt := cC_lt hit
  have d1 := c_bhd (FU := FU) (nm := nm) (hd := hd) (rd := rd) hc hC hW hT hs hm
  rw [hb, Option.map_some, oI_some] at d1
  have f0 : (0 : Int32) ≤ nI (cC t) := by rw [li_0, w_le (by omega) (by omega)]; omega
  have rem : nI n - nI n / (64 : Int32) * (64 : Int32) = nI (n % 64) := by simp (discharger := omega) only [li_0, li_1, li_2, li_3, li_4, li_5, li_6, li_7, li_8, li_9, li_10, li_11, li_12, li_13, li_14, li_15, li_16, li_17, li_18, li_19, li_20, li_21, li_22, li_23, li_24, li_25, li_26, li_27, li_28, li_29, li_30, li_31, li_32, li_33, li_34, li_35, li_36, li_37, li_38, li_39, li_40, li_41, li_42, li_43, li_44, li_45, li_46, li_47, li_48, li_49, li_50, li_51, li_52, li_53, li_54, li_55, li_56, li_57, li_58, li_59, li_60, li_61, li_62, li_63, li_64, li_65, li_66, li_67, li_68, li_69, li_70, li_71, li_72, li_73, li_74, li_75, li_76, li_77, li_78, li_79, li_80, li_81, li_82, li_83, li_84, li_85, li_86, li_87, li_88, li_89, li_90, li_91, li_92, li_93, li_94, li_95, li_96, li_97, li_98, li_99, li_100, li_101, li_102, li_103, li_104, li_105, li_106, li_107, li_108, li_109, li_110, li_111, li_112, li_113, li_114, li_115, li_116, li_117, li_118, li_119, li_120, li_121, li_122, li_123, li_124, li_125, li_126, li_127, li_128, li_144, li_150, li_200, li_255, li_384, li_512, li_999, li_1000, li_1024, li_1152, li_1920, li_3776, li_4096, li_9216, li_10000, li_100000, li_1073741824, li_m, w_lt, w_le, w_eq, w_mlt, w_mle, w_ltm, w_lem, w_meq, w_eqm, w_mm, w_mmlt, w_mmle, nI_add, w_sub, pk_mul, w_div, w_rem, w_and, w_or, w_shr, w_shl1, w_a31, w_andn]
  have rem2 : (if nI kp + (1 : Int32) < (64 : Int32) then nI kp + (1 : Int32) else (64 : Int32)) = nI (if kp + 1 < 64 then kp + 1 else 64) := by
    simp (discharger := omega) only [li_0, li_1, li_2, li_3, li_4, li_5, li_6, li_7, li_8, li_9, li_10, li_11, li_12, li_13, li_14, li_15, li_16, li_17, li_18, li_19, li_20, li_21, li_22, li_23, li_24, li_25, li_26, li_27, li_28, li_29, li_30, li_31, li_32, li_33, li_34, li_35, li_36, li_37, li_38, li_39, li_40, li_41, li_42, li_43, li_44, li_45, li_46, li_47, li_48, li_49, li_50, li_51, li_52, li_53, li_54, li_55, li_56, li_57, li_58, li_59, li_60, li_61, li_62, li_63, li_64, li_65, li_66, li_67, li_68, li_69, li_70, li_71, li_72, li_73, li_74, li_75, li_76, li_77, li_78, li_79, li_80, li_81, li_82, li_83, li_84, li_85, li_86, li_87, li_88, li_89, li_90, li_91, li_92, li_93, li_94, li_95, li_96, li_97, li_98, li_99, li_100, li_101, li_102, li_103, li_104, li_105, li_106, li_107, li_108, li_109, li_110, li_111, li_112, li_113, li_114, li_115, li_116, li_117, li_118, li_119, li_120, li_121, li_122, li_123, li_124, li_125, li_126, li_127, li_128, li_144, li_150, li_200, li_255, li_384, li_512, li_999, li_1000, li_1024, li_1152, li_1920, li_3776, li_4096, li_9216, li_10000, li_100000, li_1073741824, li_m, w_lt, w_le, w_eq, w_mlt, w_mle, w_ltm, w_lem, w_meq, w_eqm, w_mm, w_mmlt, w_mmle, nI_add, w_sub, pk_mul, w_div, w_rem, w_and, w_or, w_shr, w_shl1, w_a31, w_andn]
    split <;> rfl
  generalize hq : (if kp + 1 < 64 then kp + 1 else 64) = q at rem2 ⊢
  have rem3 : nI n + (1 : Int32) = nI (n + 1) := by simp (discharger := omega) only [li_0, li_1, li_2, li_3, li_4, li_5, li_6, li_7, li_8, li_9, li_10, li_11, li_12, li_13, li_14, li_15, li_16, li_17, li_18, li_19, li_20, li_21, li_22, li_23, li_24, li_25, li_26, li_27, li_28, li_29, li_30, li_31, li_32, li_33, li_34, li_35, li_36, li_37, li_38, li_39, li_40, li_41, li_42, li_43, li_44, li_45, li_46, li_47, li_48, li_49, li_50, li_51, li_52, li_53, li_54, li_55, li_56, li_57, li_58, li_59, li_60, li_61, li_62, li_63, li_64, li_65, li_66, li_67, li_68, li_69, li_70, li_71, li_72, li_73, li_74, li_75, li_76, li_77, li_78, li_79, li_80, li_81, li_82, li_83, li_84, li_85, li_86, li_87, li_88, li_89, li_90, li_91, li_92, li_93, li_94, li_95, li_96, li_97, li_98, li_99, li_100, li_101, li_102, li_103, li_104, li_105, li_106, li_107, li_108, li_109, li_110, li_111, li_112, li_113, li_114, li_115, li_116, li_117, li_118, li_119, li_120, li_121, li_122, li_123, li_124, li_125, li_126, li_127, li_128, li_144, li_150, li_200, li_255, li_384, li_512, li_999, li_1000, li_1024, li_1152, li_1920, li_3776, li_4096, li_9216, li_10000, li_100000, li_1073741824, li_m, w_lt, w_le, w_eq, w_mlt, w_mle, w_ltm, w_lem, w_meq, w_eqm, w_mm, w_mmlt, w_mmle, nI_add, w_sub, pk_mul, w_div, w_rem, w_and, w_or, w_shr, w_shl1, w_a31, w_andn]
  generalize hT4 : up2 (up2 (up2 (up2 I 36 (n % 64) (nI (cC s))) 37 (n % 64) (nI kn)) 35 4 (nI q)) 35 3 (nI (n + 1)) = T4
  have t0 : T4 35 0 = I 35 0 := by rw [← hT4, up2_i (by decide), up2_i (by decide), up2_k (by decide), up2_k (by decide)]
  have t1 : T4 35 1 = nI (cC s) := by rw [← hT4, up2_i (by decide), up2_i (by decide), up2_k (by decide), up2_k (by decide), h1]
  have t2 : T4 35 2 = nI kn := by rw [← hT4, up2_i (by decide), up2_i (by decide), up2_k (by decide), up2_k (by decide), h2]
  have t3 : T4 35 3 = nI (n + 1) := by rw [← hT4, up2_s]
  have t4 : T4 35 4 = nI q := by rw [← hT4, up2_i (by decide), up2_s]
  have t36 : T4 36 = va_up (I 36) (n % 64) (nI (cC s)) := by rw [← hT4, up2_ne (by decide), up2_ne (by decide), up2_ne (by decide), up2_eq]
  have t37 : T4 37 = va_up (I 37) (n % 64) (nI kn) := by rw [← hT4, up2_ne (by decide), up2_ne (by decide), up2_eq, up2_ne (by decide)]
  have tk : ∀ k, k ≠ 35 → k ≠ 36 → k ≠ 37 → T4 k = I k := fun k k1 k2 k3 => by rw [← hT4, up2_ne k1, up2_ne k1, up2_ne k3, up2_ne k2]
  have Tc : PlC 1 P T4 := hC.congr (fun j _ _ => tk j (by omega) (by omega) (by omega))
  have kl := knT_lt (P := P) s t hk
  have dr := c_isRunnersTurn (FU := FU) (pl := some 1) (nm := nm) (hd := hd) (rd := rd) (I := T4) hin
  have d2 := c_turn121 (FU := FU) (pl := some 1) (nm := nm) (hd := hd) (rd := rd) (I := up2 T4 35 2 (nI (knT P s t kn))) hF (Tc.congr (fun j _ _ => by rw [up2_ne (by omega)])) hW vt kl (by rw [up2_s])
  have pc : (nI (cC t) >>> ((3 : Int32) &&& 31)) &&& (63 : Int32) = nI (t.1 * 8 + t.2.1) := by
    obtain ⟨a1, a2, a3, a4, a5⟩ := hit
    have e1 : (cC t >>> 3) % 64 = t.1 * 8 + t.2.1 := by unfold cC; exact k_1 a1 a2 a3 a4
    rw [← e1]
    clear d1 dr d2 e1
    simp (discharger := omega) only [li_0, li_1, li_2, li_3, li_4, li_5, li_6, li_7, li_8, li_9, li_10, li_11, li_12, li_13, li_14, li_15, li_16, li_17, li_18, li_19, li_20, li_21, li_22, li_23, li_24, li_25, li_26, li_27, li_28, li_29, li_30, li_31, li_32, li_33, li_34, li_35, li_36, li_37, li_38, li_39, li_40, li_41, li_42, li_43, li_44, li_45, li_46, li_47, li_48, li_49, li_50, li_51, li_52, li_53, li_54, li_55, li_56, li_57, li_58, li_59, li_60, li_61, li_62, li_63, li_64, li_65, li_66, li_67, li_68, li_69, li_70, li_71, li_72, li_73, li_74, li_75, li_76, li_77, li_78, li_79, li_80, li_81, li_82, li_83, li_84, li_85, li_86, li_87, li_88, li_89, li_90, li_91, li_92, li_93, li_94, li_95, li_96, li_97, li_98, li_99, li_100, li_101, li_102, li_103, li_104, li_105, li_106, li_107, li_108, li_109, li_110, li_111, li_112, li_113, li_114, li_115, li_116, li_117, li_118, li_119, li_120, li_121, li_122, li_123, li_124, li_125, li_126, li_127, li_128, li_144, li_150, li_200, li_255, li_384, li_512, li_999, li_1000, li_1024, li_1152, li_1920, li_3776, li_4096, li_9216, li_10000, li_100000, li_1073741824, li_m, w_lt, w_le, w_eq, w_mlt, w_mle, w_ltm, w_lem, w_meq, w_eqm, w_mm, w_mmlt, w_mmle, nI_add, w_sub, pk_mul, w_div, w_rem, w_and, w_or, w_shr, w_shl1, w_a31, w_andn, w_a63]
  have d3 := c_placesOf (FU := FU) (pl := some 1) (nm := nm) (hd := hd) (rd := rd) (I := T4) hit.1 hit.2.1
  have d4 := c_knownB (FU := FU) (pl := some 1) (nm := nm) (hd := hd) (rd := rd) (I := T4) hF Tc hW hs hk t1 t2
  refine ⟨up2 (up2 (up2 T4 35 2 (nI (knT P s t kn))) 35 1 (nI (cC t))) 35 2 (nI (lookK P t (knT P s t kn))), ?_, ?_, ?_, ?_, ?_, ?_, ?_, ?_, ?_⟩
  · unfold fX0_turn
    rw [fIb_35, h1, show rc 6 (some 17) = some 17 from rfl, w_bind, dn d1, if_pos f0, fRb_17_0, fRb_35_5, fIb_35, h3, fIb_35, h1, rem, sIb_36 (by omega), fRb_35_6, fIb_35, up2_k (by decide), h3, fIb_35, up2_k (by decide), h2, rem, sIb_37 (by omega), fIb_35, up2_k (by decide), up2_k (by decide), h4, rem2, pIb_35, fIb_35, up2_i (by decide), up2_k (by decide), up2_k (by decide), h3, rem3, pIb_35, hT4, fIb_35, t1, dn dr]
    have ht := hin.2.2.2.1
    obtain z | z : s.2.2.2.1 = 0 ∨ s.2.2.2.1 = 1 := by omega
    · rw [z, if_pos li_0.symm, fIb_35, t2, pc, dn d3, pIb_35]
      have e : nI kn &&& (nI (plcM t.1 t.2.1) ^^^ (-1 : Int32)) = nI (knT P s t kn) := by
        unfold knT
        rw [z, if_neg (by decide)]
        clear d1 dr d2 d3 d4
        simp (discharger := omega) only [li_0, li_1, li_2, li_3, li_4, li_5, li_6, li_7, li_8, li_9, li_10, li_11, li_12, li_13, li_14, li_15, li_16, li_17, li_18, li_19, li_20, li_21, li_22, li_23, li_24, li_25, li_26, li_27, li_28, li_29, li_30, li_31, li_32, li_33, li_34, li_35, li_36, li_37, li_38, li_39, li_40, li_41, li_42, li_43, li_44, li_45, li_46, li_47, li_48, li_49, li_50, li_51, li_52, li_53, li_54, li_55, li_56, li_57, li_58, li_59, li_60, li_61, li_62, li_63, li_64, li_65, li_66, li_67, li_68, li_69, li_70, li_71, li_72, li_73, li_74, li_75, li_76, li_77, li_78, li_79, li_80, li_81, li_82, li_83, li_84, li_85, li_86, li_87, li_88, li_89, li_90, li_91, li_92, li_93, li_94, li_95, li_96, li_97, li_98, li_99, li_100, li_101, li_102, li_103, li_104, li_105, li_106, li_107, li_108, li_109, li_110, li_111, li_112, li_113, li_114, li_115, li_116, li_117, li_118, li_119, li_120, li_121, li_122, li_123, li_124, li_125, li_126, li_127, li_128, li_144, li_150, li_200, li_255, li_384, li_512, li_999, li_1000, li_1024, li_1152, li_1920, li_3776, li_4096, li_9216, li_10000, li_100000, li_1073741824, li_m, w_lt, w_le, w_eq, w_mlt, w_mle, w_ltm, w_lem, w_meq, w_eqm, w_mm, w_mmlt, w_mmle, nI_add, w_sub, pk_mul, w_div, w_rem, w_and, w_or, w_shr, w_shl1, w_a31, w_andn]
      rw [e, d2]
    · rw [z, if_neg (by decide), show rc 0 (some 35) = some 35 from rfl, w_bind, dn d4, pIb_35]
      have e : runsS P kn s.1 s.2.1 s.2.2.2.2 = knT P s t kn := by
        unfold knT
        rw [if_pos z]
      rw [e, d2]
  · rw [up2_i (by decide), up2_i (by decide), up2_i (by decide), t0]
  · rw [up2_i (by decide), up2_s]
  · rw [up2_s]
  · rw [up2_i (by decide), up2_i (by decide), up2_i (by decide), t3]
  · rw [up2_i (by decide), up2_i (by decide), up2_i (by decide), t4]
  · rw [up2_ne (by decide), up2_ne (by decide), up2_ne (by decide), t36]
  · rw [up2_ne (by decide), up2_ne (by decide), up2_ne (by decide), t37]
  · intro k k1 k2 k3
    rw [up2_ne k1, up2_ne k1, up2_ne k1, tk k k1 k2 k3]
end Turn
