/-! calls: start, met -/
section Start5
variable {FU ver : Nat} {P : Pln} {I J : Nat → Nat → Int32} {pl nm hd rd : Option Nat}
theorem c_startM {x1 x2 : Int32} {h i r : Nat} (a1 : h < 8) (a2 : i < 8) (a3 : r < 8) (e1 : fX3_pairOf FU 1 x1 x2 (I, R0 pl nm hd rd) = some (nI (h * 8 + i), (I, R0 pl nm hd rd))) (cy : fX3_has FU 1 (nI r) (I, R0 pl nm hd rd) = some (nI 1, (I, R0 pl nm hd rd))) (met : (plcM h i).testBit r = true) : fX8_start FU 0 x1 x2 (nI r) (I, R0 pl nm hd rd) = some (-3, (I, R0 pl nm hd rd)) := by
  have ep := c_placesOf (FU := FU) (pl := pl) (nm := nm) (hd := hd) (rd := rd) (I := I) (h := h) (i := i) a1 a2
  have plt := plc_lt (h := h) (i := i) a1 a2
  have f0 : ¬ nI (h * 8 + i) < 0 := by rw [li_0, w_lt (by omega) (by omega)]; omega
  have f1 : ¬ nI 1 = (0 : Int32) := by decide
  unfold fX8_start
  rw [show fR 8 (I, R0 pl nm hd rd) (some 0) 0 = some (some 1) from rfl, w_bind, show rc 3 (some 1) = some 1 from rfl, w_bind, dn e1, if_neg f0]
  rw [show fR 8 (I, R0 pl nm hd rd) (some 0) 0 = some (some 1) from rfl, w_bind, show rc 3 (some 1) = some 1 from rfl, w_bind, dn cy, if_pos f1, dn ep]
  have f2 : ¬ (nI (plcM h i) >>> (nI r &&& 31)) &&& (1 : Int32) = 0 := by
    clear e1 cy ep f0 f1
    simp (discharger := omega) only [li_0, li_1, li_2, li_3, li_4, li_5, li_6, li_7, li_8, li_9, li_10, li_11, li_12, li_13, li_14, li_15, li_16, li_17, li_18, li_19, li_20, li_21, li_22, li_23, li_24, li_25, li_26, li_27, li_28, li_29, li_30, li_31, li_32, li_33, li_34, li_35, li_36, li_37, li_38, li_39, li_40, li_41, li_42, li_43, li_44, li_45, li_46, li_47, li_48, li_49, li_50, li_51, li_52, li_53, li_54, li_55, li_56, li_57, li_58, li_59, li_60, li_61, li_62, li_63, li_64, li_65, li_66, li_67, li_68, li_69, li_70, li_71, li_72, li_73, li_74, li_75, li_76, li_77, li_78, li_79, li_80, li_81, li_82, li_83, li_84, li_85, li_86, li_87, li_88, li_89, li_90, li_91, li_92, li_93, li_94, li_95, li_96, li_97, li_98, li_99, li_100, li_101, li_102, li_103, li_104, li_105, li_106, li_107, li_108, li_109, li_110, li_111, li_112, li_113, li_114, li_115, li_116, li_117, li_118, li_119, li_120, li_121, li_122, li_123, li_124, li_125, li_126, li_127, li_128, li_144, li_150, li_200, li_255, li_384, li_512, li_999, li_1000, li_1024, li_1152, li_1920, li_3776, li_4096, li_9216, li_10000, li_100000, li_1073741824, li_m, w_lt, w_le, w_eq, w_mlt, w_mle, w_ltm, w_lem, w_meq, w_eqm, w_mm, w_mmlt, w_mmle, nI_add, w_sub, pk_mul, w_div, w_rem, w_and, w_or, w_shr, w_shl1, w_a31, w_andn, w_a1, w_bit0, met]
    try simp
  rw [if_neg f2]
theorem r_startM (hF : 99999999 ≤ FU) (hR : PlR P J) (hW : WfP P) {x1 x2 x3 : Int32} {h i r c : Nat} (vs : Vd P (h, i, r, 0, 0)) (cl : c < 2147483648) (c2 : cR (h, i, r, 0, 0) = c) (e2 : fX9_standingOf FU 60 x1 x2 x3 (nI 0) (nI 0) (J, R0 pl nm hd rd) = some (nI c, (J, R0 pl nm hd rd))) (cg : cgtB P (h, i, r, 0, 0) = true) : fX9_start FU 60 x1 x2 x3 (J, R0 pl nm hd rd) = some (-3, (J, R0 pl nm hd rd)) := by
  have d9 := r_isCaught (FU := FU) (pl := pl) (nm := nm) (hd := hd) (rd := rd) hF hR hW vs
  rw [c2, b01_pos cg] at d9
  rw [← li_0] at e2
  have f0 : (0 : Int32) ≤ nI c := by rw [li_0, w_le (by omega) (by omega)]; omega
  have f1 : ¬ nI 1 = (0 : Int32) := by decide
  unfold fX9_start
  rw [show rc 9 (some 60) = some 60 from rfl, w_bind, dn e2, if_pos f0, w_bind, dn d9, if_neg f1]
end Start5
