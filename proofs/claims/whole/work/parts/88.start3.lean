/-! calls: start, the reference's good path -/
section Start3
variable {FU ver : Nat} {P : Pln} {I J : Nat → Nat → Int32} {pl nm hd rd : Option Nat}
theorem r_startG (hF : 99999999 ≤ FU) (hR : PlR P J) (hW : WfP P) {x1 x2 x3 : Int32} {h i r c k p : Nat} (vs : Vd P (h, i, r, 0, 0)) (a1 : h < 8) (a2 : i < 8) (hp : p = Pp P) (p8 : p ≤ 8) (cl : c < 2147483648) (c2 : cR (h, i, r, 0, 0) = c) (e2 : fX9_standingOf FU 60 x1 x2 x3 (nI 0) (nI 0) (J, R0 pl nm hd rd) = some (nI c, (J, R0 pl nm hd rd))) (cg : cgtB P (h, i, r, 0, 0) = false) (ek : andn (2 ^ p - 1) (2 ^ h ||| 2 ^ i) = k) (kl : k < 256) : fX9_start FU 60 x1 x2 x3 (J, R0 pl nm hd rd) = some (nI (lookK P (h, i, r, 0, 0) k), (up2 (up2 (up2 (up2 (up2 (up2 J 60 19 (nI 1)) 60 20 (nI c)) 60 22 (nI 0)) 60 23 (nI 0)) 60 21 (nI k)) 60 21 (nI (lookK P (h, i, r, 0, 0) k)), R0 pl nm hd rd)) := by
  have hin := Vd_in hW vs
  have d9 := r_isCaught (FU := FU) (pl := pl) (nm := nm) (hd := hd) (rd := rd) hF hR hW vs
  rw [c2, b01_neg (by rw [cg]; decide)] at d9
  generalize hT : up2 (up2 (up2 (up2 J 60 19 (nI 1)) 60 20 (nI c)) 60 22 (nI 0)) 60 23 (nI 0) = T
  have T1 : T 60 20 = nI c := by rw [← hT, up2_i (by decide), up2_i (by decide), up2_s]
  have Tp : T 60 0 = nI p := by rw [← hT, up2_i (by decide), up2_i (by decide), up2_i (by decide), up2_i (by decide), hR.1, hp]
  have TR : PlR P T := hR.congr (fun i hi => by rw [← hT, up2_i (by omega), up2_i (by omega), up2_i (by omega), up2_i (by omega)]) (fun k _ _ => by rw [← hT, up2_ne (by omega), up2_ne (by omega), up2_ne (by omega), up2_ne (by omega)])
  have g1 := r_first (FU := FU) (pl := pl) (nm := nm) (hd := hd) (rd := rd) (I := T) hin
  have g2 := r_second (FU := FU) (pl := pl) (nm := nm) (hd := hd) (rd := rd) (I := T) hin
  rw [c2] at g1 g2
  have d3 := r_look (FU := FU) (pl := pl) (nm := nm) (hd := hd) (rd := rd) (J := up2 T 60 21 (nI k)) hF (TR.congr (fun i hi => by rw [up2_i (by omega)]) (fun k _ _ => by rw [up2_ne (by omega)])) hW vs kl (by rw [up2_i (by decide), T1, c2]) (by rw [up2_s])
  generalize lookK P (h, i, r, 0, 0) k = q at d3 ⊢
  have pw := Nat.one_le_two_pow (n := p)
  clear hin cg c2 vs hp kl TR
  rw [← li_0] at e2
  unfold fX9_start
  rw [show rc 9 (some 60) = some 60 from rfl]
  rw [w_bind, dn e2]
  have f0 : (0 : Int32) ≤ nI c := by rw [li_0]; exact (w_le (by omega) (by omega)).mpr (by omega)
  simp only [f0, if_true]
  rw [w_bind, dn d9, if_pos li_0.symm]
  clear d9 e2 f0 cl
  rw [pIb_60, pIb_60, pIb_60, pIb_60]
  simp only [li_1, li_0]
  rw [hT, fIb_60, Tp, w_bind, dn g1, w_bind, dn g2, pIb_60, w_bind]
  have e : (nI 1 <<< (nI p &&& 31) - nI 1) &&& (((nI 1 <<< (nI h &&& 31)) ||| (nI 1 <<< (nI i &&& 31))) ^^^ -(nI 1)) = nI k := by
    clear d3 g1 g2 T1 Tp
    simp (discharger := omega) only [li_0, li_1, li_2, li_3, li_4, li_5, li_6, li_7, li_8, li_9, li_10, li_11, li_12, li_13, li_14, li_15, li_16, li_17, li_18, li_19, li_20, li_21, li_22, li_23, li_24, li_25, li_26, li_27, li_28, li_29, li_30, li_31, li_32, li_33, li_34, li_35, li_36, li_37, li_38, li_39, li_40, li_41, li_42, li_43, li_44, li_45, li_46, li_47, li_48, li_49, li_50, li_51, li_52, li_53, li_54, li_55, li_56, li_57, li_58, li_59, li_60, li_61, li_62, li_63, li_64, li_65, li_66, li_67, li_68, li_69, li_70, li_71, li_72, li_73, li_74, li_75, li_76, li_77, li_78, li_79, li_80, li_81, li_82, li_83, li_84, li_85, li_86, li_87, li_88, li_89, li_90, li_91, li_92, li_93, li_94, li_95, li_96, li_97, li_98, li_99, li_100, li_101, li_102, li_103, li_104, li_105, li_106, li_107, li_108, li_109, li_110, li_111, li_112, li_113, li_114, li_115, li_116, li_117, li_118, li_119, li_120, li_121, li_122, li_123, li_124, li_125, li_126, li_127, li_128, li_144, li_150, li_200, li_255, li_384, li_512, li_999, li_1000, li_1024, li_1152, li_1920, li_3776, li_4096, li_9216, li_10000, li_100000, li_1073741824, li_m, w_lt, w_le, w_eq, w_mlt, w_mle, w_ltm, w_lem, w_meq, w_eqm, w_mm, w_mmlt, w_mmle, nI_add, w_sub, pk_mul, w_div, w_rem, w_and, w_or, w_shr, w_shl1, w_a31, w_andn, ek]
  rw [e, dn1 d3, fIb_60, up2_s]
end Start3
