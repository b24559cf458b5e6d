/-! calls: start, in pieces -/
section Start2
variable {FU ver : Nat} {P : Pln} {I J : Nat → Nat → Int32} {pl nm hd rd : Option Nat}
def knS (P : Pln) (s : Sd) : Nat := andn (2 ^ Pp P - 1) (plcM s.1 s.2.1)
theorem knS_lt (hW : WfP P) (s : Sd) : knS P s < 256 := by
  have hp := wf_p hW
  have h1 : 2 ^ Pp P ≤ 2 ^ 8 := Nat.pow_le_pow_right (by decide) hp.2
  have h2 := andn_le (2 ^ Pp P - 1) (plcM s.1 s.2.1)
  have h3 : 1 ≤ 2 ^ Pp P := Nat.one_le_two_pow
  unfold knS
  omega
theorem c_begin0 (hF : 99999999 ≤ FU) (hC : PlC 1 P I) (hW : WfP P) {h i r c k : Nat} (hs : Vd P (h, i, r, 0, 0)) (a1 : h < 8) (a2 : i < 8) (c1 : (h * 8 + i) * 8 + r = c) (e : andn (2 ^ Pp P - 1) (plcM h i) = k) (kl : k < 256) (c2 : cC (h, i, r, 0, 0) = c) : fX0_begin FU 35 (some 1) (nI (h * 8 + i)) (nI r) (I, R0 pl nm hd rd) = some (up2 (up2 (up2 (up2 (up2 (up2 I 35 0 (nI 1)) 35 3 (nI 0)) 35 4 (nI 0)) 35 1 (nI c)) 35 2 (nI k)) 35 2 (nI (lookK P (h, i, r, 0, 0) k)), R0 pl nm hd rd) := by
  have hc : (1 : Nat) = 1 ∨ (1 : Nat) = 9 := Or.inl rfl
  generalize hT : up2 (up2 (up2 (up2 I 35 0 (nI 1)) 35 3 (nI 0)) 35 4 (nI 0)) 35 1 (nI c) = T
  have Tc : PlC 1 P T := hC.congr (fun j _ _ => by rw [← hT, up2_ne (by omega), up2_ne (by omega), up2_ne (by omega), up2_ne (by omega)])
  have T1 : T 35 1 = nI c := by rw [← hT, up2_s]
  have d1 := c_allPlaces (FU := FU) (pl := pl) (nm := nm) (hd := hd) (rd := rd) (I := T) hc Tc hW
  have d2 := c_placesOf (FU := FU) (pl := pl) (nm := nm) (hd := hd) (rd := rd) (I := T) (h := h) (i := i) a1 a2
  have d3 := c_look (FU := FU) (pl := pl) (nm := nm) (hd := hd) (rd := rd) (I := up2 T 35 2 (nI k)) hF (Tc.congr (fun j _ _ => up2_ne (by omega))) hW hs kl (by rw [up2_i (by decide), T1, c2]) (by rw [up2_s])
  generalize lookK P (h, i, r, 0, 0) k = q at d3 ⊢
  have rb : ∀ f : Nat → Option Mem, (rc 3 (some 1)).bind f = f 1 := fun f => by rw [show rc 3 (some 1) = some 1 from rfl]; rfl
  unfold fX0_begin
  simp (discharger := omega) only [li_0, li_1, li_2, li_3, li_4, li_5, li_6, li_7, li_8, li_9, li_10, li_11, li_12, li_13, li_14, li_15, li_16, li_17, li_18, li_19, li_20, li_21, li_22, li_23, li_24, li_25, li_26, li_27, li_28, li_29, li_30, li_31, li_32, li_33, li_34, li_35, li_36, li_37, li_38, li_39, li_40, li_41, li_42, li_43, li_44, li_45, li_46, li_47, li_48, li_49, li_50, li_51, li_52, li_53, li_54, li_55, li_56, li_57, li_58, li_59, li_60, li_61, li_62, li_63, li_64, li_65, li_66, li_67, li_68, li_69, li_70, li_71, li_72, li_73, li_74, li_75, li_76, li_77, li_78, li_79, li_80, li_81, li_82, li_83, li_84, li_85, li_86, li_87, li_88, li_89, li_90, li_91, li_92, li_93, li_94, li_95, li_96, li_97, li_98, li_99, li_100, li_101, li_102, li_103, li_104, li_105, li_106, li_107, li_108, li_109, li_110, li_111, li_112, li_113, li_114, li_115, li_116, li_117, li_118, li_119, li_120, li_121, li_122, li_123, li_124, li_125, li_126, li_127, li_128, li_144, li_150, li_200, li_255, li_384, li_512, li_999, li_1000, li_1024, li_1152, li_1920, li_3776, li_4096, li_9216, li_10000, li_100000, li_1073741824, li_m, ↓rcb_35, ↓fIb_35, ↓pIb_35, ↓fRb_35_5, ↓fRb_35_6, ↓aIb_36, ↓sIb_36, ↓aIb_37, ↓sIb_37, r0_35_5, r0_35_6, rc_35, fI_35, fR_35, pI_35, aI_36, sI_36, aI_37, sI_37, w_bind, w_bd2, b01_eq0, b01_ok, b01_ok2, pk_mul, nI_add, c1, hT, ↓rb, dn d1, dn d2, w_andn, li_m, e, dn1 d3]
end Start2
