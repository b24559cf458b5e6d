/-! hidden, the reference: prepare, findRounds -/
section Hid6
variable {FU ver : Nat} {P : Pln} {I J : Nat → Nat → Int32} {pl nm hd rd : Option Nat}
theorem r_prep2 (hF : 99999999 ≤ FU) (hW : WfP P) : ∀ d x J F, d + x = Pp P → d < F → PlR P J → ∃ J', fX9_prepare_L2 FU 60 F (nI x) (J, R0 pl nm hd rd) = fX9_prepare_L29 FU 60 FU (nI 0) (J', R0 pl nm hd rd) ∧ (∀ y, x ≤ y → y < Pp P → J' 71 y = nI (seeP P y)) ∧ (∀ y, y < x → J' 71 y = J 71 y) ∧ (∀ q, q ≠ 71 → J' q = J q) := by
  have hp := wf_p hW
  intro d
  induction d with
  | zero =>
    intro x J F h1 h2 hR
    obtain ⟨G, rfl⟩ : ∃ G, F = G + 1 := ⟨F - 1, by omega⟩
    refine ⟨J, ?_, fun y y1 y2 => by omega, fun _ _ => rfl, fun _ _ => rfl⟩
    rw [fX9_prepare_L2, fIb_60, hR.1, if_pos (by rw [w_le (by omega) (by omega)]; omega), li_0]
  | succ d ih =>
    intro x J F h1 h2 hR
    obtain ⟨G, rfl⟩ : ∃ G, F = G + 1 := ⟨F - 1, by omega⟩
    have f0 : ¬ nI (Pp P) ≤ nI x := by rw [w_le (by omega) (by omega)]; omega
    have d1 := r_seesFrom (FU := FU) (pl := pl) (nm := nm) (hd := hd) (rd := rd) hF hR hW (x := x) (by omega)
    obtain ⟨J', a1, a2, a3, a4⟩ := ih (x + 1) (up2 J 71 x (nI (seeP P x))) G (by omega) (by omega) (hR.congr (fun i _ => up2_k (by decide)) (fun k _ _ => up2_ne (by omega)))
    refine ⟨J', ?_, fun y y1 y2 => ?_, fun y hy => by rw [a3 y (by omega), up2_i (by omega)], fun q hq => by rw [a4 q hq, up2_ne hq]⟩
    · rw [fX9_prepare_L2, fIb_60, hR.1, if_neg f0, fRb_60_16, show rc 9 (some 60) = some 60 from rfl, w_bind, dn d1, sIb_71 (by omega), li_1, nI_add]
      exact a1
    · by_cases z : y = x
      · subst z
        rw [a3 y (by omega), up2_s]
      · exact a2 y (by omega) y2
/-- prepared below an index -/
def Q72 (P : Pln) (B : Nat) (J : Nat → Nat → Int32) : Prop := ∀ h i x, h ≤ i → i < Pp P → x < Pp P → 64 * h + 8 * i + x < B → J 72 (64 * h + 8 * i + x) = nI (rch P x h i 0)
theorem r_prep49 (hF : 99999999 ≤ FU) (hW : WfP P) {h i : Nat} (hhi : h ≤ i) (hi : i < Pp P) {k29 K : Int32 → Mem → Option Mem} : ∀ d x J F, d + x = Pp P → d < F → PlR P J → Q72 P (64 * h + 8 * i + x) J → ∃ J', fX9_prepare_L49 FU k29 K 60 (nI h) (nI i) F (nI x) (J, R0 pl nm hd rd) = K (nI (i + 1)) (J', R0 pl nm hd rd) ∧ Q72 P (64 * h + 8 * (i + 1)) J' ∧ (∀ q, q ≠ 72 → J' q = J q) := by
  have hp := wf_p hW
  intro d
  induction d with
  | zero =>
    intro x J F h1 h2 hR hQ
    obtain ⟨G, rfl⟩ : ∃ G, F = G + 1 := ⟨F - 1, by omega⟩
    refine ⟨J, ?_, fun a b c c1 c2 c3 c4 => hQ a b c c1 c2 c3 (by omega), fun _ _ => rfl⟩
    rw [fX9_prepare_L49, fIb_60, hR.1, if_pos (by rw [w_le (by omega) (by omega)]; omega), li_1, nI_add]
  | succ d ih =>
    intro x J F h1 h2 hR hQ
    obtain ⟨G, rfl⟩ : ∃ G, F = G + 1 := ⟨F - 1, by omega⟩
    have f0 : ¬ nI (Pp P) ≤ nI x := by rw [w_le (by omega) (by omega)]; omega
    have e1 : ((64 : Int32) * nI h + (8 : Int32) * nI i) + nI x = nI (64 * h + 8 * i + x) := by simp (discharger := omega) only [li_0, li_1, li_2, li_3, li_4, li_5, li_6, li_7, li_8, li_9, li_10, li_11, li_12, li_13, li_14, li_15, li_16, li_17, li_18, li_19, li_20, li_21, li_22, li_23, li_24, li_25, li_26, li_27, li_28, li_29, li_30, li_31, li_32, li_33, li_34, li_35, li_36, li_37, li_38, li_39, li_40, li_41, li_42, li_43, li_44, li_45, li_46, li_47, li_48, li_49, li_50, li_51, li_52, li_53, li_54, li_55, li_56, li_57, li_58, li_59, li_60, li_61, li_62, li_63, li_64, li_65, li_66, li_67, li_68, li_69, li_70, li_71, li_72, li_73, li_74, li_75, li_76, li_77, li_78, li_79, li_80, li_81, li_82, li_83, li_84, li_85, li_86, li_87, li_88, li_89, li_90, li_91, li_92, li_93, li_94, li_95, li_96, li_97, li_98, li_99, li_100, li_101, li_102, li_103, li_104, li_105, li_106, li_107, li_108, li_109, li_110, li_111, li_112, li_113, li_114, li_115, li_116, li_117, li_118, li_119, li_120, li_121, li_122, li_123, li_124, li_125, li_126, li_127, li_128, li_144, li_150, li_200, li_255, li_384, li_512, li_999, li_1000, li_1024, li_1152, li_1920, li_3776, li_4096, li_9216, li_10000, li_100000, li_1073741824, li_m, w_lt, w_le, w_eq, w_mlt, w_mle, w_ltm, w_lem, w_meq, w_eqm, w_mm, w_mmlt, w_mmle, nI_add, w_sub, pk_mul, w_div, w_rem, w_and, w_or, w_shr, w_shl1, w_a31, w_andn]
    have e2 : (1 : Int32) <<< (nI x &&& 31) = nI (2 ^ x) := by simp (discharger := omega) only [li_0, li_1, li_2, li_3, li_4, li_5, li_6, li_7, li_8, li_9, li_10, li_11, li_12, li_13, li_14, li_15, li_16, li_17, li_18, li_19, li_20, li_21, li_22, li_23, li_24, li_25, li_26, li_27, li_28, li_29, li_30, li_31, li_32, li_33, li_34, li_35, li_36, li_37, li_38, li_39, li_40, li_41, li_42, li_43, li_44, li_45, li_46, li_47, li_48, li_49, li_50, li_51, li_52, li_53, li_54, li_55, li_56, li_57, li_58, li_59, li_60, li_61, li_62, li_63, li_64, li_65, li_66, li_67, li_68, li_69, li_70, li_71, li_72, li_73, li_74, li_75, li_76, li_77, li_78, li_79, li_80, li_81, li_82, li_83, li_84, li_85, li_86, li_87, li_88, li_89, li_90, li_91, li_92, li_93, li_94, li_95, li_96, li_97, li_98, li_99, li_100, li_101, li_102, li_103, li_104, li_105, li_106, li_107, li_108, li_109, li_110, li_111, li_112, li_113, li_114, li_115, li_116, li_117, li_118, li_119, li_120, li_121, li_122, li_123, li_124, li_125, li_126, li_127, li_128, li_144, li_150, li_200, li_255, li_384, li_512, li_999, li_1000, li_1024, li_1152, li_1920, li_3776, li_4096, li_9216, li_10000, li_100000, li_1073741824, li_m, w_lt, w_le, w_eq, w_mlt, w_mle, w_ltm, w_lem, w_meq, w_eqm, w_mm, w_mmlt, w_mmle, nI_add, w_sub, pk_mul, w_div, w_rem, w_and, w_or, w_shr, w_shl1, w_a31, w_andn]
    have x8 : 2 ^ x < 256 := pw_lt (by omega)
    have d1 : fX9_runs FU 60 (nI (2 ^ x)) (nI h) (nI i) (0 : Int32) (J, R0 pl nm hd rd) = some (nI (runsS P (2 ^ x) h i 0), (J, R0 pl nm hd rd)) := r_runs (FU := FU) (pl := pl) (nm := nm) (hd := hd) (rd := rd) hF hR hW (set := 2 ^ x) (h := h) (i := i) (sh := 0) x8 (by omega) (by omega) (by decide)
    rw [runs1 (by omega)] at d1
    obtain ⟨J', a1, a2, a3⟩ := ih (x + 1) (up2 J 72 (64 * h + 8 * i + x) (nI (rch P x h i 0))) G (by omega) (by omega) (hR.congr (fun i _ => up2_k (by decide)) (fun k _ _ => up2_ne (by omega))) (fun a b c c1 c2 c3 c4 => by
      by_cases z : 64 * a + 8 * b + c = 64 * h + 8 * i + x
      · have z1 : a = h := by omega
        have z2 : b = i := by omega
        have z3 : c = x := by omega
        subst z1 z2 z3
        rw [up2_s]
      · rw [up2_i z]
        exact hQ a b c c1 c2 c3 (by omega))
    refine ⟨J', ?_, a2, fun q hq => by rw [a3 q hq, up2_ne hq]⟩
    rw [fX9_prepare_L49, fIb_60, hR.1, if_neg f0, fRb_60_17, show rc 9 (some 60) = some 60 from rfl, w_bind, e2, dn d1, e1, sIb_72 (by omega), li_1, nI_add]
    exact a1
theorem r_prep39 (hF : 99999999 ≤ FU) (hW : WfP P) {h : Nat} {K : Int32 → Mem → Option Mem} : ∀ d i J F, d + i = Pp P → d < F → h ≤ i → PlR P J → Q72 P (64 * h + 8 * i) J → ∃ J', fX9_prepare_L39 FU K 60 (nI h) F (nI i) (J, R0 pl nm hd rd) = K (nI (h + 1)) (J', R0 pl nm hd rd) ∧ Q72 P (64 * h + 8 * Pp P) J' ∧ (∀ q, q ≠ 72 → J' q = J q) := by
  have hp := wf_p hW
  intro d
  induction d with
  | zero =>
    intro i J F h1 h2 hhi hR hQ
    obtain ⟨G, rfl⟩ : ∃ G, F = G + 1 := ⟨F - 1, by omega⟩
    have e : i = Pp P := by omega
    subst e
    refine ⟨J, ?_, hQ, fun _ _ => rfl⟩
    rw [fX9_prepare_L39, fIb_60, hR.1, if_pos (by rw [w_le (by omega) (by omega)]; omega), li_1, nI_add]
  | succ d ih =>
    intro i J F h1 h2 hhi hR hQ
    obtain ⟨G, rfl⟩ : ∃ G, F = G + 1 := ⟨F - 1, by omega⟩
    have f0 : ¬ nI (Pp P) ≤ nI i := by rw [w_le (by omega) (by omega)]; omega
    obtain ⟨J1, a1, a2, a3⟩ := r_prep49 (FU := FU) (pl := pl) (nm := nm) (hd := hd) (rd := rd) hF hW hhi (by omega) (k29 := K) (K := fX9_prepare_L39 FU K 60 (nI h) G) (Pp P) 0 J FU (by omega) (by omega) hR hQ
    obtain ⟨J2, b1, b2, b3⟩ := ih (i + 1) J1 G (by omega) (by omega) (by omega) (hR.congr (fun i _ => by rw [a3 60 (by decide)]) (fun k _ _ => a3 k (by omega))) a2
    refine ⟨J2, ?_, b2, fun q hq => (b3 q hq).trans (a3 q hq)⟩
    rw [fX9_prepare_L39, fIb_60, hR.1, if_neg f0, li_0, a1, b1]
theorem r_prep29 (hF : 99999999 ≤ FU) (hW : WfP P) : ∀ d h J F, d + h = Pp P → d < F → PlR P J → Q72 P (64 * h) J → ∃ J', fX9_prepare_L29 FU 60 F (nI h) (J, R0 pl nm hd rd) = some (J', R0 pl nm hd rd) ∧ Q72 P 512 J' ∧ (∀ q, q ≠ 72 → J' q = J q) := by
  have hp := wf_p hW
  intro d
  induction d with
  | zero =>
    intro h J F h1 h2 hR hQ
    obtain ⟨G, rfl⟩ : ∃ G, F = G + 1 := ⟨F - 1, by omega⟩
    refine ⟨J, ?_, fun a b c c1 c2 c3 c4 => hQ a b c c1 c2 c3 (by omega), fun _ _ => rfl⟩
    rw [fX9_prepare_L29, fIb_60, hR.1, if_pos (by rw [w_le (by omega) (by omega)]; omega)]
  | succ d ih =>
    intro h J F h1 h2 hR hQ
    obtain ⟨G, rfl⟩ : ∃ G, F = G + 1 := ⟨F - 1, by omega⟩
    have f0 : ¬ nI (Pp P) ≤ nI h := by rw [w_le (by omega) (by omega)]; omega
    obtain ⟨J1, a1, a2, a3⟩ := r_prep39 (FU := FU) (pl := pl) (nm := nm) (hd := hd) (rd := rd) hF hW (h := h) (K := fX9_prepare_L29 FU 60 G) (Pp P - h) h J FU (by omega) (by omega) (Nat.le_refl h) hR (fun a b c c1 c2 c3 c4 => hQ a b c c1 c2 c3 (by omega))
    obtain ⟨J2, b1, b2, b3⟩ := ih (h + 1) J1 G (by omega) (by omega) (hR.congr (fun i _ => by rw [a3 60 (by decide)]) (fun k _ _ => a3 k (by omega))) (fun a b c c1 c2 c3 c4 => a2 a b c c1 c2 c3 (by omega))
    refine ⟨J2, ?_, b2, fun q hq => (b3 q hq).trans (a3 q hq)⟩
    rw [fX9_prepare_L29, fIb_60, hR.1, if_neg f0, a1, b1]
theorem r_prepare (hF : 99999999 ≤ FU) (hR : PlR P J) (hW : WfP P) : ∃ J', fX9_prepare FU 60 (J, R0 pl nm hd rd) = some (J', R0 pl nm hd rd) ∧ RPre P J' ∧ (∀ q, q ≠ 71 → q ≠ 72 → J' q = J q) := by
  have hp := wf_p hW
  obtain ⟨J1, a1, a2, a3, a4⟩ := r_prep2 (FU := FU) (pl := pl) (nm := nm) (hd := hd) (rd := rd) hF hW (Pp P) 0 J FU (by omega) (by omega) hR
  obtain ⟨J2, b1, b2, b3⟩ := r_prep29 (FU := FU) (pl := pl) (nm := nm) (hd := hd) (rd := rd) hF hW (Pp P) 0 J1 FU (by omega) (by omega) (hR.congr (fun i _ => by rw [a4 60 (by decide)]) (fun k _ _ => a4 k (by omega))) (fun a b c c1 c2 c3 c4 => by omega)
  refine ⟨J2, ?_, ⟨fun x hx => by rw [b3 71 (by decide)]; exact a2 x (Nat.zero_le x) hx, fun h i x c1 c2 c3 => b2 h i x c1 c2 c3 (by omega)⟩, fun q q1 q2 => (b3 q q2).trans (a4 q q1)⟩
  have a1 : fX9_prepare FU 60 (J, R0 pl nm hd rd) = _ := a1
  rw [a1, b1]
/-- new in this round -/
def nwB (P : Pln) (r h i s : Nat) : Bool := (lv P r h i s).isNone && anyB (fM P r h i s) 33
def zB (P : Pln) (r j : Nat) : Bool := isPr P (j / 512) (j / 64 % 8) && (decide (1 ≤ j % 64) && (decide (j % 64 < 2 ^ Pp P) && nwB P r (j / 512) (j / 64 % 8) (j % 64)))
theorem zB_at {r h i s : Nat} (hh : h < 8) (hi : i < 8) (hs : s < 64) : zB P r ((8 * h + i) * 64 + s) = (isPr P h i && (decide (1 ≤ s) && (decide (s < 2 ^ Pp P) && nwB P r h i s))) := by
  unfold zB
  rw [show ((8 * h + i) * 64 + s) / 512 = h by omega, show ((8 * h + i) * 64 + s) / 64 % 8 = i by omega, show ((8 * h + i) * 64 + s) % 64 = s by omega]
theorem zB_f {r j : Nat} (h : ¬ (isPr P (j / 512) (j / 64 % 8) = true ∧ 1 ≤ j % 64 ∧ j % 64 < 2 ^ Pp P)) : zB P r j = false := by
  cases e : zB P r j with
  | false => rfl
  | true =>
    unfold zB at e
    rw [Bool.and_eq_true, Bool.and_eq_true, Bool.and_eq_true, decide_eq_true_eq, decide_eq_true_eq] at e
    exact absurd ⟨e.1, e.2.1, e.2.2.1⟩ h
/-- marked below an index -/
def Q73 (P : Pln) (r B : Nat) (J : Nat → Nat → Int32) : Prop := ∀ j, j < 4096 → J 73 j = if j < B then b01 (zB P r j = true) else nI 0
theorem Q73.mono {r B B' : Nat} (h : Q73 P r B J) (hB : B ≤ B') (e : ∀ j, B ≤ j → j < B' → j < 4096 → zB P r j = false) : Q73 P r B' J := by
  intro j hj
  rw [h j hj]
  by_cases z : j < B
  · rw [if_pos z, if_pos (by omega)]
  · rw [if_neg z]
    by_cases y : j < B'
    · rw [if_pos y, e j (by omega) y hj, b01_neg Bool.false_ne_true]
    · rw [if_neg y]
theorem RLv.congr {r : Nat} (h : RLv P r I) (e : J 70 = I 70) : RLv P r J := by
  unfold RLv
  rw [e]
  exact h
theorem r_find98 (hF : 99999999 ≤ FU) (hW : WfP P) (p6 : Pp P ≤ 6) {r h i : Nat} (hr : r < 12) (hpr : isPr P h i = true) {k53 k61 K : Int32 → Mem → Option Mem} : ∀ d s J F, d + s = 2 ^ Pp P → d < F → PlR P J → RPre P J → RLv P r J → 1 ≤ s → Q73 P r ((8 * h + i) * 64 + s) J → ∃ J', fX9_findRounds_L98 FU k53 k61 K 60 (nI (r + 1)) (nI h) (nI i) F (nI s) (J, R0 pl nm hd rd) = K (nI (i + 1)) (J', R0 pl nm hd rd) ∧ Q73 P r ((8 * h + i) * 64 + 2 ^ Pp P) J' ∧ (∀ q, q ≠ 73 → J' q = J q) := by
  have hp := wf_p hW
  have p64 : 2 ^ Pp P ≤ 64 := Nat.pow_le_pow_right (n := 2) (by decide) p6
  have h8 := pr8 hW hpr
  have epw : (1 : Int32) <<< (nI (Pp P) &&& 31) = nI (2 ^ Pp P) := by simp (discharger := omega) only [li_0, li_1, li_2, li_3, li_4, li_5, li_6, li_7, li_8, li_9, li_10, li_11, li_12, li_13, li_14, li_15, li_16, li_17, li_18, li_19, li_20, li_21, li_22, li_23, li_24, li_25, li_26, li_27, li_28, li_29, li_30, li_31, li_32, li_33, li_34, li_35, li_36, li_37, li_38, li_39, li_40, li_41, li_42, li_43, li_44, li_45, li_46, li_47, li_48, li_49, li_50, li_51, li_52, li_53, li_54, li_55, li_56, li_57, li_58, li_59, li_60, li_61, li_62, li_63, li_64, li_65, li_66, li_67, li_68, li_69, li_70, li_71, li_72, li_73, li_74, li_75, li_76, li_77, li_78, li_79, li_80, li_81, li_82, li_83, li_84, li_85, li_86, li_87, li_88, li_89, li_90, li_91, li_92, li_93, li_94, li_95, li_96, li_97, li_98, li_99, li_100, li_101, li_102, li_103, li_104, li_105, li_106, li_107, li_108, li_109, li_110, li_111, li_112, li_113, li_114, li_115, li_116, li_117, li_118, li_119, li_120, li_121, li_122, li_123, li_124, li_125, li_126, li_127, li_128, li_144, li_150, li_200, li_255, li_384, li_512, li_999, li_1000, li_1024, li_1152, li_1920, li_3776, li_4096, li_9216, li_10000, li_100000, li_1073741824, li_m, w_lt, w_le, w_eq, w_mlt, w_mle, w_ltm, w_lem, w_meq, w_eqm, w_mm, w_mmlt, w_mmle, nI_add, w_sub, pk_mul, w_div, w_rem, w_and, w_or, w_shr, w_shl1, w_a31, w_andn]
  intro d
  induction d with
  | zero =>
    intro s J F h1 h2 hR hp' hL s1 hQ
    obtain ⟨G, rfl⟩ : ∃ G, F = G + 1 := ⟨F - 1, by omega⟩
    have e : s = 2 ^ Pp P := by omega
    subst e
    refine ⟨J, ?_, hQ, fun _ _ => rfl⟩
    unfold fX9_findRounds_L98 fX9_findRounds_b163
    rw [fIb_60, hR.1, epw, if_pos (by rw [w_le (by omega) (by omega)]; omega), li_1, nI_add]
  | succ d ih =>
    intro s J F h1 h2 hR hp' hL s1 hQ
    obtain ⟨G, rfl⟩ : ∃ G, F = G + 1 := ⟨F - 1, by omega⟩
    have f0 : ¬ nI (2 ^ Pp P) ≤ nI s := by rw [w_le (by omega) (by omega)]; omega
    have e1 : ((8 : Int32) * nI h + nI i) * (64 : Int32) + nI s = nI ((8 * h + i) * 64 + s) := by
      clear hL hQ ih hp'
      simp (discharger := omega) only [li_0, li_1, li_2, li_3, li_4, li_5, li_6, li_7, li_8, li_9, li_10, li_11, li_12, li_13, li_14, li_15, li_16, li_17, li_18, li_19, li_20, li_21, li_22, li_23, li_24, li_25, li_26, li_27, li_28, li_29, li_30, li_31, li_32, li_33, li_34, li_35, li_36, li_37, li_38, li_39, li_40, li_41, li_42, li_43, li_44, li_45, li_46, li_47, li_48, li_49, li_50, li_51, li_52, li_53, li_54, li_55, li_56, li_57, li_58, li_59, li_60, li_61, li_62, li_63, li_64, li_65, li_66, li_67, li_68, li_69, li_70, li_71, li_72, li_73, li_74, li_75, li_76, li_77, li_78, li_79, li_80, li_81, li_82, li_83, li_84, li_85, li_86, li_87, li_88, li_89, li_90, li_91, li_92, li_93, li_94, li_95, li_96, li_97, li_98, li_99, li_100, li_101, li_102, li_103, li_104, li_105, li_106, li_107, li_108, li_109, li_110, li_111, li_112, li_113, li_114, li_115, li_116, li_117, li_118, li_119, li_120, li_121, li_122, li_123, li_124, li_125, li_126, li_127, li_128, li_144, li_150, li_200, li_255, li_384, li_512, li_999, li_1000, li_1024, li_1152, li_1920, li_3776, li_4096, li_9216, li_10000, li_100000, li_1073741824, li_m, w_lt, w_le, w_eq, w_mlt, w_mle, w_ltm, w_lem, w_meq, w_eqm, w_mm, w_mmlt, w_mmle, nI_add, w_sub, pk_mul, w_div, w_rem, w_and, w_or, w_shr, w_shl1, w_a31, w_andn]
    have hs := hL h i s hpr (by omega)
    have dc := r_canIn (FU := FU) (pl := pl) (nm := nm) (hd := hd) (rd := rd) hF hR hW p6 hp' hr hL (set := s) (by omega) hpr
    have zat := zB_at (P := P) (r := r) (h := h) (i := i) (s := s) h8.1 h8.2 (by omega)
    rw [hpr, decide_eq_true s1, decide_eq_true (by omega : s < 2 ^ Pp P), Bool.true_and, Bool.true_and, Bool.true_and] at zat
    have go : ∀ v : Int32, narA 1 v = b01 (nwB P r h i s = true) → ∃ J', fX9_findRounds_b156 FU k53 k61 K (fX9_findRounds_L98 FU k53 k61 K 60 (nI (r + 1)) (nI h) (nI i) G) 60 (nI (r + 1)) (nI h) (nI i) (nI s) (some 73) (nI ((8 * h + i) * 64 + s)) v (J, R0 pl nm hd rd) = K (nI (i + 1)) (J', R0 pl nm hd rd) ∧ Q73 P r ((8 * h + i) * 64 + 2 ^ Pp P) J' ∧ (∀ q, q ≠ 73 → J' q = J q) := by
      intro v hv
      generalize hT : up2 J 73 ((8 * h + i) * 64 + s) (b01 (nwB P r h i s = true)) = T
      have tk : ∀ q, q ≠ 73 → T q = J q := fun q hq => by rw [← hT, up2_ne hq]
      obtain ⟨J', a1, a2, a3⟩ := ih (s + 1) T G (by omega) (by omega) (hR.congr (fun i _ => by rw [tk 60 (by decide)]) (fun k _ _ => tk k (by omega))) (hp'.congr (tk 71 (by decide)) (tk 72 (by decide))) (hL.congr (tk 70 (by decide))) (by omega) (fun j hj => by
        rw [← hT]
        by_cases z : j = (8 * h + i) * 64 + s
        · subst z
          rw [up2_s, if_pos (by omega), zat]
        · rw [up2_i z, hQ j hj]
          by_cases y : j < (8 * h + i) * 64 + s
          · rw [if_pos y, if_pos (by omega)]
          · rw [if_neg y, if_neg (by omega)])
      refine ⟨J', ?_, a2, fun q hq => (a3 q hq).trans (tk q hq)⟩
      unfold fX9_findRounds_b156
      rw [sIb_73 (by omega), hv, hT, li_1, nI_add]
      exact a1
    rw [fX9_findRounds_L98, fIb_60, hR.1, epw, if_neg f0, fRb_60_18, show rc 9 (some 60) = some 60 from rfl, w_bind]
    unfold fX9_hidden
    rw [w_bd2, e1, fRb_60_14, w_bind, w_bd2, aIb_70 (by omega), hs]
    unfold fX9_findRounds_b155
    cases el : lv P r h i s with
    | some j =>
      have jl := lv_le r h i s j el
      have e0 : rI (some j) = nI j := rfl
      have nf : nwB P r h i s = false := by
        unfold nwB
        rw [el]
        rfl
      rw [e0, if_pos (by rw [li_99, w_eq (by omega) (by omega)]; omega)]
      exact go 0 (by rw [nf, b01_neg Bool.false_ne_true]; rfl)
    | none =>
      have e0 : rI none = nI 99 := rfl
      have nf : nwB P r h i s = anyB (fM P r h i s) 33 := by
        unfold nwB
        rw [el]
        rfl
      rw [e0, if_neg (fun h => h li_99.symm), w_bind, dn dc]
      by_cases y : anyB (fM P r h i s) 33 = true
      · rw [b01_pos y, if_neg (by decide)]
        exact go 1 (by rw [nf, b01_pos y]; rfl)
      · rw [b01_neg y, if_pos (by decide)]
        exact go 0 (by rw [nf, b01_neg y]; rfl)
theorem r_find71 (hF : 99999999 ≤ FU) (hW : WfP P) (p6 : Pp P ≤ 6) {r h : Nat} (hr : r < 12) (hh : h < Pp P) {k53 K : Int32 → Mem → Option Mem} : ∀ d i J F, d + i = Pp P → d < F → h ≤ i → PlR P J → RPre P J → RLv P r J → Q73 P r ((8 * h + i) * 64) J → ∃ J', fX9_findRounds_L71 FU k53 K 60 (nI (r + 1)) (nI h) F (nI i) (J, R0 pl nm hd rd) = K (nI (h + 1)) (J', R0 pl nm hd rd) ∧ Q73 P r ((8 * h + Pp P) * 64) J' ∧ (∀ q, q ≠ 73 → J' q = J q) := by
  have hp := wf_p hW
  have hp2 := wf_h hW
  have p64 : 2 ^ Pp P ≤ 64 := Nat.pow_le_pow_right (n := 2) (by decide) p6
  have p1 : 1 < 2 ^ Pp P := Nat.one_lt_two_pow (by omega)
  intro d
  induction d with
  | zero =>
    intro i J F h1 h2 hhi hR hp' hL hQ
    obtain ⟨G, rfl⟩ : ∃ G, F = G + 1 := ⟨F - 1, by omega⟩
    have e : i = Pp P := by omega
    subst e
    refine ⟨J, ?_, hQ, fun _ _ => rfl⟩
    rw [fX9_findRounds_L71, fIb_60, hR.1, if_pos (by rw [w_le (by omega) (by omega)]; omega), li_1, nI_add]
  | succ d ih =>
    intro i J F h1 h2 hhi hR hp' hL hQ
    obtain ⟨G, rfl⟩ : ∃ G, F = G + 1 := ⟨F - 1, by omega⟩
    have f0 : ¬ nI (Pp P) ≤ nI i := by rw [w_le (by omega) (by omega)]; omega
    rw [fX9_findRounds_L71, fIb_60, hR.1, if_neg f0, fIb_60, hR.2.2.1]
    by_cases z : isPr P h i = true
    · have skp : (if ¬ nI (Ph P) = (1 : Int32) then fX9_findRounds_b95 FU k53 K (fX9_findRounds_L71 FU k53 K 60 (nI (r + 1)) (nI h) G) 60 (nI (r + 1)) (nI h) (nI i) (J, R0 pl nm hd rd) else (if nI i ≤ nI h then fX9_findRounds_b95 FU k53 K (fX9_findRounds_L71 FU k53 K 60 (nI (r + 1)) (nI h) G) 60 (nI (r + 1)) (nI h) (nI i) (J, R0 pl nm hd rd) else fX9_findRounds_b163 FU k53 K (fX9_findRounds_L71 FU k53 K 60 (nI (r + 1)) (nI h) G) 60 (nI (r + 1)) (nI h) (nI i) (J, R0 pl nm hd rd))) = fX9_findRounds_b95 FU k53 K (fX9_findRounds_L71 FU k53 K 60 (nI (r + 1)) (nI h) G) 60 (nI (r + 1)) (nI h) (nI i) (J, R0 pl nm hd rd) := by
        have pr := isPr_iff.mp z
        by_cases y : Ph P = 1
        · have := pr.2.2.1 y
          rw [if_neg (fun x => x (by rw [y]; rfl)), if_pos (by rw [w_le (by omega) (by omega)]; omega)]
        · rw [if_pos (by rw [li_1, w_eq (by omega) (by omega)]; exact y)]
      rw [skp]
      obtain ⟨J1, a1, a2, a3⟩ := r_find98 (FU := FU) (pl := pl) (nm := nm) (hd := hd) (rd := rd) hF hW p6 hr z (k53 := k53) (k61 := K) (K := fX9_findRounds_L71 FU k53 K 60 (nI (r + 1)) (nI h) G) (2 ^ Pp P - 1) 1 J FU (by omega) (by omega) hR hp' hL (Nat.le_refl 1) (hQ.mono (by omega) (fun j j1 j2 j3 => zB_f (fun c => by omega)))
      obtain ⟨J2, b1, b2, b3⟩ := ih (i + 1) J1 G (by omega) (by omega) (by omega) (hR.congr (fun i _ => by rw [a3 60 (by decide)]) (fun k _ _ => a3 k (by omega))) (hp'.congr (a3 71 (by decide)) (a3 72 (by decide))) (hL.congr (a3 70 (by decide))) (a2.mono (by omega) (fun j j1 j2 j3 => zB_f (fun c => by omega)))
      refine ⟨J2, ?_, b2, fun q hq => (b3 q hq).trans (a3 q hq)⟩
      unfold fX9_findRounds_b95
      rw [li_1, a1, b1]
    · have hne : Ph P = 1 ∧ h < i := by
        have : ¬ (h < Pp P ∧ i < Pp P ∧ (Ph P = 1 → h = i) ∧ (Ph P ≠ 1 → h ≤ i)) := fun c => z (isPr_iff.mpr c)
        by_cases y : Ph P = 1
        · refine ⟨y, ?_⟩
          apply Classical.byContradiction
          intro x
          exact this ⟨hh, by omega, fun _ => by omega, fun w => absurd y w⟩
        · exact absurd ⟨hh, by omega, fun w => absurd w y, fun _ => hhi⟩ this
      rw [if_neg (fun x => x (by rw [hne.1]; rfl)), if_neg (by rw [w_le (by omega) (by omega)]; omega)]
      obtain ⟨J2, b1, b2, b3⟩ := ih (i + 1) J G (by omega) (by omega) (by omega) hR hp' hL (hQ.mono (by omega) (fun j j1 j2 j3 => zB_f (fun c => by
        have e1 : j / 512 = h := by omega
        have e2 : j / 64 % 8 = i := by omega
        rw [e1, e2] at c
        exact z c.1)))
      refine ⟨J2, ?_, b2, b3⟩
      unfold fX9_findRounds_b163
      rw [li_1, nI_add, b1]
theorem r_find61 (hF : 99999999 ≤ FU) (hW : WfP P) (p6 : Pp P ≤ 6) {r : Nat} (hr : r < 12) {K : Int32 → Mem → Option Mem} : ∀ d h J F, d + h = Pp P → d < F → PlR P J → RPre P J → RLv P r J → Q73 P r (h * 512) J → ∃ J', fX9_findRounds_L61 FU K 60 (nI (r + 1)) F (nI h) (J, R0 pl nm hd rd) = fX9_findRounds_L177 FU K 60 (nI (r + 1)) FU (nI 0) (J', R0 pl nm hd rd) ∧ Q73 P r 4096 J' ∧ (∀ q, q ≠ 73 → J' q = J q) := by
  have hp := wf_p hW
  intro d
  induction d with
  | zero =>
    intro h J F h1 h2 hR hp' hL hQ
    obtain ⟨G, rfl⟩ : ∃ G, F = G + 1 := ⟨F - 1, by omega⟩
    refine ⟨J, ?_, hQ.mono (by omega) (fun j j1 j2 j3 => zB_f (fun c => ?_)), fun _ _ => rfl⟩
    · rw [fX9_findRounds_L61, fIb_60, hR.1, if_pos (by rw [w_le (by omega) (by omega)]; omega), li_0]
    · have := isPr_iff.mp c.1
      omega
  | succ d ih =>
    intro h J F h1 h2 hR hp' hL hQ
    obtain ⟨G, rfl⟩ : ∃ G, F = G + 1 := ⟨F - 1, by omega⟩
    have f0 : ¬ nI (Pp P) ≤ nI h := by rw [w_le (by omega) (by omega)]; omega
    obtain ⟨J1, a1, a2, a3⟩ := r_find71 (FU := FU) (pl := pl) (nm := nm) (hd := hd) (rd := rd) hF hW p6 hr (h := h) (by omega) (k53 := K) (K := fX9_findRounds_L61 FU K 60 (nI (r + 1)) G) (Pp P - h) h J FU (by omega) (by omega) (Nat.le_refl h) hR hp' hL (hQ.mono (by omega) (fun j j1 j2 j3 => zB_f (fun c => by
      have := isPr_le c.1
      omega)))
    obtain ⟨J2, b1, b2, b3⟩ := ih (h + 1) J1 G (by omega) (by omega) (hR.congr (fun i _ => by rw [a3 60 (by decide)]) (fun k _ _ => a3 k (by omega))) (hp'.congr (a3 71 (by decide)) (a3 72 (by decide))) (hL.congr (a3 70 (by decide))) (a2.mono (by omega) (fun j j1 j2 j3 => zB_f (fun c => by
      have := isPr_le c.1
      omega)))
    refine ⟨J2, ?_, b2, fun q hq => (b3 q hq).trans (a3 q hq)⟩
    rw [fX9_findRounds_L61, fIb_60, hR.1, if_neg f0, a1, b1]
theorem r_find177 {r : Nat} (hr : r < 12) {K : Int32 → Mem → Option Mem} : ∀ d k J F, d + k = 4096 → d < F → (∀ j, k ≤ j → j < 4096 → J 73 j = b01 (zB P r j = true)) → ∃ J', fX9_findRounds_L177 FU K 60 (nI (r + 1)) F (nI k) (J, R0 pl nm hd rd) = K (nI (r + 2)) (J', R0 pl nm hd rd) ∧ (∀ j, k ≤ j → j < 4096 → J' 70 j = (if zB P r j = true then nI (r + 1) else J 70 j) ∧ J' 73 j = nI 0) ∧ (∀ j, j < k → J' 70 j = J 70 j ∧ J' 73 j = J 73 j) ∧ (∀ q, q ≠ 70 → q ≠ 73 → J' q = J q) := by
  intro d
  induction d with
  | zero =>
    intro k J F h1 h2 hZ
    obtain ⟨G, rfl⟩ : ∃ G, F = G + 1 := ⟨F - 1, by omega⟩
    refine ⟨J, ?_, fun j j1 j2 => by omega, fun _ _ => ⟨rfl, rfl⟩, fun _ _ _ => rfl⟩
    rw [fX9_findRounds_L177, if_pos (by rw [li_4096, w_le (by omega) (by omega)]; omega), li_1, nI_add]
  | succ d ih =>
    intro k J F h1 h2 hZ
    obtain ⟨G, rfl⟩ : ∃ G, F = G + 1 := ⟨F - 1, by omega⟩
    have f0 : ¬ (4096 : Int32) ≤ nI k := by rw [li_4096, w_le (by omega) (by omega)]; omega
    have hk := hZ k (Nat.le_refl k) (by omega)
    rw [fX9_findRounds_L177, if_neg f0, fRb_60_18, aIb_73 (by omega), hk]
    unfold fX9_findRounds_b210
    by_cases z : zB P r k = true
    · generalize hT : up2 (up2 J 70 k (nI (r + 1))) 73 k (nI 0) = T
      have tk : ∀ q, q ≠ 70 → q ≠ 73 → T q = J q := fun q q1 q2 => by rw [← hT, up2_ne q2, up2_ne q1]
      have t0 : ∀ j, j ≠ k → T 70 j = J 70 j := fun j hj => by rw [← hT, up2_k (by decide), up2_i hj]
      have t3 : ∀ j, j ≠ k → T 73 j = J 73 j := fun j hj => by rw [← hT, up2_i hj, up2_k (by decide)]
      obtain ⟨J', a1, a2, a3, a4⟩ := ih (k + 1) T G (by omega) (by omega) (fun j j1 j2 => by rw [t3 j (by omega)]; exact hZ j (by omega) j2)
      refine ⟨J', ?_, fun j j1 j2 => ?_, fun j hj => ?_, fun q q1 q2 => (a4 q q1 q2).trans (tk q q1 q2)⟩
      · have nz : narA 1 (nI 0) = nI 0 := nar1_0
        rw [b01_pos z, if_pos (by decide), fRb_60_14, sIb_70 (by omega), fRb_60_18, li_0, sIb_73 (by omega), nz, hT, li_1, nI_add]
        exact a1
      · by_cases y : j = k
        · subst y
          have := a3 j (by omega)
          rw [this.1, this.2, ← hT, up2_k (by decide), up2_s, up2_s, if_pos z]
          exact ⟨rfl, rfl⟩
        · have := a2 j (by omega) j2
          rw [this.1, this.2, t0 j y]
          exact ⟨rfl, rfl⟩
      · have := a3 j (by omega)
        rw [this.1, this.2, t0 j (by omega), t3 j (by omega)]
        exact ⟨rfl, rfl⟩
    · obtain ⟨J', a1, a2, a3, a4⟩ := ih (k + 1) J G (by omega) (by omega) (fun j j1 j2 => hZ j (by omega) j2)
      refine ⟨J', ?_, fun j j1 j2 => ?_, fun j hj => a3 j (by omega), a4⟩
      · rw [b01_neg z, if_neg (fun h => h rfl), li_1, nI_add]
        exact a1
      · by_cases y : j = k
        · subst y
          have := a3 j (by omega)
          rw [this.1, this.2, if_neg z, hk, b01_neg z]
          exact ⟨rfl, rfl⟩
        · exact a2 j (by omega) j2
theorem RLv_s (hW : WfP P) (p6 : Pp P ≤ 6) {r : Nat} {J' : Nat → Nat → Int32} (h : RLv P r J) (e : ∀ j, j < 4096 → J' 70 j = if zB P r j = true then nI (r + 1) else J 70 j) : RLv P (r + 1) J' := by
  intro a b s pr hs
  have p64 : 2 ^ Pp P ≤ 64 := Nat.pow_le_pow_right (n := 2) (by decide) p6
  have h8 := pr8 hW pr
  have zat := zB_at (P := P) (r := r) (h := a) (i := b) (s := s) h8.1 h8.2 (by omega)
  rw [pr, decide_eq_true hs, Bool.true_and, Bool.true_and] at zat
  rw [e _ (by omega), zat, h a b s pr hs, lvm_33]
  unfold lvm nwB
  cases el : lv P r a b s with
  | some j =>
    simp
  | none =>
    have s1 : 1 ≤ s := by
      apply Classical.byContradiction
      intro z
      have z : s = 0 := by omega
      subst z
      have : ∀ r, lv P r a b 0 = some 0 := by
        intro r
        induction r with
        | zero => rfl
        | succ r ih => exact lv_s ih
      rw [this r] at el
      cases el
    rw [decide_eq_true s1]
    simp only [Option.isNone_none, Bool.true_and]
    by_cases y : anyB (fM P r a b s) 33 = true
    · rw [if_pos y, if_pos y]
      rfl
    · rw [if_neg y, if_neg y]
theorem r_find53 (hF : 99999999 ≤ FU) (hW : WfP P) (p6 : Pp P ≤ 6) : ∀ d r J F, d + r = 12 → d < F → PlR P J → RPre P J → RLv P r J → (∀ j, j < 4096 → J 73 j = nI 0) → ∃ J', fX9_findRounds_L53 FU 60 F (nI (r + 1)) (J, R0 pl nm hd rd) = some (J', R0 pl nm hd rd) ∧ RLv P 12 J' ∧ (∀ j, j < 4096 → J' 73 j = nI 0) ∧ (∀ q, q ≠ 70 → q ≠ 73 → J' q = J q) := by
  have hp := wf_p hW
  intro d
  induction d with
  | zero =>
    intro r J F h1 h2 hR hp' hL hZ
    obtain ⟨G, rfl⟩ : ∃ G, F = G + 1 := ⟨F - 1, by omega⟩
    have e : r = 12 := by omega
    subst e
    refine ⟨J, ?_, hL, hZ, fun _ _ _ => rfl⟩
    rw [fX9_findRounds_L53, if_pos (by decide)]
  | succ d ih =>
    intro r J F h1 h2 hR hp' hL hZ
    obtain ⟨G, rfl⟩ : ∃ G, F = G + 1 := ⟨F - 1, by omega⟩
    have f0 : ¬ (12 : Int32) < nI (r + 1) := by rw [li_12, w_lt (by omega) (by omega)]; omega
    obtain ⟨J1, a1, a2, a3⟩ := r_find61 (FU := FU) (pl := pl) (nm := nm) (hd := hd) (rd := rd) hF hW p6 (r := r) (by omega) (K := fX9_findRounds_L53 FU 60 G) (Pp P) 0 J FU (by omega) (by omega) hR hp' hL (fun j hj => by rw [hZ j hj, if_neg (by omega)])
    obtain ⟨J2, b1, b2, b3, b4⟩ := r_find177 (FU := FU) (pl := pl) (nm := nm) (hd := hd) (rd := rd) (P := P) (r := r) (by omega) (K := fX9_findRounds_L53 FU 60 G) 4096 0 J1 FU (by omega) (by omega) (fun j _ hj => by rw [a2 j hj, if_pos hj])
    have q2 : ∀ q, q ≠ 70 → q ≠ 73 → J2 q = J q := fun q q1 q2 => (b4 q q1 q2).trans (a3 q q2)
    obtain ⟨J3, c1, c2, c3, c4⟩ := ih (r + 1) J2 G (by omega) (by omega) (hR.congr (fun i _ => by rw [q2 60 (by decide) (by decide)]) (fun k _ _ => q2 k (by omega) (by omega))) (hp'.congr (q2 71 (by decide) (by decide)) (q2 72 (by decide) (by decide))) (RLv_s hW p6 hL (fun j hj => by rw [(b2 j (Nat.zero_le j) hj).1, a3 70 (by decide)])) (fun j hj => (b2 j (Nat.zero_le j) hj).2)
    refine ⟨J3, ?_, c2, c3, fun q q1 q3 => (c4 q q1 q3).trans (q2 q q1 q3)⟩
    rw [fX9_findRounds_L53, if_neg f0, li_0, a1, b1, c1]
theorem r_find19 (hF : 99999999 ≤ FU) : ∀ d k J F, d + k = 4096 → d < F → ∃ J', fX9_findRounds_L19 FU 60 F (nI k) (J, R0 pl nm hd rd) = fX9_findRounds_L53 FU 60 FU (nI 1) (J', R0 pl nm hd rd) ∧ (∀ j, k ≤ j → j < 4096 → J' 70 j = if j % 64 = 0 then nI 0 else nI 99) ∧ (∀ j, j < k → J' 70 j = J 70 j) ∧ (∀ q, q ≠ 70 → J' q = J q) := by
  intro d
  induction d with
  | zero =>
    intro k J F h1 h2
    obtain ⟨G, rfl⟩ : ∃ G, F = G + 1 := ⟨F - 1, by omega⟩
    refine ⟨J, ?_, fun j j1 j2 => by omega, fun _ _ => rfl, fun _ _ => rfl⟩
    rw [fX9_findRounds_L19, if_pos (by rw [li_4096, w_le (by omega) (by omega)]; omega), li_1]
  | succ d ih =>
    intro k J F h1 h2
    obtain ⟨G, rfl⟩ : ∃ G, F = G + 1 := ⟨F - 1, by omega⟩
    have f0 : ¬ (4096 : Int32) ≤ nI k := by rw [li_4096, w_le (by omega) (by omega)]; omega
    have rem : nI k - nI k / (64 : Int32) * (64 : Int32) = nI (k % 64) := by simp (discharger := omega) only [li_0, li_1, li_2, li_3, li_4, li_5, li_6, li_7, li_8, li_9, li_10, li_11, li_12, li_13, li_14, li_15, li_16, li_17, li_18, li_19, li_20, li_21, li_22, li_23, li_24, li_25, li_26, li_27, li_28, li_29, li_30, li_31, li_32, li_33, li_34, li_35, li_36, li_37, li_38, li_39, li_40, li_41, li_42, li_43, li_44, li_45, li_46, li_47, li_48, li_49, li_50, li_51, li_52, li_53, li_54, li_55, li_56, li_57, li_58, li_59, li_60, li_61, li_62, li_63, li_64, li_65, li_66, li_67, li_68, li_69, li_70, li_71, li_72, li_73, li_74, li_75, li_76, li_77, li_78, li_79, li_80, li_81, li_82, li_83, li_84, li_85, li_86, li_87, li_88, li_89, li_90, li_91, li_92, li_93, li_94, li_95, li_96, li_97, li_98, li_99, li_100, li_101, li_102, li_103, li_104, li_105, li_106, li_107, li_108, li_109, li_110, li_111, li_112, li_113, li_114, li_115, li_116, li_117, li_118, li_119, li_120, li_121, li_122, li_123, li_124, li_125, li_126, li_127, li_128, li_144, li_150, li_200, li_255, li_384, li_512, li_999, li_1000, li_1024, li_1152, li_1920, li_3776, li_4096, li_9216, li_10000, li_100000, li_1073741824, li_m, w_lt, w_le, w_eq, w_mlt, w_mle, w_ltm, w_lem, w_meq, w_eqm, w_mm, w_mmlt, w_mmle, nI_add, w_sub, pk_mul, w_div, w_rem, w_and, w_or, w_shr, w_shl1, w_a31, w_andn]
    have go : ∀ v : Int32, v = (if k % 64 = 0 then nI 0 else nI 99) → ∃ J', fX9_findRounds_b44 FU (fX9_findRounds_L19 FU 60 G) 60 (nI k) (some 70) (nI k) v (J, R0 pl nm hd rd) = fX9_findRounds_L53 FU 60 FU (nI 1) (J', R0 pl nm hd rd) ∧ (∀ j, k ≤ j → j < 4096 → J' 70 j = if j % 64 = 0 then nI 0 else nI 99) ∧ (∀ j, j < k → J' 70 j = J 70 j) ∧ (∀ q, q ≠ 70 → J' q = J q) := by
      intro v hv
      obtain ⟨J', a1, a2, a3, a4⟩ := ih (k + 1) (up2 J 70 k v) G (by omega) (by omega)
      refine ⟨J', ?_, fun j j1 j2 => ?_, fun j hj => by rw [a3 j (by omega), up2_i (by omega)], fun q hq => by rw [a4 q hq, up2_ne hq]⟩
      · unfold fX9_findRounds_b44
        rw [sIb_70 (by omega), li_1, nI_add]
        exact a1
      · by_cases z : j = k
        · subst z
          rw [a3 j (by omega), up2_s, hv]
        · exact a2 j (by omega) j2
    rw [fX9_findRounds_L19, if_neg f0, fRb_60_14, rem]
    by_cases z : k % 64 = 0
    · rw [z, if_neg (by decide)]
      exact go 0 (by rw [if_pos z]; rfl)
    · rw [if_pos (by rw [li_0, w_eq (by omega) (by omega)]; exact z)]
      exact go 99 (by rw [if_neg z]; rfl)
/-- what the reference keeps of the hidden game -/
def K15 (P : Pln) (J : Nat → Nat → Int32) : Prop := J 60 15 = nI 0 ∨ (J 60 15 = nI 1 ∧ RPre P J ∧ RLv P 12 J)
theorem r_rounds (hF : 99999999 ≤ FU) (hR : PlR P J) (hW : WfP P) (p6 : Pp P ≤ 6) (hK : K15 P J) (hZ : ∀ j, j < 4096 → J 73 j = nI 0) : ∃ J', fX9_findRounds FU 60 (J, R0 pl nm hd rd) = some (J', R0 pl nm hd rd) ∧ J' 60 15 = nI 1 ∧ RPre P J' ∧ RLv P 12 J' ∧ (∀ j, j < 4096 → J' 73 j = nI 0) ∧ (∀ q, q ≠ 60 → q ≠ 70 → q ≠ 71 → q ≠ 72 → q ≠ 73 → J' q = J q) ∧ (∀ i, i ≠ 15 → J' 60 i = J 60 i) := by
  rcases hK with h | ⟨h, h2, h3⟩
  · generalize hT : up2 J 60 15 (nI 1) = T
    have tk : ∀ q, q ≠ 60 → T q = J q := fun q hq => by rw [← hT, up2_ne hq]
    have ti : ∀ i, i ≠ 15 → T 60 i = J 60 i := fun i hi => by rw [← hT, up2_i hi]
    have TR : PlR P T := hR.congr (fun i hi => ti i (by omega)) (fun k _ _ => tk k (by omega))
    obtain ⟨J1, a1, a2, a3⟩ := r_prepare (FU := FU) (pl := pl) (nm := nm) (hd := hd) (rd := rd) hF TR hW
    have R1 : PlR P J1 := TR.congr (fun i _ => by rw [a3 60 (by decide) (by decide)]) (fun k _ _ => a3 k (by omega) (by omega))
    obtain ⟨J2, b1, b2, b3, b4⟩ := r_find19 (FU := FU) (pl := pl) (nm := nm) (hd := hd) (rd := rd) hF 4096 0 J1 FU (by omega) (by omega)
    have R2 : PlR P J2 := R1.congr (fun i _ => by rw [b4 60 (by decide)]) (fun k _ _ => b4 k (by omega))
    obtain ⟨J3, c1, c2, c3, c4⟩ := r_find53 (FU := FU) (pl := pl) (nm := nm) (hd := hd) (rd := rd) hF hW p6 12 0 J2 FU (by omega) (by omega) R2 (a2.congr (b4 71 (by decide)) (b4 72 (by decide))) (fun a b s pr hs => by
      have h8 := pr8 hW pr
      have p64 : 2 ^ Pp P ≤ 64 := Nat.pow_le_pow_right (n := 2) (by decide) p6
      rw [b2 _ (by omega) (by omega)]
      show _ = rI (if s = 0 then some 0 else none)
      by_cases z : s = 0
      · rw [if_pos z, if_pos (by omega)]
        rfl
      · rw [if_neg z, if_neg (by omega)]
        rfl) (fun j hj => by rw [b4 73 (by decide), a3 73 (by decide) (by decide), tk 73 (by decide), hZ j hj])
    have all : ∀ q, q ≠ 70 → q ≠ 71 → q ≠ 72 → q ≠ 73 → J3 q = T q := fun q q0 q1 q2 q3 => by rw [c4 q q0 q3, b4 q q0, a3 q q1 q2]
    refine ⟨J3, ?_, ?_, a2.congr ?_ ?_, c2, c3, fun q q5 q0 q1 q2 q3 => by rw [all q q0 q1 q2 q3, tk q q5], fun i hi => by rw [all 60 (by decide) (by decide) (by decide) (by decide), ti i hi]⟩
    · unfold fX9_findRounds
      rw [fIb_60, h, if_pos (by decide), li_1, pIb_60, hT, show rc 9 (some 60) = some 60 from rfl, w_bind, dn1 a1, li_0, b1, c1]
    · rw [all 60 (by decide) (by decide) (by decide) (by decide), ← hT, up2_s]
    · rw [c4 71 (by decide) (by decide), b4 71 (by decide)]
    · rw [c4 72 (by decide) (by decide), b4 72 (by decide)]
  · refine ⟨J, ?_, h, h2, h3, hZ, fun _ _ _ _ _ _ => rfl, fun _ _ => rfl⟩
    unfold fX9_findRounds
    rw [fIb_60, h, if_neg (by decide)]
end Hid6
