/-! calls: play -/
section Play
variable {FU ver : Nat} {P : Pln} {I J : Nat → Nat → Int32} {pl nm hd rd : Option Nat} {L : Sd → Option Nat}
theorem bst_some {s : Sd} {n m : Nat} (hm : m < n) (h : bhd P s m ≠ none) : ∃ q, bst P L s n = some q := by
  induction n with
  | zero => omega
  | succ n ih =>
    unfold bst
    cases e : bhd P s n with
    | none =>
      have : m ≠ n := fun z => h (by rw [z, e])
      exact ih (by omega)
    | some t =>
      cases e2 : bst P L s n with
      | none => exact ⟨_, rfl⟩
      | some p =>
        simp only
        split
        · exact ⟨_, rfl⟩
        · exact ⟨_, rfl⟩
theorem bst_bhd {s : Sd} {n : Nat} {q : Nat × Option Nat} (h : bst P L s n = some q) : q.1 < n ∧ ∃ t, bhd P s q.1 = some t := by
  induction n with
  | zero => cases h
  | succ n ih =>
    unfold bst at h
    cases e : bhd P s n with
    | none =>
      rw [e] at h
      obtain ⟨h1, h2⟩ := ih h
      exact ⟨by omega, h2⟩
    | some t =>
      rw [e] at h
      cases e2 : bst P L s n with
      | none =>
        rw [e2] at h
        simp only at h
        have h := Option.some.inj h
        subst h
        exact ⟨by simp, t, e⟩
      | some p =>
        rw [e2] at h
        simp only at h
        split at h
        · have h := Option.some.inj h
          subst h
          exact ⟨by simp, t, e⟩
        · have h := Option.some.inj h
          subst h
          obtain ⟨h1, h2⟩ := ih e2
          exact ⟨by omega, h2⟩
theorem ncgt_bst {s : Sd} (hs : Vd P s) (z : ¬ cgtB P s = true) : ∃ q t, bst P L s 33 = some q ∧ q.1 ≤ 32 ∧ bhd P s q.1 = some t := by
  have ex : ∃ m, m < 33 ∧ bhd P s m ≠ none := by
    rw [cgtB_iff] at z
    have ht := hs.2.2.1
    obtain t0 | t1 : s.2.2.2.1 = 0 ∨ s.2.2.2.1 = 1 := by omega
    · refine ⟨0, by decide, ?_⟩
      unfold bhd opnM pAft
      simp [t0]
    · apply Classical.byContradiction
      intro y
      apply z
      refine Or.inr (Or.inr ⟨t1, fun m hm => ?_⟩)
      apply Classical.byContradiction
      intro x
      exact y ⟨m, by omega, x⟩
  obtain ⟨m, m1, m2⟩ := ex
  obtain ⟨q, hq⟩ := bst_some (L := L) m1 m2
  obtain ⟨h1, t, h2⟩ := bst_bhd hq
  exact ⟨q, t, hq, by omega, h2⟩
/-- turns played by best moves: how many, and the game behind them -/
def gPlay (P : Pln) (L : Sd → Option Nat) : Nat → Gme → Nat × Gme
  | 0, g => (0, g)
  | d + 1, g => if cgtB P g.1 = true then (0, g) else match bst P L g.1 33 with
    | none => (0, g)
    | some q => match bhd P g.1 q.1 with
      | none => (0, g)
      | some t => ((gPlay P L d (gTurn P g t)).1 + 1, (gPlay P L d (gTurn P g t)).2)
theorem gPlay_c {d : Nat} {g : Gme} (z : cgtB P g.1 = true) : gPlay P L (d + 1) g = (0, g) := by
  unfold gPlay
  rw [if_pos z]
theorem gPlay_s {d : Nat} {g : Gme} {q : Nat × Option Nat} {t : Sd} (z : ¬ cgtB P g.1 = true) (h1 : bst P L g.1 33 = some q) (h2 : bhd P g.1 q.1 = some t) : gPlay P L (d + 1) g = ((gPlay P L d (gTurn P g t)).1 + 1, (gPlay P L d (gTurn P g t)).2) := by
  rw [gPlay, if_neg z]
  simp only [h1, h2]
theorem gPlay_ok (hW : WfP P) : ∀ d g, WG P g → g.2.2.1 + d < 2 ^ 30 → (gPlay P L d g).1 ≤ d ∧ (gPlay P L d g).2.2.2.1 ≤ g.2.2.1 + d ∧ WG P (gPlay P L d g).2 := by
  intro d
  induction d with
  | zero => exact fun g w _ => ⟨Nat.le_refl 0, Nat.le_refl _, w⟩
  | succ d ih =>
    intro g w hn
    by_cases z : cgtB P g.1 = true
    · rw [gPlay_c z]
      exact ⟨Nat.zero_le _, Nat.le_add_right _ _, w⟩
    · obtain ⟨q, t, h1, h2, h3⟩ := ncgt_bst (L := L) w.1 z
      rw [gPlay_s z h1 h3]
      have w' := wg_turn hW w h3 (by omega)
      have e : (gTurn P g t).2.2.1 = g.2.2.1 + 1 := rfl
      obtain ⟨a, b, c⟩ := ih (gTurn P g t) w' (by rw [e]; omega)
      rw [e] at b
      exact ⟨by simp only; omega, by simp only; omega, c⟩
theorem c_playL (hF : 99999999 ≤ FU) (hW : WfP P) {n : Nat} (hn : n ≤ 40) : ∀ d k g I F, d + k = n → d < F → PlC 1 P I → SolC P L I → WG P g → CG (some g) I → g.2.2.1 + d < 2 ^ 30 → ∃ I', fX8_play_L34 FU 0 (nI n) (some 17) F (nI k) (I, R0 (some 1) nm hd rd) = some (nI (k + (gPlay P L d g).1), (I', R0 (some 1) nm hd rd)) ∧ CG (some (gPlay P L d g).2) I' ∧ ∀ k, k ≠ 35 → k ≠ 36 → k ≠ 37 → I' k = I k := by
  have hc : (1 : Nat) = 1 ∨ (1 : Nat) = 9 := Or.inl rfl
  intro d
  induction d with
  | zero =>
    intro k g I F h1 h2 hC hS w hG _
    obtain ⟨G, rfl⟩ : ∃ G, F = G + 1 := ⟨F - 1, by omega⟩
    refine ⟨I, ?_, hG, fun _ _ _ _ => rfl⟩
    rw [fX8_play_L34, if_pos (by rw [w_le (by omega) (by omega)]; omega)]
    rfl
  | succ d ih =>
    intro k g I F h1 h2 hC hS w hG hd'
    obtain ⟨G, rfl⟩ : ∃ G, F = G + 1 := ⟨F - 1, by omega⟩
    have hin := Vd_in hW w.1
    have cc := cC_lt hin
    have lz := len0 hS w.1 hin
    have c1 : I 35 1 = nI (cC g.1) := hG.2.1
    have f0 : ¬ nI n ≤ nI k := by rw [w_le (by omega) (by omega)]; omega
    have dbm := c_bestMove (FU := FU) (nm := nm) (hd := hd) (rd := rd) hF hc hC hW hS w.1
    rw [fX8_play_L34, if_neg f0, fRb_17_5, fRb_0_5, fIb_35, c1, aIb_18 cc]
    by_cases z : cgtB P g.1 = true
    · rw [gPlay_c z]
      refine ⟨I, ?_, hG, fun _ _ _ _ => rfl⟩
      rw [if_pos (by rw [li_0, lz]; exact z)]
      rfl
    · obtain ⟨q, t, q1, q2, q3⟩ := ncgt_bst (L := L) w.1 z
      rw [gPlay_s z q1 q3]
      rw [if_neg z, q1] at dbm
      have dbm : fX6_bestMove FU 17 (nI (cC g.1)) (I, R0 (some 1) nm hd rd) = some (nI q.1, (I, R0 (some 1) nm hd rd)) := dbm
      have w' := wg_turn hW w q3 (by omega)
      obtain ⟨I2, t1, t2, t3⟩ := c_turnG (FU := FU) (nm := nm) (hd := hd) (rd := rd) hF hC hW hS.2.2.2.2.1 w hG q2 q3
      have hC2 : PlC 1 P I2 := hC.congr (fun k _ _ => t3 k (by omega) (by omega) (by omega))
      have hS2 : SolC P L I2 := hS.congr (t3 18 (by decide) (by decide) (by decide)) (t3 25 (by decide) (by decide) (by decide)) (by rw [t3 17 (by decide) (by decide) (by decide)]) (by rw [t3 17 (by decide) (by decide) (by decide)]) (by rw [t3 17 (by decide) (by decide) (by decide)])
      have e : (gTurn P g t).2.2.1 = g.2.2.1 + 1 := rfl
      obtain ⟨I3, u1, u2, u3⟩ := ih (k + 1) (gTurn P g t) I2 G (by omega) (by omega) hC2 hS2 w' t2 (by rw [e]; omega)
      refine ⟨I3, ?_, u2, fun k k1 k2 k3 => (u3 k k1 k2 k3).trans (t3 k k1 k2 k3)⟩
      rw [if_neg (by rw [li_0, lz]; exact z), fRb_0_5, fRb_0_5, fIb_35, c1, show rc 6 (some 17) = some 17 from rfl, w_bind, dn dbm, show rc 0 (some 35) = some 35 from rfl, w_bind, dn1 t1, li_1, nI_add, u1]
      have : k + 1 + (gPlay P L d (gTurn P g t)).1 = k + ((gPlay P L d (gTurn P g t)).1 + 1) := by omega
      rw [this]
theorem sol_eq2 (hW : WfP P) {K : Sd → Option Nat} (h1 : LenF P L) (h0 : ∀ s, ¬ Vd P s → L s = none) (h2 : SolR P K J) : K = L := by
  funext s
  by_cases v : Vd P s
  · exact len_eq hW h2.1 h1 v
  · rw [h0 s v, h2.2.1 s v]
theorem r_playL (hF : 99999999 ≤ FU) (hW : WfP P) (hL : LenF P L) (hL0 : ∀ s, ¬ Vd P s → L s = none) {n : Nat} (hn : n ≤ 40) : ∀ d k g J F, d + k = n → d < F → PlR P J → K60 P J → WG P g → RG (some g) J → g.2.2.1 + d < 2 ^ 30 → ∃ J', fX9_play_L26 FU 60 (nI n) F (nI k) (J, R0 pl nm hd rd) = some (nI (k + (gPlay P L d g).1), (J', R0 pl nm hd rd)) ∧ RG (some (gPlay P L d g).2) J' ∧ RX P J J' := by
  intro d
  induction d with
  | zero =>
    intro k g J F h1 h2 hR hK w hG _
    obtain ⟨G, rfl⟩ : ∃ G, F = G + 1 := ⟨F - 1, by omega⟩
    refine ⟨J, ?_, hG, RX.refl⟩
    rw [fX9_play_L26, if_pos (by rw [w_le (by omega) (by omega)]; omega)]
    rfl
  | succ d ih =>
    intro k g J F h1 h2 hR hK w hG hd'
    obtain ⟨G, rfl⟩ : ∃ G, F = G + 1 := ⟨F - 1, by omega⟩
    have c1 : J 60 20 = nI (cR g.1) := hG.2.1
    have f0 : ¬ nI n ≤ nI k := by rw [w_le (by omega) (by omega)]; omega
    have d9 := r_isCaught (FU := FU) (pl := pl) (nm := nm) (hd := hd) (rd := rd) hF hR hW w.1
    rw [fX9_play_L26, if_neg f0, fIb_60, c1, show rc 9 (some 60) = some 60 from rfl, w_bind, dn d9]
    by_cases z : cgtB P g.1 = true
    · rw [gPlay_c z]
      refine ⟨J, ?_, hG, RX.refl⟩
      rw [b01_pos z, if_pos (by decide)]
      rfl
    · obtain ⟨q, t, q1, q2, q3⟩ := ncgt_bst (L := L) w.1 z
      rw [gPlay_s z q1 q3]
      have w' := wg_turn hW w q3 (by omega)
      obtain ⟨J1, K, k1, k2, k3⟩ := r_bestOf (FU := FU) (pl := pl) (nm := nm) (hd := hd) (rd := rd) hF hR hW hK w.1
      rw [sol_eq2 hW hL hL0 k1, q1] at k2
      have k2 : fX9_bestOf FU 60 (nI (cR g.1)) (J, R0 pl nm hd rd) = some (nI q.1, (J1, R0 pl nm hd rd)) := k2
      have x1 := k3.rx
      have hG1 : RG (some g) J1 := by
        rcases k3 with e | ⟨_, _, e3, e4⟩
        · rw [e]; exact hG
        · exact hG.congr (fun i i1 i2 => e4 i (by omega)) (e3 74 (by decide) (by decide) (by decide)) (e3 75 (by decide) (by decide) (by decide))
      obtain ⟨J2, t1, t2, t3, t4⟩ := r_turnG (FU := FU) (pl := pl) (nm := nm) (hd := hd) (rd := rd) hF (x1.plr hR) hW w hG1 q2 q3
      have x2 : RX P J J2 := x1.trans (RX.turn t3 t4)
      have e : (gTurn P g t).2.2.1 = g.2.2.1 + 1 := rfl
      obtain ⟨J3, u1, u2, u3⟩ := ih (k + 1) (gTurn P g t) J2 G (by omega) (by omega) (x2.plr hR) (x2.k60 hK) w' t2 (by rw [e]; omega)
      refine ⟨J3, ?_, u2, x2.trans u3⟩
      rw [b01_neg z, if_neg (by decide), fIb_60, c1, w_bind, dn k2, w_bind, dn1 t1, li_1, nI_add, u1]
      have : k + 1 + (gPlay P L d (gTurn P g t)).1 = k + ((gPlay P L d (gTurn P g t)).1 + 1) := by omega
      rw [this]
theorem k_play (hF : 99999999 ≤ FU) (h : HS P ver pl I J) {g : Option Gme} {N : Nat} (hN : GN N g) (hN2 : N < 2 ^ 29) (hg : WGo P g) (hCG : CG g I) (hRG : RG g J) (x1 : Int32) : MO P ver g pl nm hd rd I J (fX8_play FU 0 x1 (I, R0 pl nm hd rd)) (fX9_play FU 60 x1) := by
  obtain ⟨hC, hR, hW, hv, hver, hK, hK'⟩ := h
  have hc : (1 : Nat) = 1 ∨ (1 : Nat) = 9 := Or.inl rfl
  have no : ∀ r, fX8_play FU 0 x1 (I, R0 pl nm hd rd) = some (r, (I, R0 pl nm hd rd)) → (∀ pl2, fX9_play FU 60 x1 (J, R0 pl2 nm hd rd) = some (r, (J, R0 pl2 nm hd rd))) → MO P ver g pl nm hd rd I J (fX8_play FU 0 x1 (I, R0 pl nm hd rd)) (fX9_play FU 60 x1) := fun r a b => ⟨r, g, hg, fun _ => gn_40, ⟨I, pl, a, hCG, CX.refl⟩, fun pl2 => ⟨J, b pl2, hRG, RX.refl⟩⟩
  rcases i32c x1 with ⟨n, hn', rfl⟩ | ⟨n, hn0, hn', rfl⟩
  · by_cases hn : 1 ≤ n ∧ n ≤ 40
    · cases g with
      | none =>
        have c0 : I 35 0 = nI 0 := hCG
        have r0 : J 60 19 = nI 0 := hRG
        refine no (mI 3) ?_ (fun pl2 => ?_)
        · unfold fX8_play
          simp (discharger := omega) only [li_0, li_1, li_2, li_3, li_4, li_5, li_6, li_7, li_8, li_9, li_10, li_11, li_12, li_13, li_14, li_15, li_16, li_17, li_18, li_19, li_20, li_21, li_22, li_23, li_24, li_25, li_26, li_27, li_28, li_29, li_30, li_31, li_32, li_33, li_34, li_35, li_36, li_37, li_38, li_39, li_40, li_41, li_42, li_43, li_44, li_45, li_46, li_47, li_48, li_49, li_50, li_51, li_52, li_53, li_54, li_55, li_56, li_57, li_58, li_59, li_60, li_61, li_62, li_63, li_64, li_65, li_66, li_67, li_68, li_69, li_70, li_71, li_72, li_73, li_74, li_75, li_76, li_77, li_78, li_79, li_80, li_81, li_82, li_83, li_84, li_85, li_86, li_87, li_88, li_89, li_90, li_91, li_92, li_93, li_94, li_95, li_96, li_97, li_98, li_99, li_100, li_101, li_102, li_103, li_104, li_105, li_106, li_107, li_108, li_109, li_110, li_111, li_112, li_113, li_114, li_115, li_116, li_117, li_118, li_119, li_120, li_121, li_122, li_123, li_124, li_125, li_126, li_127, li_128, li_144, li_150, li_200, li_255, li_384, li_512, li_999, li_1000, li_1024, li_1152, li_1920, li_3776, li_4096, li_9216, li_10000, li_100000, li_1073741824, li_m, ↓rcb_0, ↓fIb_0, ↓pIb_0, ↓fRb_0_0, ↓fRb_0_1, ↓fRb_0_2, ↓fRb_0_3, ↓fRb_0_4, ↓fRb_0_5, ↓fRb_0_6, ↓fRb_0_7, r0_0_0, r0_0_1, r0_0_2, r0_0_3, r0_0_4, r0_0_5, r0_0_6, r0_0_7, r0_51_0, r0_51_1, r0_51_2, r0_51_3, rc_0, fI_0, fR_0, pI_0, aR_51, ↓fIb_35, w_bind, w_bd2, b01_eq0, b01_ok, b01_ok2, w_lt, w_le, w_eq, w_mlt, w_mle, w_ltm, w_lem, w_meq, w_eqm, w_mm, w_mmlt, w_mmle, nI_add, w_sub, pk_mul, w_div, w_rem, w_and, w_or, w_shr, w_shl1, w_a31, w_andn, ↓reduceIte, Nat.reduceAdd, Nat.reduceEqDiff, Nat.zero_lt_one, Nat.not_lt_zero, Nat.one_ne_zero, Nat.zero_ne_one, not_true_eq_false, not_false_eq_true, Bool.false_eq_true, Bool.true_eq_false, n_leT, n_leF, n_ltT, n_ltF, n_eqT, n_eqF, and_true, true_and, and_false, false_and, or_true, true_or, or_false, false_or, not_true_eq_false, not_false_eq_true, c0]
        · unfold fX9_play fX9_in
          simp (discharger := omega) only [li_0, li_1, li_2, li_3, li_4, li_5, li_6, li_7, li_8, li_9, li_10, li_11, li_12, li_13, li_14, li_15, li_16, li_17, li_18, li_19, li_20, li_21, li_22, li_23, li_24, li_25, li_26, li_27, li_28, li_29, li_30, li_31, li_32, li_33, li_34, li_35, li_36, li_37, li_38, li_39, li_40, li_41, li_42, li_43, li_44, li_45, li_46, li_47, li_48, li_49, li_50, li_51, li_52, li_53, li_54, li_55, li_56, li_57, li_58, li_59, li_60, li_61, li_62, li_63, li_64, li_65, li_66, li_67, li_68, li_69, li_70, li_71, li_72, li_73, li_74, li_75, li_76, li_77, li_78, li_79, li_80, li_81, li_82, li_83, li_84, li_85, li_86, li_87, li_88, li_89, li_90, li_91, li_92, li_93, li_94, li_95, li_96, li_97, li_98, li_99, li_100, li_101, li_102, li_103, li_104, li_105, li_106, li_107, li_108, li_109, li_110, li_111, li_112, li_113, li_114, li_115, li_116, li_117, li_118, li_119, li_120, li_121, li_122, li_123, li_124, li_125, li_126, li_127, li_128, li_144, li_150, li_200, li_255, li_384, li_512, li_999, li_1000, li_1024, li_1152, li_1920, li_3776, li_4096, li_9216, li_10000, li_100000, li_1073741824, li_m, ↓rcb_60, ↓fIb_60, ↓pIb_60, ↓fRb_60_4, ↓fRb_60_5, ↓fRb_60_6, ↓fRb_60_7, ↓fRb_60_8, ↓fRb_60_10, ↓fRb_60_11, ↓fRb_60_12, ↓fRb_60_13, ↓fRb_60_14, ↓fRb_60_16, ↓fRb_60_17, ↓fRb_60_18, ↓fRb_60_24, ↓fRb_60_25, ↓fRb_60_26, ↓fRb_60_30, ↓fRb_60_31, ↓fRb_60_36, ↓fRb_60_37, ↓fRb_60_42, ↓fRb_60_43, ↓fRb_60_44, ↓fRb_60_45, ↓aIb_61, ↓sIb_61, ↓aIb_62, ↓sIb_62, ↓aIb_63, ↓sIb_63, ↓aIb_64, ↓sIb_64, ↓aIb_65, ↓sIb_65, ↓aIb_66, ↓sIb_66, ↓aIb_67, ↓sIb_67, ↓aIb_68, ↓sIb_68, ↓aIb_69, ↓sIb_69, ↓aIb_70, ↓sIb_70, ↓aIb_71, ↓sIb_71, ↓aIb_72, ↓sIb_72, ↓aIb_73, ↓sIb_73, ↓aIb_74, ↓sIb_74, ↓aIb_75, ↓sIb_75, ↓aIb_76, ↓sIb_76, ↓aIb_77, ↓sIb_77, ↓aIb_78, ↓sIb_78, ↓aIb_79, ↓sIb_79, ↓aIb_80, ↓sIb_80, ↓aIb_81, ↓sIb_81, ↓aIb_82, ↓sIb_82, ↓aIb_83, ↓sIb_83, ↓aIb_84, ↓sIb_84, r0_60_4, r0_60_5, r0_60_6, r0_60_7, r0_60_8, r0_60_10, r0_60_11, r0_60_12, r0_60_13, r0_60_14, r0_60_16, r0_60_17, r0_60_18, r0_60_24, r0_60_25, r0_60_26, r0_60_30, r0_60_31, r0_60_36, r0_60_37, r0_60_42, r0_60_43, r0_60_44, r0_60_45, rc_60, fI_60, fR_60, pI_60, aI_61, sI_61, aI_62, sI_62, aI_63, sI_63, aI_64, sI_64, aI_65, sI_65, aI_66, sI_66, aI_67, sI_67, aI_68, sI_68, aI_69, sI_69, aI_70, sI_70, aI_71, sI_71, aI_72, sI_72, aI_73, sI_73, aI_74, sI_74, aI_75, sI_75, aI_76, sI_76, aI_77, sI_77, aI_78, sI_78, aI_79, sI_79, aI_80, sI_80, aI_81, sI_81, aI_82, sI_82, aI_83, sI_83, aI_84, sI_84, w_bind, w_bd2, b01_eq0, b01_ok, b01_ok2, w_lt, w_le, w_eq, w_mlt, w_mle, w_ltm, w_lem, w_meq, w_eqm, w_mm, w_mmlt, w_mmle, nI_add, w_sub, pk_mul, w_div, w_rem, w_and, w_or, w_shr, w_shl1, w_a31, w_andn, ↓reduceIte, Nat.reduceAdd, Nat.reduceEqDiff, Nat.zero_lt_one, Nat.not_lt_zero, Nat.one_ne_zero, Nat.zero_ne_one, not_true_eq_false, not_false_eq_true, Bool.false_eq_true, Bool.true_eq_false, n_leT, n_leF, n_ltT, n_ltF, n_eqT, n_eqF, and_true, true_and, and_false, false_and, or_true, true_or, or_false, false_or, not_true_eq_false, not_false_eq_true, r0]
      | some g =>
        have wg := hg g rfl
        have nl := hN g rfl
        obtain ⟨I', L, s1, s2, s3, s4, s5⟩ := c_solvedSt (nm := nm) (hd := hd) (rd := rd) hF hC hW hv hver hK
        have hC' : PlC 1 P I' := hC.congr (fun k _ _ => s5 k (by omega))
        have hG' : CG (some g) I' := hCG.congr (s5 35 (by omega)) (s5 36 (by omega)) (s5 37 (by omega))
        have c0 : I 35 0 = nI 1 := hCG.1
        have r0 : J 60 19 = nI 1 := hRG.1
        obtain ⟨I2, t1, t2, t3⟩ := c_playL (FU := FU) (nm := nm) (hd := hd) (rd := rd) hF hW hn.2 n 0 g I' FU (by omega) (by omega) hC' s2 wg hG' (by omega)
        obtain ⟨p1, p2, p3⟩ := gPlay_ok (L := L) hW n g wg (by omega)
        refine ⟨nI (0 + (gPlay P L n g).1), some (gPlay P L n g).2, ?_, ?_, ⟨I2, some 1, ?_, t2, ?_⟩, fun pl2 => ?_⟩
        · intro x e
          have e := Option.some.inj e
          subst e
          exact p3
        · intro N' h' x e
          have e := Option.some.inj e
          subst e
          have := h' g rfl
          omega
        · unfold fX8_play
          simp (discharger := omega) only [li_0, li_1, li_2, li_3, li_4, li_5, li_6, li_7, li_8, li_9, li_10, li_11, li_12, li_13, li_14, li_15, li_16, li_17, li_18, li_19, li_20, li_21, li_22, li_23, li_24, li_25, li_26, li_27, li_28, li_29, li_30, li_31, li_32, li_33, li_34, li_35, li_36, li_37, li_38, li_39, li_40, li_41, li_42, li_43, li_44, li_45, li_46, li_47, li_48, li_49, li_50, li_51, li_52, li_53, li_54, li_55, li_56, li_57, li_58, li_59, li_60, li_61, li_62, li_63, li_64, li_65, li_66, li_67, li_68, li_69, li_70, li_71, li_72, li_73, li_74, li_75, li_76, li_77, li_78, li_79, li_80, li_81, li_82, li_83, li_84, li_85, li_86, li_87, li_88, li_89, li_90, li_91, li_92, li_93, li_94, li_95, li_96, li_97, li_98, li_99, li_100, li_101, li_102, li_103, li_104, li_105, li_106, li_107, li_108, li_109, li_110, li_111, li_112, li_113, li_114, li_115, li_116, li_117, li_118, li_119, li_120, li_121, li_122, li_123, li_124, li_125, li_126, li_127, li_128, li_144, li_150, li_200, li_255, li_384, li_512, li_999, li_1000, li_1024, li_1152, li_1920, li_3776, li_4096, li_9216, li_10000, li_100000, li_1073741824, li_m, ↓rcb_0, ↓fIb_0, ↓pIb_0, ↓fRb_0_0, ↓fRb_0_1, ↓fRb_0_2, ↓fRb_0_3, ↓fRb_0_4, ↓fRb_0_5, ↓fRb_0_6, ↓fRb_0_7, r0_0_0, r0_0_1, r0_0_2, r0_0_3, r0_0_4, r0_0_5, r0_0_6, r0_0_7, r0_51_0, r0_51_1, r0_51_2, r0_51_3, rc_0, fI_0, fR_0, pI_0, aR_51, ↓fIb_35, ↓dn s1, w_bind, w_bd2, b01_eq0, b01_ok, b01_ok2, w_lt, w_le, w_eq, w_mlt, w_mle, w_ltm, w_lem, w_meq, w_eqm, w_mm, w_mmlt, w_mmle, nI_add, w_sub, pk_mul, w_div, w_rem, w_and, w_or, w_shr, w_shl1, w_a31, w_andn, ↓reduceIte, Nat.reduceAdd, Nat.reduceEqDiff, Nat.zero_lt_one, Nat.not_lt_zero, Nat.one_ne_zero, Nat.zero_ne_one, not_true_eq_false, not_false_eq_true, Bool.false_eq_true, Bool.true_eq_false, n_leT, n_leF, n_ltT, n_ltF, n_eqT, n_eqF, and_true, true_and, and_false, false_and, or_true, true_or, or_false, false_or, not_true_eq_false, not_false_eq_true, c0]
          exact t1
        · refine ⟨Or.inr ⟨rfl, by rw [t3 17 (by decide) (by decide) (by decide), s4], L, s2.congr (t3 18 (by decide) (by decide) (by decide)) (t3 25 (by decide) (by decide) (by decide)) (by rw [t3 17 (by decide) (by decide) (by decide)]) (by rw [t3 17 (by decide) (by decide) (by decide)]) (by rw [t3 17 (by decide) (by decide) (by decide)]), ?_⟩, fun k hk k1 k2 k3 => (t3 k k1 k2 k3).trans (s5 k hk)⟩
          unfold LoneOK
          rw [t3 17 (by decide) (by decide) (by decide), t3 27 (by decide) (by decide) (by decide)]
          exact s3
        · obtain ⟨J2, u1, u2, u3⟩ := r_playL (FU := FU) (pl := pl2) (nm := nm) (hd := hd) (rd := rd) hF hW s2.1 s2.2.1 hn.2 n 0 g J FU (by omega) (by omega) hR hK' wg hRG (by omega)
          refine ⟨J2, ?_, u2, u3⟩
          unfold fX9_play fX9_in
          simp (discharger := omega) only [li_0, li_1, li_2, li_3, li_4, li_5, li_6, li_7, li_8, li_9, li_10, li_11, li_12, li_13, li_14, li_15, li_16, li_17, li_18, li_19, li_20, li_21, li_22, li_23, li_24, li_25, li_26, li_27, li_28, li_29, li_30, li_31, li_32, li_33, li_34, li_35, li_36, li_37, li_38, li_39, li_40, li_41, li_42, li_43, li_44, li_45, li_46, li_47, li_48, li_49, li_50, li_51, li_52, li_53, li_54, li_55, li_56, li_57, li_58, li_59, li_60, li_61, li_62, li_63, li_64, li_65, li_66, li_67, li_68, li_69, li_70, li_71, li_72, li_73, li_74, li_75, li_76, li_77, li_78, li_79, li_80, li_81, li_82, li_83, li_84, li_85, li_86, li_87, li_88, li_89, li_90, li_91, li_92, li_93, li_94, li_95, li_96, li_97, li_98, li_99, li_100, li_101, li_102, li_103, li_104, li_105, li_106, li_107, li_108, li_109, li_110, li_111, li_112, li_113, li_114, li_115, li_116, li_117, li_118, li_119, li_120, li_121, li_122, li_123, li_124, li_125, li_126, li_127, li_128, li_144, li_150, li_200, li_255, li_384, li_512, li_999, li_1000, li_1024, li_1152, li_1920, li_3776, li_4096, li_9216, li_10000, li_100000, li_1073741824, li_m, ↓rcb_60, ↓fIb_60, ↓pIb_60, ↓fRb_60_4, ↓fRb_60_5, ↓fRb_60_6, ↓fRb_60_7, ↓fRb_60_8, ↓fRb_60_10, ↓fRb_60_11, ↓fRb_60_12, ↓fRb_60_13, ↓fRb_60_14, ↓fRb_60_16, ↓fRb_60_17, ↓fRb_60_18, ↓fRb_60_24, ↓fRb_60_25, ↓fRb_60_26, ↓fRb_60_30, ↓fRb_60_31, ↓fRb_60_36, ↓fRb_60_37, ↓fRb_60_42, ↓fRb_60_43, ↓fRb_60_44, ↓fRb_60_45, ↓aIb_61, ↓sIb_61, ↓aIb_62, ↓sIb_62, ↓aIb_63, ↓sIb_63, ↓aIb_64, ↓sIb_64, ↓aIb_65, ↓sIb_65, ↓aIb_66, ↓sIb_66, ↓aIb_67, ↓sIb_67, ↓aIb_68, ↓sIb_68, ↓aIb_69, ↓sIb_69, ↓aIb_70, ↓sIb_70, ↓aIb_71, ↓sIb_71, ↓aIb_72, ↓sIb_72, ↓aIb_73, ↓sIb_73, ↓aIb_74, ↓sIb_74, ↓aIb_75, ↓sIb_75, ↓aIb_76, ↓sIb_76, ↓aIb_77, ↓sIb_77, ↓aIb_78, ↓sIb_78, ↓aIb_79, ↓sIb_79, ↓aIb_80, ↓sIb_80, ↓aIb_81, ↓sIb_81, ↓aIb_82, ↓sIb_82, ↓aIb_83, ↓sIb_83, ↓aIb_84, ↓sIb_84, r0_60_4, r0_60_5, r0_60_6, r0_60_7, r0_60_8, r0_60_10, r0_60_11, r0_60_12, r0_60_13, r0_60_14, r0_60_16, r0_60_17, r0_60_18, r0_60_24, r0_60_25, r0_60_26, r0_60_30, r0_60_31, r0_60_36, r0_60_37, r0_60_42, r0_60_43, r0_60_44, r0_60_45, rc_60, fI_60, fR_60, pI_60, aI_61, sI_61, aI_62, sI_62, aI_63, sI_63, aI_64, sI_64, aI_65, sI_65, aI_66, sI_66, aI_67, sI_67, aI_68, sI_68, aI_69, sI_69, aI_70, sI_70, aI_71, sI_71, aI_72, sI_72, aI_73, sI_73, aI_74, sI_74, aI_75, sI_75, aI_76, sI_76, aI_77, sI_77, aI_78, sI_78, aI_79, sI_79, aI_80, sI_80, aI_81, sI_81, aI_82, sI_82, aI_83, sI_83, aI_84, sI_84, w_bind, w_bd2, b01_eq0, b01_ok, b01_ok2, w_lt, w_le, w_eq, w_mlt, w_mle, w_ltm, w_lem, w_meq, w_eqm, w_mm, w_mmlt, w_mmle, nI_add, w_sub, pk_mul, w_div, w_rem, w_and, w_or, w_shr, w_shl1, w_a31, w_andn, ↓reduceIte, Nat.reduceAdd, Nat.reduceEqDiff, Nat.zero_lt_one, Nat.not_lt_zero, Nat.one_ne_zero, Nat.zero_ne_one, not_true_eq_false, not_false_eq_true, Bool.false_eq_true, Bool.true_eq_false, n_leT, n_leF, n_ltT, n_ltF, n_eqT, n_eqF, and_true, true_and, and_false, false_and, or_true, true_or, or_false, false_or, not_true_eq_false, not_false_eq_true, r0]
          exact u1
    · refine no (mI 2) ?_ (fun pl2 => ?_)
      · unfold fX8_play
        by_cases y : n < 1
        · simp (discharger := omega) only [li_0, li_1, li_2, li_3, li_4, li_5, li_6, li_7, li_8, li_9, li_10, li_11, li_12, li_13, li_14, li_15, li_16, li_17, li_18, li_19, li_20, li_21, li_22, li_23, li_24, li_25, li_26, li_27, li_28, li_29, li_30, li_31, li_32, li_33, li_34, li_35, li_36, li_37, li_38, li_39, li_40, li_41, li_42, li_43, li_44, li_45, li_46, li_47, li_48, li_49, li_50, li_51, li_52, li_53, li_54, li_55, li_56, li_57, li_58, li_59, li_60, li_61, li_62, li_63, li_64, li_65, li_66, li_67, li_68, li_69, li_70, li_71, li_72, li_73, li_74, li_75, li_76, li_77, li_78, li_79, li_80, li_81, li_82, li_83, li_84, li_85, li_86, li_87, li_88, li_89, li_90, li_91, li_92, li_93, li_94, li_95, li_96, li_97, li_98, li_99, li_100, li_101, li_102, li_103, li_104, li_105, li_106, li_107, li_108, li_109, li_110, li_111, li_112, li_113, li_114, li_115, li_116, li_117, li_118, li_119, li_120, li_121, li_122, li_123, li_124, li_125, li_126, li_127, li_128, li_144, li_150, li_200, li_255, li_384, li_512, li_999, li_1000, li_1024, li_1152, li_1920, li_3776, li_4096, li_9216, li_10000, li_100000, li_1073741824, li_m, ↓rcb_0, ↓fIb_0, ↓pIb_0, ↓fRb_0_0, ↓fRb_0_1, ↓fRb_0_2, ↓fRb_0_3, ↓fRb_0_4, ↓fRb_0_5, ↓fRb_0_6, ↓fRb_0_7, r0_0_0, r0_0_1, r0_0_2, r0_0_3, r0_0_4, r0_0_5, r0_0_6, r0_0_7, r0_51_0, r0_51_1, r0_51_2, r0_51_3, rc_0, fI_0, fR_0, pI_0, aR_51, w_bind, w_bd2, b01_eq0, b01_ok, b01_ok2, w_lt, w_le, w_eq, w_mlt, w_mle, w_ltm, w_lem, w_meq, w_eqm, w_mm, w_mmlt, w_mmle, nI_add, w_sub, pk_mul, w_div, w_rem, w_and, w_or, w_shr, w_shl1, w_a31, w_andn, ↓reduceIte, Nat.reduceAdd, Nat.reduceEqDiff, Nat.zero_lt_one, Nat.not_lt_zero, Nat.one_ne_zero, Nat.zero_ne_one, not_true_eq_false, not_false_eq_true, Bool.false_eq_true, Bool.true_eq_false, n_leT, n_leF, n_ltT, n_ltF, n_eqT, n_eqF, and_true, true_and, and_false, false_and, or_true, true_or, or_false, false_or, not_true_eq_false, not_false_eq_true]
        · simp (discharger := omega) only [li_0, li_1, li_2, li_3, li_4, li_5, li_6, li_7, li_8, li_9, li_10, li_11, li_12, li_13, li_14, li_15, li_16, li_17, li_18, li_19, li_20, li_21, li_22, li_23, li_24, li_25, li_26, li_27, li_28, li_29, li_30, li_31, li_32, li_33, li_34, li_35, li_36, li_37, li_38, li_39, li_40, li_41, li_42, li_43, li_44, li_45, li_46, li_47, li_48, li_49, li_50, li_51, li_52, li_53, li_54, li_55, li_56, li_57, li_58, li_59, li_60, li_61, li_62, li_63, li_64, li_65, li_66, li_67, li_68, li_69, li_70, li_71, li_72, li_73, li_74, li_75, li_76, li_77, li_78, li_79, li_80, li_81, li_82, li_83, li_84, li_85, li_86, li_87, li_88, li_89, li_90, li_91, li_92, li_93, li_94, li_95, li_96, li_97, li_98, li_99, li_100, li_101, li_102, li_103, li_104, li_105, li_106, li_107, li_108, li_109, li_110, li_111, li_112, li_113, li_114, li_115, li_116, li_117, li_118, li_119, li_120, li_121, li_122, li_123, li_124, li_125, li_126, li_127, li_128, li_144, li_150, li_200, li_255, li_384, li_512, li_999, li_1000, li_1024, li_1152, li_1920, li_3776, li_4096, li_9216, li_10000, li_100000, li_1073741824, li_m, ↓rcb_0, ↓fIb_0, ↓pIb_0, ↓fRb_0_0, ↓fRb_0_1, ↓fRb_0_2, ↓fRb_0_3, ↓fRb_0_4, ↓fRb_0_5, ↓fRb_0_6, ↓fRb_0_7, r0_0_0, r0_0_1, r0_0_2, r0_0_3, r0_0_4, r0_0_5, r0_0_6, r0_0_7, r0_51_0, r0_51_1, r0_51_2, r0_51_3, rc_0, fI_0, fR_0, pI_0, aR_51, w_bind, w_bd2, b01_eq0, b01_ok, b01_ok2, w_lt, w_le, w_eq, w_mlt, w_mle, w_ltm, w_lem, w_meq, w_eqm, w_mm, w_mmlt, w_mmle, nI_add, w_sub, pk_mul, w_div, w_rem, w_and, w_or, w_shr, w_shl1, w_a31, w_andn, ↓reduceIte, Nat.reduceAdd, Nat.reduceEqDiff, Nat.zero_lt_one, Nat.not_lt_zero, Nat.one_ne_zero, Nat.zero_ne_one, not_true_eq_false, not_false_eq_true, Bool.false_eq_true, Bool.true_eq_false, n_leT, n_leF, n_ltT, n_ltF, n_eqT, n_eqF, and_true, true_and, and_false, false_and, or_true, true_or, or_false, false_or, not_true_eq_false, not_false_eq_true]
      · unfold fX9_play fX9_in
        by_cases y : n < 1
        · simp (discharger := omega) only [li_0, li_1, li_2, li_3, li_4, li_5, li_6, li_7, li_8, li_9, li_10, li_11, li_12, li_13, li_14, li_15, li_16, li_17, li_18, li_19, li_20, li_21, li_22, li_23, li_24, li_25, li_26, li_27, li_28, li_29, li_30, li_31, li_32, li_33, li_34, li_35, li_36, li_37, li_38, li_39, li_40, li_41, li_42, li_43, li_44, li_45, li_46, li_47, li_48, li_49, li_50, li_51, li_52, li_53, li_54, li_55, li_56, li_57, li_58, li_59, li_60, li_61, li_62, li_63, li_64, li_65, li_66, li_67, li_68, li_69, li_70, li_71, li_72, li_73, li_74, li_75, li_76, li_77, li_78, li_79, li_80, li_81, li_82, li_83, li_84, li_85, li_86, li_87, li_88, li_89, li_90, li_91, li_92, li_93, li_94, li_95, li_96, li_97, li_98, li_99, li_100, li_101, li_102, li_103, li_104, li_105, li_106, li_107, li_108, li_109, li_110, li_111, li_112, li_113, li_114, li_115, li_116, li_117, li_118, li_119, li_120, li_121, li_122, li_123, li_124, li_125, li_126, li_127, li_128, li_144, li_150, li_200, li_255, li_384, li_512, li_999, li_1000, li_1024, li_1152, li_1920, li_3776, li_4096, li_9216, li_10000, li_100000, li_1073741824, li_m, ↓rcb_60, ↓fIb_60, ↓pIb_60, ↓fRb_60_4, ↓fRb_60_5, ↓fRb_60_6, ↓fRb_60_7, ↓fRb_60_8, ↓fRb_60_10, ↓fRb_60_11, ↓fRb_60_12, ↓fRb_60_13, ↓fRb_60_14, ↓fRb_60_16, ↓fRb_60_17, ↓fRb_60_18, ↓fRb_60_24, ↓fRb_60_25, ↓fRb_60_26, ↓fRb_60_30, ↓fRb_60_31, ↓fRb_60_36, ↓fRb_60_37, ↓fRb_60_42, ↓fRb_60_43, ↓fRb_60_44, ↓fRb_60_45, ↓aIb_61, ↓sIb_61, ↓aIb_62, ↓sIb_62, ↓aIb_63, ↓sIb_63, ↓aIb_64, ↓sIb_64, ↓aIb_65, ↓sIb_65, ↓aIb_66, ↓sIb_66, ↓aIb_67, ↓sIb_67, ↓aIb_68, ↓sIb_68, ↓aIb_69, ↓sIb_69, ↓aIb_70, ↓sIb_70, ↓aIb_71, ↓sIb_71, ↓aIb_72, ↓sIb_72, ↓aIb_73, ↓sIb_73, ↓aIb_74, ↓sIb_74, ↓aIb_75, ↓sIb_75, ↓aIb_76, ↓sIb_76, ↓aIb_77, ↓sIb_77, ↓aIb_78, ↓sIb_78, ↓aIb_79, ↓sIb_79, ↓aIb_80, ↓sIb_80, ↓aIb_81, ↓sIb_81, ↓aIb_82, ↓sIb_82, ↓aIb_83, ↓sIb_83, ↓aIb_84, ↓sIb_84, r0_60_4, r0_60_5, r0_60_6, r0_60_7, r0_60_8, r0_60_10, r0_60_11, r0_60_12, r0_60_13, r0_60_14, r0_60_16, r0_60_17, r0_60_18, r0_60_24, r0_60_25, r0_60_26, r0_60_30, r0_60_31, r0_60_36, r0_60_37, r0_60_42, r0_60_43, r0_60_44, r0_60_45, rc_60, fI_60, fR_60, pI_60, aI_61, sI_61, aI_62, sI_62, aI_63, sI_63, aI_64, sI_64, aI_65, sI_65, aI_66, sI_66, aI_67, sI_67, aI_68, sI_68, aI_69, sI_69, aI_70, sI_70, aI_71, sI_71, aI_72, sI_72, aI_73, sI_73, aI_74, sI_74, aI_75, sI_75, aI_76, sI_76, aI_77, sI_77, aI_78, sI_78, aI_79, sI_79, aI_80, sI_80, aI_81, sI_81, aI_82, sI_82, aI_83, sI_83, aI_84, sI_84, w_bind, w_bd2, b01_eq0, b01_ok, b01_ok2, w_lt, w_le, w_eq, w_mlt, w_mle, w_ltm, w_lem, w_meq, w_eqm, w_mm, w_mmlt, w_mmle, nI_add, w_sub, pk_mul, w_div, w_rem, w_and, w_or, w_shr, w_shl1, w_a31, w_andn, ↓reduceIte, Nat.reduceAdd, Nat.reduceEqDiff, Nat.zero_lt_one, Nat.not_lt_zero, Nat.one_ne_zero, Nat.zero_ne_one, not_true_eq_false, not_false_eq_true, Bool.false_eq_true, Bool.true_eq_false, n_leT, n_leF, n_ltT, n_ltF, n_eqT, n_eqF, and_true, true_and, and_false, false_and, or_true, true_or, or_false, false_or, not_true_eq_false, not_false_eq_true]
        · simp (discharger := omega) only [li_0, li_1, li_2, li_3, li_4, li_5, li_6, li_7, li_8, li_9, li_10, li_11, li_12, li_13, li_14, li_15, li_16, li_17, li_18, li_19, li_20, li_21, li_22, li_23, li_24, li_25, li_26, li_27, li_28, li_29, li_30, li_31, li_32, li_33, li_34, li_35, li_36, li_37, li_38, li_39, li_40, li_41, li_42, li_43, li_44, li_45, li_46, li_47, li_48, li_49, li_50, li_51, li_52, li_53, li_54, li_55, li_56, li_57, li_58, li_59, li_60, li_61, li_62, li_63, li_64, li_65, li_66, li_67, li_68, li_69, li_70, li_71, li_72, li_73, li_74, li_75, li_76, li_77, li_78, li_79, li_80, li_81, li_82, li_83, li_84, li_85, li_86, li_87, li_88, li_89, li_90, li_91, li_92, li_93, li_94, li_95, li_96, li_97, li_98, li_99, li_100, li_101, li_102, li_103, li_104, li_105, li_106, li_107, li_108, li_109, li_110, li_111, li_112, li_113, li_114, li_115, li_116, li_117, li_118, li_119, li_120, li_121, li_122, li_123, li_124, li_125, li_126, li_127, li_128, li_144, li_150, li_200, li_255, li_384, li_512, li_999, li_1000, li_1024, li_1152, li_1920, li_3776, li_4096, li_9216, li_10000, li_100000, li_1073741824, li_m, ↓rcb_60, ↓fIb_60, ↓pIb_60, ↓fRb_60_4, ↓fRb_60_5, ↓fRb_60_6, ↓fRb_60_7, ↓fRb_60_8, ↓fRb_60_10, ↓fRb_60_11, ↓fRb_60_12, ↓fRb_60_13, ↓fRb_60_14, ↓fRb_60_16, ↓fRb_60_17, ↓fRb_60_18, ↓fRb_60_24, ↓fRb_60_25, ↓fRb_60_26, ↓fRb_60_30, ↓fRb_60_31, ↓fRb_60_36, ↓fRb_60_37, ↓fRb_60_42, ↓fRb_60_43, ↓fRb_60_44, ↓fRb_60_45, ↓aIb_61, ↓sIb_61, ↓aIb_62, ↓sIb_62, ↓aIb_63, ↓sIb_63, ↓aIb_64, ↓sIb_64, ↓aIb_65, ↓sIb_65, ↓aIb_66, ↓sIb_66, ↓aIb_67, ↓sIb_67, ↓aIb_68, ↓sIb_68, ↓aIb_69, ↓sIb_69, ↓aIb_70, ↓sIb_70, ↓aIb_71, ↓sIb_71, ↓aIb_72, ↓sIb_72, ↓aIb_73, ↓sIb_73, ↓aIb_74, ↓sIb_74, ↓aIb_75, ↓sIb_75, ↓aIb_76, ↓sIb_76, ↓aIb_77, ↓sIb_77, ↓aIb_78, ↓sIb_78, ↓aIb_79, ↓sIb_79, ↓aIb_80, ↓sIb_80, ↓aIb_81, ↓sIb_81, ↓aIb_82, ↓sIb_82, ↓aIb_83, ↓sIb_83, ↓aIb_84, ↓sIb_84, r0_60_4, r0_60_5, r0_60_6, r0_60_7, r0_60_8, r0_60_10, r0_60_11, r0_60_12, r0_60_13, r0_60_14, r0_60_16, r0_60_17, r0_60_18, r0_60_24, r0_60_25, r0_60_26, r0_60_30, r0_60_31, r0_60_36, r0_60_37, r0_60_42, r0_60_43, r0_60_44, r0_60_45, rc_60, fI_60, fR_60, pI_60, aI_61, sI_61, aI_62, sI_62, aI_63, sI_63, aI_64, sI_64, aI_65, sI_65, aI_66, sI_66, aI_67, sI_67, aI_68, sI_68, aI_69, sI_69, aI_70, sI_70, aI_71, sI_71, aI_72, sI_72, aI_73, sI_73, aI_74, sI_74, aI_75, sI_75, aI_76, sI_76, aI_77, sI_77, aI_78, sI_78, aI_79, sI_79, aI_80, sI_80, aI_81, sI_81, aI_82, sI_82, aI_83, sI_83, aI_84, sI_84, w_bind, w_bd2, b01_eq0, b01_ok, b01_ok2, w_lt, w_le, w_eq, w_mlt, w_mle, w_ltm, w_lem, w_meq, w_eqm, w_mm, w_mmlt, w_mmle, nI_add, w_sub, pk_mul, w_div, w_rem, w_and, w_or, w_shr, w_shl1, w_a31, w_andn, ↓reduceIte, Nat.reduceAdd, Nat.reduceEqDiff, Nat.zero_lt_one, Nat.not_lt_zero, Nat.one_ne_zero, Nat.zero_ne_one, not_true_eq_false, not_false_eq_true, Bool.false_eq_true, Bool.true_eq_false, n_leT, n_leF, n_ltT, n_ltF, n_eqT, n_eqF, and_true, true_and, and_false, false_and, or_true, true_or, or_false, false_or, not_true_eq_false, not_false_eq_true]
  · refine no (mI 2) ?_ (fun pl2 => ?_)
    · unfold fX8_play
      simp (discharger := omega) only [li_0, li_1, li_2, li_3, li_4, li_5, li_6, li_7, li_8, li_9, li_10, li_11, li_12, li_13, li_14, li_15, li_16, li_17, li_18, li_19, li_20, li_21, li_22, li_23, li_24, li_25, li_26, li_27, li_28, li_29, li_30, li_31, li_32, li_33, li_34, li_35, li_36, li_37, li_38, li_39, li_40, li_41, li_42, li_43, li_44, li_45, li_46, li_47, li_48, li_49, li_50, li_51, li_52, li_53, li_54, li_55, li_56, li_57, li_58, li_59, li_60, li_61, li_62, li_63, li_64, li_65, li_66, li_67, li_68, li_69, li_70, li_71, li_72, li_73, li_74, li_75, li_76, li_77, li_78, li_79, li_80, li_81, li_82, li_83, li_84, li_85, li_86, li_87, li_88, li_89, li_90, li_91, li_92, li_93, li_94, li_95, li_96, li_97, li_98, li_99, li_100, li_101, li_102, li_103, li_104, li_105, li_106, li_107, li_108, li_109, li_110, li_111, li_112, li_113, li_114, li_115, li_116, li_117, li_118, li_119, li_120, li_121, li_122, li_123, li_124, li_125, li_126, li_127, li_128, li_144, li_150, li_200, li_255, li_384, li_512, li_999, li_1000, li_1024, li_1152, li_1920, li_3776, li_4096, li_9216, li_10000, li_100000, li_1073741824, li_m, ↓rcb_0, ↓fIb_0, ↓pIb_0, ↓fRb_0_0, ↓fRb_0_1, ↓fRb_0_2, ↓fRb_0_3, ↓fRb_0_4, ↓fRb_0_5, ↓fRb_0_6, ↓fRb_0_7, r0_0_0, r0_0_1, r0_0_2, r0_0_3, r0_0_4, r0_0_5, r0_0_6, r0_0_7, r0_51_0, r0_51_1, r0_51_2, r0_51_3, rc_0, fI_0, fR_0, pI_0, aR_51, w_bind, w_bd2, b01_eq0, b01_ok, b01_ok2, w_lt, w_le, w_eq, w_mlt, w_mle, w_ltm, w_lem, w_meq, w_eqm, w_mm, w_mmlt, w_mmle, nI_add, w_sub, pk_mul, w_div, w_rem, w_and, w_or, w_shr, w_shl1, w_a31, w_andn, ↓reduceIte, Nat.reduceAdd, Nat.reduceEqDiff, Nat.zero_lt_one, Nat.not_lt_zero, Nat.one_ne_zero, Nat.zero_ne_one, not_true_eq_false, not_false_eq_true, Bool.false_eq_true, Bool.true_eq_false, n_leT, n_leF, n_ltT, n_ltF, n_eqT, n_eqF, and_true, true_and, and_false, false_and, or_true, true_or, or_false, false_or, not_true_eq_false, not_false_eq_true]
    · unfold fX9_play fX9_in
      simp (discharger := omega) only [li_0, li_1, li_2, li_3, li_4, li_5, li_6, li_7, li_8, li_9, li_10, li_11, li_12, li_13, li_14, li_15, li_16, li_17, li_18, li_19, li_20, li_21, li_22, li_23, li_24, li_25, li_26, li_27, li_28, li_29, li_30, li_31, li_32, li_33, li_34, li_35, li_36, li_37, li_38, li_39, li_40, li_41, li_42, li_43, li_44, li_45, li_46, li_47, li_48, li_49, li_50, li_51, li_52, li_53, li_54, li_55, li_56, li_57, li_58, li_59, li_60, li_61, li_62, li_63, li_64, li_65, li_66, li_67, li_68, li_69, li_70, li_71, li_72, li_73, li_74, li_75, li_76, li_77, li_78, li_79, li_80, li_81, li_82, li_83, li_84, li_85, li_86, li_87, li_88, li_89, li_90, li_91, li_92, li_93, li_94, li_95, li_96, li_97, li_98, li_99, li_100, li_101, li_102, li_103, li_104, li_105, li_106, li_107, li_108, li_109, li_110, li_111, li_112, li_113, li_114, li_115, li_116, li_117, li_118, li_119, li_120, li_121, li_122, li_123, li_124, li_125, li_126, li_127, li_128, li_144, li_150, li_200, li_255, li_384, li_512, li_999, li_1000, li_1024, li_1152, li_1920, li_3776, li_4096, li_9216, li_10000, li_100000, li_1073741824, li_m, ↓rcb_60, ↓fIb_60, ↓pIb_60, ↓fRb_60_4, ↓fRb_60_5, ↓fRb_60_6, ↓fRb_60_7, ↓fRb_60_8, ↓fRb_60_10, ↓fRb_60_11, ↓fRb_60_12, ↓fRb_60_13, ↓fRb_60_14, ↓fRb_60_16, ↓fRb_60_17, ↓fRb_60_18, ↓fRb_60_24, ↓fRb_60_25, ↓fRb_60_26, ↓fRb_60_30, ↓fRb_60_31, ↓fRb_60_36, ↓fRb_60_37, ↓fRb_60_42, ↓fRb_60_43, ↓fRb_60_44, ↓fRb_60_45, ↓aIb_61, ↓sIb_61, ↓aIb_62, ↓sIb_62, ↓aIb_63, ↓sIb_63, ↓aIb_64, ↓sIb_64, ↓aIb_65, ↓sIb_65, ↓aIb_66, ↓sIb_66, ↓aIb_67, ↓sIb_67, ↓aIb_68, ↓sIb_68, ↓aIb_69, ↓sIb_69, ↓aIb_70, ↓sIb_70, ↓aIb_71, ↓sIb_71, ↓aIb_72, ↓sIb_72, ↓aIb_73, ↓sIb_73, ↓aIb_74, ↓sIb_74, ↓aIb_75, ↓sIb_75, ↓aIb_76, ↓sIb_76, ↓aIb_77, ↓sIb_77, ↓aIb_78, ↓sIb_78, ↓aIb_79, ↓sIb_79, ↓aIb_80, ↓sIb_80, ↓aIb_81, ↓sIb_81, ↓aIb_82, ↓sIb_82, ↓aIb_83, ↓sIb_83, ↓aIb_84, ↓sIb_84, r0_60_4, r0_60_5, r0_60_6, r0_60_7, r0_60_8, r0_60_10, r0_60_11, r0_60_12, r0_60_13, r0_60_14, r0_60_16, r0_60_17, r0_60_18, r0_60_24, r0_60_25, r0_60_26, r0_60_30, r0_60_31, r0_60_36, r0_60_37, r0_60_42, r0_60_43, r0_60_44, r0_60_45, rc_60, fI_60, fR_60, pI_60, aI_61, sI_61, aI_62, sI_62, aI_63, sI_63, aI_64, sI_64, aI_65, sI_65, aI_66, sI_66, aI_67, sI_67, aI_68, sI_68, aI_69, sI_69, aI_70, sI_70, aI_71, sI_71, aI_72, sI_72, aI_73, sI_73, aI_74, sI_74, aI_75, sI_75, aI_76, sI_76, aI_77, sI_77, aI_78, sI_78, aI_79, sI_79, aI_80, sI_80, aI_81, sI_81, aI_82, sI_82, aI_83, sI_83, aI_84, sI_84, w_bind, w_bd2, b01_eq0, b01_ok, b01_ok2, w_lt, w_le, w_eq, w_mlt, w_mle, w_ltm, w_lem, w_meq, w_eqm, w_mm, w_mmlt, w_mmle, nI_add, w_sub, pk_mul, w_div, w_rem, w_and, w_or, w_shr, w_shl1, w_a31, w_andn, ↓reduceIte, Nat.reduceAdd, Nat.reduceEqDiff, Nat.zero_lt_one, Nat.not_lt_zero, Nat.one_ne_zero, Nat.zero_ne_one, not_true_eq_false, not_false_eq_true, Bool.false_eq_true, Bool.true_eq_false, n_leT, n_leF, n_ltT, n_ltF, n_eqT, n_eqF, and_true, true_and, and_false, false_and, or_true, true_or, or_false, false_or, not_true_eq_false, not_false_eq_true]
end Play
