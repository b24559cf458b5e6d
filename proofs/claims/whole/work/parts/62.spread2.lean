/-! the class: backward, the loops -/
section Spread2
variable {FU c : Nat} {P : Pln} {I J I1 : Nat → Nat → Int32} {pl nm hd rd : Option Nat}
def qIx (P : Pln) (m : Nat) : Nat := match psd P m with
  | none => 0
  | some k => k + 1
theorem qIx_ok (hW : WfP P) {m : Nat} (hw : m ≠ 0 → (m - 1) % 16 < Pn P) : qIx P m ≤ shN P (Pn P) ∧ (oI (psd P m) + nI 1) * nI 9 = nI (qIx P m * 9) := by
  unfold qIx psd
  by_cases m0 : m = 0
  · rw [if_pos m0]
    exact ⟨Nat.zero_le _, by decide⟩
  · rw [if_neg m0]
    cases e : shO P ((m - 1) % 16) with
    | none => exact ⟨Nat.zero_le _, by decide⟩
    | some k =>
      have := shO_lt (hw m0) e
      refine ⟨by simp only; omega, ?_⟩
      show (nI k + nI 1) * nI 9 = _
      rw [nI_add, pk_mul]
theorem tT_opn {m b : Nat} (hw : m ≠ 0 → (m - 1) % 16 < Pn P) : tT P (qIx P m) b = if opnM P m b = true then some (shM P m b) else none := by
  unfold qIx psd
  by_cases m0 : m = 0
  · rw [if_pos m0]
    simp [tT, opnM, shM, m0]
  · rw [if_neg m0]
    have o : opnM P m b = opn P ((m - 1) % 16) b := by
      unfold opnM
      have : (m == 0) = false := by simpa using m0
      rw [this, Bool.false_or]
    have s : shM P m b = shB b (shO P ((m - 1) % 16)) (shF (Pk P ((m - 1) % 16))) := by
      unfold shM
      rw [if_neg m0]
    rw [o, s]
    unfold opn
    cases e : shO P ((m - 1) % 16) with
    | none =>
      simp only [if_true]
      unfold tT
      rw [if_pos rfl]
      rfl
    | some k =>
      simp only
      unfold tT
      rw [if_neg (by omega), Nat.add_sub_cancel, sFn_of (hw m0) e]
      have z1 : (if k + 1 = 1 then b % 3 else b / 3) = (if k = 0 then b % 3 else b / 3) := by
        by_cases z : k = 0
        · rw [if_pos z, if_pos (by omega)]
        · rw [if_neg z, if_neg (by omega)]
      rw [z1]
      by_cases y : (if k = 0 then b % 3 else b / 3) = 0
      · rw [if_pos y, if_pos (by rw [beq_iff_eq]; exact y)]
      · rw [if_neg y, if_neg (by rw [beq_iff_eq]; exact y)]
theorem cC_r0 {h i r : Nat} : cC (h, i, r, 0, 0) = (h * 8 + i) * 8 + r := by
  unfold cC
  simp
theorem cC_r1 {h i r : Nat} : cC (h, i, r, 1, 0) = 512 + (h * 8 + i) * 8 + r := by
  unfold cC
  simp only [Nat.zero_mul, Nat.zero_add, Nat.one_mul, Nat.add_assoc]
theorem cC_pos (s : Sd) : cC s = s.2.2.2.2 * 1024 + cC (posS s) := by
  unfold cC posS
  simp only [Nat.zero_mul, Nat.zero_add]
theorem bhd_tg {s : Sd} {m x : Nat} (ht : s.2.2.2.1 < 2) (h1 : opnM P m s.2.2.2.2 = true) (h2 : tgO P (posS s) m = some x) : ∃ t, bhd P s m = some t ∧ cC (posS t) = x ∧ t.2.2.2.2 = shM P m s.2.2.2.2 := by
  unfold tgO posS at h2
  simp only at h2
  unfold bhd
  rw [if_pos h1]
  by_cases z : s.2.2.2.1 = 1
  · rw [if_pos z] at h2 ⊢
    obtain ⟨y, e1, e2⟩ := Option.map_eq_some_iff.mp h2
    rw [e1]
    refine ⟨_, rfl, ?_, rfl⟩
    show cC (s.1, s.2.1, y, 0, 0) = x
    rw [cC_r0]
    exact e2
  · rw [if_neg z] at h2 ⊢
    obtain ⟨y, e1, e2⟩ := Option.map_eq_some_iff.mp h2
    rw [e1]
    refine ⟨_, rfl, ?_, rfl⟩
    show cC (y.1, y.2, s.2.2.1, 1, 0) = x
    rw [cC_r1]
    exact e2
theorem tg_bhd {s t : Sd} {m : Nat} (h : bhd P s m = some t) : opnM P m s.2.2.2.2 = true ∧ tgO P (posS s) m = some (cC (posS t)) ∧ t.2.2.2.2 = shM P m s.2.2.2.2 := by
  unfold bhd at h
  by_cases z1 : opnM P m s.2.2.2.2 = true
  · rw [if_pos z1] at h
    refine ⟨z1, ?_⟩
    unfold tgO posS
    simp only
    by_cases z : s.2.2.2.1 = 1
    · rw [if_pos z] at h ⊢
      obtain ⟨y, e1, e2⟩ := Option.map_eq_some_iff.mp h
      rw [e1, ← e2]
      refine ⟨?_, rfl⟩
      show some ((s.1 * 8 + s.2.1) * 8 + y) = some (cC (s.1, s.2.1, y, 0, 0))
      rw [cC_r0]
    · rw [if_neg z] at h ⊢
      obtain ⟨y, e1, e2⟩ := Option.map_eq_some_iff.mp h
      rw [e1, ← e2]
      refine ⟨?_, rfl⟩
      show some (512 + (y.1 * 8 + y.2) * 8 + s.2.2.1) = some (cC (y.1, y.2, s.2.2.1, 1, 0))
      rw [cC_r1]
  · rw [if_neg z1] at h
    cases h
theorem tgO_m (hW : WfP P) {q : Sd} {m : Nat} (hq : Vd P q) (h : (tgO P q m).isSome = true) : m ≠ 0 → (m - 1) % 16 < Pn P := by
  unfold tgO at h
  split at h
  · rw [Option.isSome_map] at h
    obtain ⟨y, e⟩ := Option.isSome_iff_exists.mp h
    exact (rAft_ok hW hq.2.1 e).2
  · rw [Option.isSome_map] at h
    obtain ⟨y, e⟩ := Option.isSome_iff_exists.mp h
    exact (pAft_ok hW hq.1 e).2
/-- what is taken account of among the moves to t: edges from n on, and those of edge n - 1 with less than b shut -/
def ZZ (P : Pln) (g : Nat → Sd × Nat) (ne : Nat) (t : Sd) (n b : Nat) (Dn : Sd → Nat → Bool) : Prop := ∀ s m, Vd P s → nmet s → m ≤ 32 → bhd P s m = some t → (Dn s m = true ↔ ∃ e, e < ne ∧ g e = (posS s, m) ∧ (n ≤ e ∨ (e + 1 = n ∧ s.2.2.2.2 < b)))
/-- constants of the search -/
def CF (P : Pln) (g : Nat → Sd × Nat) (ne : Nat) (I1 : Nat → Nat → Int32) : Prop := EI P (fun _ _ => true) g ne I1 ∧ (∀ q, q ≤ shN P (Pn P) → ∀ v, v < 9 → I1 26 (q * 9 + v) = nI (mk (fun b => tT P q b == some v) (shS P))) ∧ I1 17 14 = nI (shS P)
/-- all that holds while t is read -/
def SBt (P : Pln) (g : Nat → Sd × Nat) (ne a v : Nat) (t : Sd) (n b : Nat) (I1 I : Nat → Nat → Int32) : Prop := ∃ lf qf qn Dn, BI P lf qf qn a Dn ∧ BM P lf qf qn Dn I1 I ∧ a < qn ∧ qf a = t ∧ lf t = some v ∧ ZZ P g ne t n b Dn
theorem c_spreadB (hF : 99999999 ≤ FU) (hW : WfP P) {g : Nat → Sd × Nat} {ne a v e : Nat} {t : Sd} (hC : CF P g ne I1) (he : e < ne) (ht : Vd P t) (htg : tgG P g e = cC (posS t)) (hS : SBt P g ne a v t (e + 1) 0 I1 I) {x5 : Nat} : ∃ J, SBt P g ne a v t e 0 I1 J ∧ ∀ k2 k45, fX6_spreadBackward_L82 FU k2 k45 17 (nI a) (nI (cC t)) (nI t.2.2.2.2) (nI e) (nI x5) (nI (mk (fun b => tT P (qIx P (g e).2) b == some t.2.2.2.2) (shS P))) FU (nI 0) (I, R0 pl nm hd rd) = k45 (oI (lastI (tgG P g) (cC (posS t)) e)) (nI (x5 + 1)) (J, R0 pl nm hd rd) := by
  have h9 := shS_le P
  obtain ⟨hE, h26, h14⟩ := hC
  obtain ⟨E1, E2, E3, E4, E5, E6, E7, E8, E9⟩ := hE
  have hok := (E7 e he).1
  have hqm := tgO_m hW hok.1 hok.2.2.2.2
  have hml := mk_lt (fun b => tT P (qIx P (g e).2) b == some t.2.2.2.2) (shS P)
  have hml2 : mk (fun b => tT P (qIx P (g e).2) b == some t.2.2.2.2) (shS P) < 2 ^ 9 := Nat.lt_of_lt_of_le hml (Nat.pow_le_pow_right (by decide) h9)
  have htin := Vd_in hW ht
  have hct := cC_lt htin
  have hqin := Vd_in hW hok.1
  have tge : tgO P (g e).1 (g e).2 = some (cC (posS t)) := by
    obtain ⟨y, hy⟩ := Option.isSome_iff_exists.mp hok.2.2.2.2
    rw [hy, ← htg]
    unfold tgG
    rw [hy]
    rfl
  have st : ∀ b (s : Int32 × Mem), b < shS P → (∃ T, s = (nI b, (T, R0 pl nm hd rd)) ∧ SBt P g ne a v t (e + 1) b I1 T) → ∃ s', (∃ T, s' = (nI (b + 1), (T, R0 pl nm hd rd)) ∧ SBt P g ne a v t (e + 1) (b + 1) I1 T) ∧ ∀ (K : (Int32 → Mem → Option Mem) × (Int32 → Int32 → Mem → Option Mem)) F, fX6_spreadBackward_L82 FU K.1 K.2 17 (nI a) (nI (cC t)) (nI t.2.2.2.2) (nI e) (nI x5) (nI (mk (fun b => tT P (qIx P (g e).2) b == some t.2.2.2.2) (shS P))) (F + 1) s.1 s.2 = fX6_spreadBackward_L82 FU K.1 K.2 17 (nI a) (nI (cC t)) (nI t.2.2.2.2) (nI e) (nI x5) (nI (mk (fun b => tT P (qIx P (g e).2) b == some t.2.2.2.2) (shS P))) F s'.1 s'.2 := by
    rintro b _ hb ⟨T, rfl, lf, qf, qn, Dn, hB, hM, ha, hqa, hv, hZ⟩
    have h14' : T 17 14 = nI (shS P) := by rw [hM.2.2.2.2.2.2.2 14 (by decide), h14]
    have hbit : (mk (fun b => tT P (qIx P (g e).2) b == some t.2.2.2.2) (shS P)).testBit b = (tT P (qIx P (g e).2) b == some t.2.2.2.2) := by
      rw [tb_mk]
      simp [hb]
    -- the standing from which this edge comes
    generalize hs : ((g e).1.1, (g e).1.2.1, (g e).1.2.2.1, (g e).1.2.2.2.1, b) = s
    have sv : Vd P s := by rw [← hs]; exact ⟨hok.1.1, hok.1.2.1, hok.1.2.2.1, hb⟩
    have sn : nmet s := by rw [← hs]; exact hok.2.2.1
    have sp : posS s = (g e).1 := by
      rw [← hs]
      have := hok.2.1
      unfold posS
      simp only
      rw [← this]
    have ssh : s.2.2.2.2 = b := by rw [← hs]
    have sin := Vd_in hW sv
    by_cases z : tT P (qIx P (g e).2) b = some t.2.2.2.2
    · have z1 : (tT P (qIx P (g e).2) b == some t.2.2.2.2) = true := by rw [z]; simp
      rw [z1] at hbit
      rw [tT_opn hqm] at z
      have zo : opnM P (g e).2 b = true := by
        apply Classical.byContradiction
        intro y
        rw [if_neg y] at z
        cases z
      rw [if_pos zo] at z
      have z := Option.some.inj z
      have hbh : bhd P s (g e).2 = some t := by
        obtain ⟨t', b1, b2, b3⟩ := bhd_tg (P := P) (s := s) (m := (g e).2) (x := cC (posS t)) sv.2.2.1 (by rw [ssh]; exact zo) (by rw [sp]; exact tge)
        rw [b1]
        have t'in := Vd_in hW (bhd_Vd hW sv b1)
        have e1 : cC t' = cC t := by
          rw [ssh, z] at b3
          rw [cC_pos t', cC_pos t, b2, b3]
        rw [cC_inj t'in htin e1]
      have hdn : Dn s (g e).2 = false := by
        cases y : Dn s (g e).2
        · rfl
        · obtain ⟨e', y1, y2, y3⟩ := (hZ s (g e).2 sv sn hok.2.2.2.1 hbh).mp y
          have : e' = e := E8 e' e y1 he (by rw [y2, sp])
          omega
      obtain ⟨J, lf', qf', qn', p1, p2, p3, p4, p5, p6⟩ := c_leads (FU := FU) (pl := pl) (nm := nm) (hd := hd) (rd := rd) (Dn' := fun s' m' => Dn s' m' || decide (s' = s ∧ m' = (g e).2)) hW hB hM ha sv sn hok.2.2.2.1 (by rw [hqa]; exact hbh) (by rw [hqa]; exact hv) hdn (fun _ _ => rfl)
      have l18 : T 18 (cC t) = nI v := by rw [hM.2.1 t htin ht.2.2.2, hv]; rfl
      have hv9 := (bi_len hB hM hv).1
      have t23 : T 23 e = nI (cC (g e).1) := by rw [hM.2.2.2.2.2.2.1 23 (by decide) (by decide) (by decide) (by decide), E3 e he]
      have cq : b * 1024 + cC (g e).1 = cC s := by
        rw [← sp, cC_pos s, ssh]
      have cqs := cC_lt sin
      refine ⟨(nI (b + 1), (J, R0 pl nm hd rd)), ⟨J, rfl, lf', qf', qn', _, p2, p3, by omega, by rw [p5 a ha]; exact hqa, p6 t v hv, ?_⟩, fun K F => ?_⟩
      · intro s' m' hs' hn' hm' hb'
        simp only
        rw [Bool.or_eq_true, decide_eq_true_iff, hZ s' m' hs' hn' hm' hb']
        constructor
        · rintro (⟨e', y1, y2, y3⟩ | ⟨y1, y2⟩)
          · exact ⟨e', y1, y2, by omega⟩
          · subst y1 y2
            exact ⟨e, he, by rw [sp], Or.inr ⟨rfl, by omega⟩⟩
        · rintro ⟨e', y1, y2, y3⟩
          by_cases y4 : e' + 1 = e + 1 ∧ s'.2.2.2.2 = b
          · right
            have y5 : e' = e := by omega
            rw [y5] at y2
            have y6 : (g e).1 = posS s' := by rw [y2]
            have y7 : (g e).2 = m' := by rw [y2]
            refine ⟨?_, y7.symm⟩
            have y8 : posS s' = posS s := by rw [sp, y6]
            obtain ⟨s1, s2, s3, s4, s5⟩ := s'
            obtain ⟨r1, r2, r3, r4, r5⟩ := s
            unfold posS at y8
            simp only [Prod.mk.injEq] at y8 y4 ssh ⊢
            omega
          · left
            exact ⟨e', y1, y2, by omega⟩
      · simp only
        rw [fX6_spreadBackward_L82]
        unfold fX6_spreadBackward_b127
        simp (discharger := omega) only [li_0, li_1, li_2, li_3, li_4, li_5, li_6, li_7, li_8, li_9, li_10, li_11, li_12, li_13, li_14, li_15, li_16, li_17, li_18, li_19, li_20, li_21, li_22, li_23, li_24, li_25, li_26, li_27, li_28, li_29, li_30, li_31, li_32, li_33, li_34, li_35, li_36, li_37, li_38, li_39, li_40, li_41, li_42, li_43, li_44, li_45, li_46, li_47, li_48, li_49, li_50, li_51, li_52, li_53, li_54, li_55, li_56, li_57, li_58, li_59, li_60, li_61, li_62, li_63, li_64, li_65, li_66, li_67, li_68, li_69, li_70, li_71, li_72, li_73, li_74, li_75, li_76, li_77, li_78, li_79, li_80, li_81, li_82, li_83, li_84, li_85, li_86, li_87, li_88, li_89, li_90, li_91, li_92, li_93, li_94, li_95, li_96, li_97, li_98, li_99, li_100, li_101, li_102, li_103, li_104, li_105, li_106, li_107, li_108, li_109, li_110, li_111, li_112, li_113, li_114, li_115, li_116, li_117, li_118, li_119, li_120, li_121, li_122, li_123, li_124, li_125, li_126, li_127, li_128, li_144, li_150, li_200, li_255, li_384, li_512, li_999, li_1000, li_1024, li_1152, li_1920, li_3776, li_4096, li_9216, li_10000, li_100000, li_1073741824, li_m, ↓rcb_17, ↓fIb_17, ↓pIb_17, ↓fRb_17_5, ↓fRb_17_6, ↓fRb_17_7, ↓fRb_17_9, ↓fRb_17_10, ↓fRb_17_11, ↓fRb_17_12, ↓fRb_17_15, ↓fRb_17_16, ↓fRb_17_17, ↓fRb_17_0, ↓aIb_18, ↓sIb_18, ↓aIb_19, ↓sIb_19, ↓aIb_20, ↓sIb_20, ↓aIb_21, ↓sIb_21, ↓aIb_22, ↓sIb_22, ↓aIb_23, ↓sIb_23, ↓aIb_24, ↓sIb_24, ↓aIb_25, ↓sIb_25, ↓aIb_26, ↓sIb_26, ↓aIb_27, ↓sIb_27, r0_17_5, r0_17_6, r0_17_7, r0_17_9, r0_17_10, r0_17_11, r0_17_12, r0_17_15, r0_17_16, r0_17_17, r0_17_0, rc_17, fI_17, fR_17, pI_17, pR_17, aI_18, sI_18, aI_19, sI_19, aI_20, sI_20, aI_21, sI_21, aI_22, sI_22, aI_23, sI_23, aI_24, sI_24, aI_25, sI_25, aI_26, sI_26, aI_27, sI_27, w_bind, w_bd2, b01_eq0, b01_ok, b01_ok2, w_lt, w_le, w_eq, w_mlt, w_mle, w_ltm, w_lem, w_meq, w_eqm, w_mm, w_mmlt, w_mmle, nI_add, w_sub, pk_mul, w_div, w_rem, w_and, w_or, w_shr, w_shl1, w_a31, w_andn, ↓reduceIte, Nat.reduceAdd, Nat.reduceEqDiff, Nat.zero_lt_one, Nat.not_lt_zero, Nat.one_ne_zero, Nat.zero_ne_one, not_true_eq_false, not_false_eq_true, Bool.false_eq_true, Bool.true_eq_false, h14', Nat.not_le.mpr hb, w_a1, w_bit0, hbit, t23, l18, cq, dn1 p1]
    · have z1 : (tT P (qIx P (g e).2) b == some t.2.2.2.2) = false := by simpa using z
      rw [z1] at hbit
      refine ⟨(nI (b + 1), (T, R0 pl nm hd rd)), ⟨T, rfl, lf, qf, qn, Dn, hB, hM, ha, hqa, hv, ?_⟩, fun K F => ?_⟩
      · intro s' m' hs' hn' hm' hb'
        rw [hZ s' m' hs' hn' hm' hb']
        constructor
        · rintro ⟨e', y1, y2, y3⟩
          exact ⟨e', y1, y2, by omega⟩
        · rintro ⟨e', y1, y2, y3⟩
          by_cases y4 : e' + 1 = e + 1 ∧ s'.2.2.2.2 = b
          · exfalso
            have y5 : e' = e := by omega
            rw [y5] at y2
            have y7 : (g e).2 = m' := by rw [y2]
            obtain ⟨q1, q2, q3⟩ := tg_bhd hb'
            apply z
            rw [tT_opn hqm, y7, ← y4.2, if_pos q1, q3]
          · exact ⟨e', y1, y2, by omega⟩
      · simp only
        rw [fX6_spreadBackward_L82]
        unfold fX6_spreadBackward_b127
        simp (discharger := omega) only [li_0, li_1, li_2, li_3, li_4, li_5, li_6, li_7, li_8, li_9, li_10, li_11, li_12, li_13, li_14, li_15, li_16, li_17, li_18, li_19, li_20, li_21, li_22, li_23, li_24, li_25, li_26, li_27, li_28, li_29, li_30, li_31, li_32, li_33, li_34, li_35, li_36, li_37, li_38, li_39, li_40, li_41, li_42, li_43, li_44, li_45, li_46, li_47, li_48, li_49, li_50, li_51, li_52, li_53, li_54, li_55, li_56, li_57, li_58, li_59, li_60, li_61, li_62, li_63, li_64, li_65, li_66, li_67, li_68, li_69, li_70, li_71, li_72, li_73, li_74, li_75, li_76, li_77, li_78, li_79, li_80, li_81, li_82, li_83, li_84, li_85, li_86, li_87, li_88, li_89, li_90, li_91, li_92, li_93, li_94, li_95, li_96, li_97, li_98, li_99, li_100, li_101, li_102, li_103, li_104, li_105, li_106, li_107, li_108, li_109, li_110, li_111, li_112, li_113, li_114, li_115, li_116, li_117, li_118, li_119, li_120, li_121, li_122, li_123, li_124, li_125, li_126, li_127, li_128, li_144, li_150, li_200, li_255, li_384, li_512, li_999, li_1000, li_1024, li_1152, li_1920, li_3776, li_4096, li_9216, li_10000, li_100000, li_1073741824, li_m, ↓rcb_17, ↓fIb_17, ↓pIb_17, ↓fRb_17_5, ↓fRb_17_6, ↓fRb_17_7, ↓fRb_17_9, ↓fRb_17_10, ↓fRb_17_11, ↓fRb_17_12, ↓fRb_17_15, ↓fRb_17_16, ↓fRb_17_17, ↓fRb_17_0, ↓aIb_18, ↓sIb_18, ↓aIb_19, ↓sIb_19, ↓aIb_20, ↓sIb_20, ↓aIb_21, ↓sIb_21, ↓aIb_22, ↓sIb_22, ↓aIb_23, ↓sIb_23, ↓aIb_24, ↓sIb_24, ↓aIb_25, ↓sIb_25, ↓aIb_26, ↓sIb_26, ↓aIb_27, ↓sIb_27, r0_17_5, r0_17_6, r0_17_7, r0_17_9, r0_17_10, r0_17_11, r0_17_12, r0_17_15, r0_17_16, r0_17_17, r0_17_0, rc_17, fI_17, fR_17, pI_17, pR_17, aI_18, sI_18, aI_19, sI_19, aI_20, sI_20, aI_21, sI_21, aI_22, sI_22, aI_23, sI_23, aI_24, sI_24, aI_25, sI_25, aI_26, sI_26, aI_27, sI_27, w_bind, w_bd2, b01_eq0, b01_ok, b01_ok2, w_lt, w_le, w_eq, w_mlt, w_mle, w_ltm, w_lem, w_meq, w_eqm, w_mm, w_mmlt, w_mmle, nI_add, w_sub, pk_mul, w_div, w_rem, w_and, w_or, w_shr, w_shl1, w_a31, w_andn, ↓reduceIte, Nat.reduceAdd, Nat.reduceEqDiff, Nat.zero_lt_one, Nat.not_lt_zero, Nat.one_ne_zero, Nat.zero_ne_one, not_true_eq_false, not_false_eq_true, Bool.false_eq_true, Bool.true_eq_false, h14', Nat.not_le.mpr hb, w_a1, w_bit0, hbit]
  obtain ⟨s', ⟨T, rfl, lf, qf, qn, Dn, g1, g2, g3, g4, g5, g6⟩, hl⟩ := lpK (fun (K : (Int32 → Mem → Option Mem) × (Int32 → Int32 → Mem → Option Mem)) F (s : Int32 × Mem) => fX6_spreadBackward_L82 FU K.1 K.2 17 (nI a) (nI (cC t)) (nI t.2.2.2.2) (nI e) (nI x5) (nI (mk (fun b => tT P (qIx P (g e).2) b == some t.2.2.2.2) (shS P))) F s.1 s.2) _ (shS P) st (shS P) 0 (nI 0, (I, R0 pl nm hd rd)) FU (by omega) (by omega) ⟨I, rfl, hS⟩
  refine ⟨T, ⟨lf, qf, qn, Dn, g1, g2, g3, g4, g5, ?_⟩, fun k2 k45 => ?_⟩
  · intro s' m' hs' hn' hm' hb'
    rw [g6 s' m' hs' hn' hm' hb']
    have := hs'.2.2.2
    constructor
    · rintro ⟨e', y1, y2, y3⟩
      exact ⟨e', y1, y2, by omega⟩
    · rintro ⟨e', y1, y2, y3⟩
      exact ⟨e', y1, y2, by omega⟩
  · have hl := hl (k2, k45)
    simp only at hl
    have h14' : T 17 14 = nI (shS P) := by rw [g2.2.2.2.2.2.2.2 14 (by decide), h14]
    have t22 : T 22 e = oI (lastI (tgG P g) (cC (posS t)) e) := by rw [g2.2.2.2.2.2.2.1 22 (by decide) (by decide) (by decide) (by decide), E5 e he, htg]
    obtain ⟨G, hG⟩ : ∃ G, FU - shS P = G + 1 := ⟨FU - shS P - 1, by omega⟩
    rw [hl, hG, fX6_spreadBackward_L82]
    simp (discharger := omega) only [li_0, li_1, li_2, li_3, li_4, li_5, li_6, li_7, li_8, li_9, li_10, li_11, li_12, li_13, li_14, li_15, li_16, li_17, li_18, li_19, li_20, li_21, li_22, li_23, li_24, li_25, li_26, li_27, li_28, li_29, li_30, li_31, li_32, li_33, li_34, li_35, li_36, li_37, li_38, li_39, li_40, li_41, li_42, li_43, li_44, li_45, li_46, li_47, li_48, li_49, li_50, li_51, li_52, li_53, li_54, li_55, li_56, li_57, li_58, li_59, li_60, li_61, li_62, li_63, li_64, li_65, li_66, li_67, li_68, li_69, li_70, li_71, li_72, li_73, li_74, li_75, li_76, li_77, li_78, li_79, li_80, li_81, li_82, li_83, li_84, li_85, li_86, li_87, li_88, li_89, li_90, li_91, li_92, li_93, li_94, li_95, li_96, li_97, li_98, li_99, li_100, li_101, li_102, li_103, li_104, li_105, li_106, li_107, li_108, li_109, li_110, li_111, li_112, li_113, li_114, li_115, li_116, li_117, li_118, li_119, li_120, li_121, li_122, li_123, li_124, li_125, li_126, li_127, li_128, li_144, li_150, li_200, li_255, li_384, li_512, li_999, li_1000, li_1024, li_1152, li_1920, li_3776, li_4096, li_9216, li_10000, li_100000, li_1073741824, li_m, ↓rcb_17, ↓fIb_17, ↓pIb_17, ↓fRb_17_5, ↓fRb_17_6, ↓fRb_17_7, ↓fRb_17_9, ↓fRb_17_10, ↓fRb_17_11, ↓fRb_17_12, ↓fRb_17_15, ↓fRb_17_16, ↓fRb_17_17, ↓fRb_17_0, ↓aIb_18, ↓sIb_18, ↓aIb_19, ↓sIb_19, ↓aIb_20, ↓sIb_20, ↓aIb_21, ↓sIb_21, ↓aIb_22, ↓sIb_22, ↓aIb_23, ↓sIb_23, ↓aIb_24, ↓sIb_24, ↓aIb_25, ↓sIb_25, ↓aIb_26, ↓sIb_26, ↓aIb_27, ↓sIb_27, r0_17_5, r0_17_6, r0_17_7, r0_17_9, r0_17_10, r0_17_11, r0_17_12, r0_17_15, r0_17_16, r0_17_17, r0_17_0, rc_17, fI_17, fR_17, pI_17, pR_17, aI_18, sI_18, aI_19, sI_19, aI_20, sI_20, aI_21, sI_21, aI_22, sI_22, aI_23, sI_23, aI_24, sI_24, aI_25, sI_25, aI_26, sI_26, aI_27, sI_27, w_bind, w_bd2, b01_eq0, b01_ok, b01_ok2, w_lt, w_le, w_eq, w_mlt, w_mle, w_ltm, w_lem, w_meq, w_eqm, w_mm, w_mmlt, w_mmle, nI_add, w_sub, pk_mul, w_div, w_rem, w_and, w_or, w_shr, w_shl1, w_a31, w_andn, ↓reduceIte, Nat.reduceAdd, Nat.reduceEqDiff, Nat.zero_lt_one, Nat.not_lt_zero, Nat.one_ne_zero, Nat.zero_ne_one, not_true_eq_false, not_false_eq_true, Bool.false_eq_true, Bool.true_eq_false, h14', Nat.le_refl, t22]
end Spread2
