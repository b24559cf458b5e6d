/-! the class: the caught go into the queue -/
section Queue
variable {FU c : Nat} {P : Pln} {I J I0 I1 : Nat → Nat → Int32} {pl nm hd rd : Option Nat}
def lfH (P : Pln) (H : Sd → Bool) (s : Sd) : Option Nat := if H s = true ∧ vdB P s = true ∧ cgtB P s = true then some 0 else none
theorem lfH_iff {H : Sd → Bool} {s : Sd} : lfH P H s = some 0 ↔ H s = true ∧ Vd P s ∧ Cgt P s := by
  unfold lfH
  by_cases z : H s = true ∧ vdB P s = true ∧ cgtB P s = true
  · rw [if_pos z]
    exact ⟨fun _ => ⟨z.1, vdB_iff.mp z.2.1, cgtB_iff.mp z.2.2⟩, fun _ => rfl⟩
  · rw [if_neg z]
    exact ⟨fun e => (by cases e), fun e => absurd ⟨e.1, vdB_iff.mpr e.2.1, cgtB_iff.mpr e.2.2⟩ z⟩
theorem lfH_congr {H H' : Sd → Bool} (h : ∀ s, Vd P s → Cgt P s → H s = H' s) (s : Sd) : lfH P H s = lfH P H' s := by
  unfold lfH
  by_cases z : Vd P s ∧ Cgt P s
  · rw [h s z.1 z.2]
  · rw [if_neg (fun e => z ⟨vdB_iff.mp e.2.1, cgtB_iff.mp e.2.2⟩), if_neg (fun e => z ⟨vdB_iff.mp e.2.1, cgtB_iff.mp e.2.2⟩)]
def QU (P : Pln) (H : Sd → Bool) (qf : Nat → Sd) (qn : Nat) (I1 I : Nat → Nat → Int32) : Prop :=
  I 17 8 = nI qn ∧ (∀ s, inS s → s.2.2.2.2 < shS P → I 18 (cC s) = oI (lfH P H s)) ∧ (∀ j, j < qn → I 20 j = nI (cC (qf j))) ∧
  (∀ j, j < qn → lfH P H (qf j) = some 0) ∧ (∀ s, lfH P H s = some 0 → ∃ j, j < qn ∧ qf j = s) ∧ (∀ i j, i < qn → j < qn → qf i = qf j → i = j) ∧
  qn = cnt (fun k => (lfH P H (sC k)).isSome) 9216 ∧ (∀ k, k ≠ 17 → k ≠ 18 → k ≠ 20 → I k = I1 k) ∧ (∀ i, i ≠ 8 → I 17 i = I1 17 i)
theorem QU.mono {H H' : Sd → Bool} {qf : Nat → Sd} {qn : Nat} (h : QU P H qf qn I1 I) (e : ∀ s, Vd P s → Cgt P s → H s = H' s) : QU P H' qf qn I1 I := by
  have := lfH_congr e
  unfold QU at h ⊢
  have e2 : lfH P H = lfH P H' := funext this
  rw [← e2]
  exact h
theorem q_add (hW : WfP P) {H H' : Sd → Bool} {qf : Nat → Sd} {qn : Nat} (h : QU P H qf qn I1 I) {s : Sd} (hs : Vd P s) (hc : Cgt P s) (h0 : H s = false) (hH : ∀ y, Vd P y → Cgt P y → H' y = (H y || decide (y = s))) : ∃ J, fX6_decide FU 17 (nI (cC s)) (nI 0) (I, R0 pl nm hd rd) = some (J, R0 pl nm hd rd) ∧ QU P H' (va_up qf qn s) (qn + 1) I1 J := by
  have hin := Vd_in hW hs
  have hcs := cC_lt hin
  obtain ⟨m1, m2, m3, m4, m5, m6, m7, m8, m9⟩ := h
  have l0 : lfH P H s = none := by
    unfold lfH
    rw [if_neg (by rw [h0]; simp)]
  have gn : ∀ j, j < qn → va_up qf qn s j = qf j := fun j hj => va_o (by omega)
  have gs : va_up qf qn s qn = s := va_1
  have ne : ∀ j, j < qn → qf j ≠ s := by
    intro j hj e
    have := m4 j hj
    rw [e, l0] at this
    cases this
  have ls : lfH P H' s = some 0 := by
    rw [lfH_iff]
    exact ⟨by rw [hH s hs hc]; simp, hs, hc⟩
  have lo : ∀ y, y ≠ s → lfH P H' y = lfH P H y := by
    intro y hy
    unfold lfH
    by_cases z : Vd P y ∧ Cgt P y
    · rw [hH y z.1 z.2]
      simp [hy]
    · rw [if_neg (fun e => z ⟨vdB_iff.mp e.2.1, cgtB_iff.mp e.2.2⟩), if_neg (fun e => z ⟨vdB_iff.mp e.2.1, cgtB_iff.mp e.2.2⟩)]
  have c1 : cnt (fun k => (lfH P H' (sC k)).isSome) 9216 = cnt (fun k => (lfH P H (sC k)).isSome) 9216 + 1 := by
    apply cnt_flip (m := cC s) hcs
    · intro i hi hne
      have : sC i ≠ s := by
        intro e
        apply hne
        rw [← e]
        unfold cC sC
        simp only
        omega
      rw [lo _ this]
    · rw [sC_cC hin, l0]; rfl
    · rw [sC_cC hin, ls]; rfl
  have hq : qn < 9216 := by
    have := cnt_le (fun k => (lfH P H' (sC k)).isSome) 9216
    omega
  refine ⟨_, c_decide (FU := FU) (pl := pl) (nm := nm) (hd := hd) (rd := rd) (x := nI 0) m1 hq hcs, ?_, fun y hy hy2 => ?_, fun j hj => ?_, fun j hj => ?_, fun y hy => ?_, fun i j hi hj e => ?_, by omega, fun k k1 k2 k4 => ?_, fun i hi => ?_⟩
  · rw [up2_k (by decide), up2_s]
  · rw [up2_k (by decide), up2_k (by decide)]
    by_cases z : y = s
    · subst z; rw [up2_s, ls]; rfl
    · rw [up2_i (fun q => z (cC_inj hy hin q)), m2 y hy hy2, lo y z]
  · by_cases z : j = qn
    · subst z; rw [up2_s, gs]
    · rw [up2_i z, up2_k (by decide), up2_k (by decide), m3 j (by omega), gn j (by omega)]
  · by_cases z : j = qn
    · subst z; rw [gs, ls]
    · rw [gn j (by omega), lo _ (ne j (by omega))]; exact m4 j (by omega)
  · by_cases z : y = s
    · subst z; exact ⟨qn, by omega, gs⟩
    · rw [lo y z] at hy
      obtain ⟨j, j1, j2⟩ := m5 y hy
      exact ⟨j, by omega, by rw [gn j j1]; exact j2⟩
  · by_cases z : i = qn
    · by_cases y : j = qn
      · omega
      · rw [z, gs, gn j (by omega)] at e
        exact absurd e.symm (ne j (by omega))
    · by_cases y : j = qn
      · rw [y, gs, gn i (by omega)] at e
        exact absurd e (ne i (by omega))
      · rw [gn i (by omega), gn j (by omega)] at e
        exact m6 i j (by omega) (by omega) e
  · rw [up2_ne k4, up2_ne k1, up2_ne k2, m8 k k1 k2 k4]
  · rw [up2_k (by decide), up2_i hi, up2_k (by decide), m9 i hi]
/-- handled: pairs below x; of x runners below r; of r shuts below b; of b turns below u -/
def HQ (x r b u : Nat) (s : Sd) : Bool := decide (s.1 * 8 + s.2.1 < x ∨ (s.1 * 8 + s.2.1 = x ∧ (s.2.2.1 < r ∨ (s.2.2.1 = r ∧ (s.2.2.2.2 < b ∨ (s.2.2.2.2 = b ∧ s.2.2.2.1 < u))))))
theorem sd_eq5 {q : Sd} {a b r t sh : Nat} (h1 : q.1 * 8 + q.2.1 = a * 8 + b) (h2 : q.2.1 < 8) (h3 : b < 8) (h4 : q.2.2.1 = r) (h5 : q.2.2.2.1 = t) (h6 : q.2.2.2.2 = sh) : q = (a, b, r, t, sh) := by
  obtain ⟨q1, q2, q3, q4, q5⟩ := q
  simp only at h1 h2 h4 h5 h6
  rw [Prod.mk.injEq, Prod.mk.injEq, Prod.mk.injEq, Prod.mk.injEq]
  omega
/-- one standing of a turn: it goes in, or it isn't caught -/
theorem q_one (hW : WfP P) {h i r b u : Nat} {qf : Nat → Sd} {qn : Nat} (hv : Vd P (h, i, r, u, b)) (hQ : QU P (HQ (h * 8 + i) r b u) qf qn I1 I) : (Cgt P (h, i, r, u, b) → ∃ J qf' qn', fX6_decide FU 17 (nI (b * 1024 + (u * 512 + ((h * 8 + i) * 8 + r)))) (nI 0) (I, R0 pl nm hd rd) = some (J, R0 pl nm hd rd) ∧ QU P (HQ (h * 8 + i) r b (u + 1)) qf' qn' I1 J) ∧ (¬ Cgt P (h, i, r, u, b) → QU P (HQ (h * 8 + i) r b (u + 1)) qf qn I1 I) := by
  have hin := Vd_in hW hv
  have hi8 := hin.2.1
  have key : ∀ y, Vd P y → (HQ (h * 8 + i) r b (u + 1) y = (HQ (h * 8 + i) r b u y || decide (y = (h, i, r, u, b)))) := by
    intro y hy
    have b1 := Vd_in hW hy
    obtain ⟨a1, a2, a3, a4, a5⟩ := b1
    unfold HQ
    rw [Bool.eq_iff_iff, Bool.or_eq_true, decide_eq_true_iff, decide_eq_true_iff, decide_eq_true_iff]
    constructor
    · intro z
      by_cases z2 : y.1 * 8 + y.2.1 = h * 8 + i ∧ y.2.2.1 = r ∧ y.2.2.2.2 = b ∧ y.2.2.2.1 = u
      · right
        exact sd_eq5 z2.1 a2 hi8 z2.2.1 z2.2.2.2 z2.2.2.1
      · left; omega
    · rintro (z | z)
      · omega
      · subst z
        exact Or.inr ⟨rfl, Or.inr ⟨rfl, Or.inr ⟨rfl, Nat.lt_succ_self _⟩⟩⟩
  constructor
  · intro hc
    obtain ⟨J, j1, j2⟩ := q_add (FU := FU) (pl := pl) (nm := nm) (hd := hd) (rd := rd) hW hQ hv hc (by unfold HQ; simp) (fun y hy _ => key y hy)
    refine ⟨J, _, _, ?_, j2⟩
    exact j1
  · intro hc
    apply hQ.mono
    intro y hy hcy
    rw [key y hy]
    have : y ≠ (h, i, r, u, b) := fun z => hc (z ▸ hcy)
    simp [this]
theorem c_queueCaught (hF : 99999999 ≤ FU) (hc : c = 1 ∨ c = 9) (hW : WfP P) {g : Nat → Sd × Nat} {ne : Nat} (hL : LI P I0 (fun _ _ => true) g ne I1) (hP : PlC c P I0) (h14 : I0 17 14 = nI (shS P)) {h i : Nat} (hpr : isPr P h i = true) {qf : Nat → Sd} {qn : Nat} (hQ : QU P (HQ (h * 8 + i) 0 0 0) qf qn I1 I) : ∃ J qf' qn', fX6_queueCaught FU 17 (nI (h * 8 + i)) (I, R0 (some c) nm hd rd) = some (J, R0 (some c) nm hd rd) ∧ QU P (HQ (h * 8 + i + 1) 0 0 0) qf' qn' I1 J := by
  have hp := wf_p hW
  have h9 := shS_le P
  have hpr' := isPr_iff.mp hpr
  have hpl := plc_lt (h := h) (i := i) (by omega) (by omega)
  have P1 : PlC c P I1 := hL.pl hc hP
  have h141 : I1 17 14 = nI (shS P) := by rw [hL.2.2.1 14 (by decide), h14]
  have PT : ∀ {H qf qn T}, QU P H qf qn I1 T → PlC c P T := by
    intro H qf qn T hT
    exact P1.congr (fun k _ _ => hT.2.2.2.2.2.2.2.1 k (by omega) (by omega) (by omega))
  have inner : ∀ r, r < Pp P → ∀ T qf qn, QU P (HQ (h * 8 + i) r 0 0) qf qn I1 T → ∃ J qf' qn', QU P (HQ (h * 8 + i) (r + 1) 0 0) qf' qn' I1 J ∧ ∀ K, fX6_queueCaught_L36 FU K 17 (nI (h * 8 + i)) (nI (plcM h i)) (nI r) (b01 (h = r ∨ i = r)) FU (nI 0) (T, R0 (some c) nm hd rd) = K (nI (r + 1)) (J, R0 (some c) nm hd rd) := by
    intro r hr T0 qf0 qn0 hQ0
    have st : ∀ b (s : Int32 × Mem), b < shS P → (∃ T qf qn, s = (nI b, (T, R0 (some c) nm hd rd)) ∧ QU P (HQ (h * 8 + i) r b 0) qf qn I1 T) → ∃ s', (∃ T qf qn, s' = (nI (b + 1), (T, R0 (some c) nm hd rd)) ∧ QU P (HQ (h * 8 + i) r (b + 1) 0) qf qn I1 T) ∧ ∀ (K : Int32 → Mem → Option Mem) F, fX6_queueCaught_L36 FU K 17 (nI (h * 8 + i)) (nI (plcM h i)) (nI r) (b01 (h = r ∨ i = r)) (F + 1) s.1 s.2 = fX6_queueCaught_L36 FU K 17 (nI (h * 8 + i)) (nI (plcM h i)) (nI r) (b01 (h = r ∨ i = r)) F s'.1 s'.2 := by
      rintro b _ hb ⟨T, qf, qn, rfl, hT⟩
      have v0 : Vd P (h, i, r, 0, b) := ⟨hpr, hr, Nat.zero_lt_two, hb⟩
      have v1 : Vd P (h, i, r, 1, b) := ⟨hpr, hr, Nat.one_lt_two, hb⟩
      have T14 : T 17 14 = nI (shS P) := by rw [hT.2.2.2.2.2.2.2.2 14 (by decide), h141]
      have last : ∀ {T' qf' qn'}, QU P (HQ (h * 8 + i) r b 2) qf' qn' I1 T' → QU P (HQ (h * 8 + i) r (b + 1) 0) qf' qn' I1 T' := by
        intro T' qf' qn' hq
        apply hq.mono
        intro y hy _
        have a4 := (Vd_in hW hy).2.2.2.1
        unfold HQ
        apply decide_eq_decide.mpr
        constructor <;> intro z <;> omega
      have ix0 : b * 1024 + (h * 8 + i) * 8 + r = b * 1024 + (0 * 512 + ((h * 8 + i) * 8 + r)) := by omega
      have ix1 : b * 1024 + (h * 8 + i) * 8 + r + 512 = b * 1024 + (1 * 512 + ((h * 8 + i) * 8 + r)) := (by intro x y z; rw [Nat.one_mul]; omega : ∀ x y z : Nat, x + y + z + 512 = x + (1 * 512 + (y + z))) _ _ _
      by_cases met : h = r ∨ i = r
      · have c0 : Cgt P (h, i, r, 0, b) := met.elim Or.inl (fun z => Or.inr (Or.inl z))
        have c1 : Cgt P (h, i, r, 1, b) := met.elim Or.inl (fun z => Or.inr (Or.inl z))
        obtain ⟨J, qf1, qn1, j1, j2⟩ := (q_one (FU := FU) (pl := some c) (nm := nm) (hd := hd) (rd := rd) hW v0 hT).1 c0
        obtain ⟨J', qf2, qn2, i1, i2⟩ := (q_one (FU := FU) (pl := some c) (nm := nm) (hd := hd) (rd := rd) hW v1 j2).1 c1
        refine ⟨(nI (b + 1), (J', R0 (some c) nm hd rd)), ⟨J', qf2, qn2, rfl, last i2⟩, fun K F => ?_⟩
        rw [← ix0] at j1
        rw [← ix1] at i1
        simp only
        rw [fX6_queueCaught_L36]
        unfold fX6_queueCaught_b72 fX6_queueCaught_b91 fX6_queueCaught_b102
        simp (discharger := omega) only [li_0, li_1, li_2, li_3, li_4, li_5, li_6, li_7, li_8, li_9, li_10, li_11, li_12, li_13, li_14, li_15, li_16, li_17, li_18, li_19, li_20, li_21, li_22, li_23, li_24, li_25, li_26, li_27, li_28, li_29, li_30, li_31, li_32, li_33, li_34, li_35, li_36, li_37, li_38, li_39, li_40, li_41, li_42, li_43, li_44, li_45, li_46, li_47, li_48, li_49, li_50, li_51, li_52, li_53, li_54, li_55, li_56, li_57, li_58, li_59, li_60, li_61, li_62, li_63, li_64, li_65, li_66, li_67, li_68, li_69, li_70, li_71, li_72, li_73, li_74, li_75, li_76, li_77, li_78, li_79, li_80, li_81, li_82, li_83, li_84, li_85, li_86, li_87, li_88, li_89, li_90, li_91, li_92, li_93, li_94, li_95, li_96, li_97, li_98, li_99, li_100, li_101, li_102, li_103, li_104, li_105, li_106, li_107, li_108, li_109, li_110, li_111, li_112, li_113, li_114, li_115, li_116, li_117, li_118, li_119, li_120, li_121, li_122, li_123, li_124, li_125, li_126, li_127, li_128, li_144, li_150, li_200, li_255, li_384, li_512, li_999, li_1000, li_1024, li_1152, li_1920, li_3776, li_4096, li_9216, li_10000, li_100000, li_1073741824, li_m, ↓rcb_17, ↓fIb_17, ↓pIb_17, ↓fRb_17_5, ↓fRb_17_6, ↓fRb_17_7, ↓fRb_17_9, ↓fRb_17_10, ↓fRb_17_11, ↓fRb_17_12, ↓fRb_17_15, ↓fRb_17_16, ↓fRb_17_17, ↓fRb_17_0, ↓aIb_18, ↓sIb_18, ↓aIb_19, ↓sIb_19, ↓aIb_20, ↓sIb_20, ↓aIb_21, ↓sIb_21, ↓aIb_22, ↓sIb_22, ↓aIb_23, ↓sIb_23, ↓aIb_24, ↓sIb_24, ↓aIb_25, ↓sIb_25, ↓aIb_26, ↓sIb_26, ↓aIb_27, ↓sIb_27, r0_17_5, r0_17_6, r0_17_7, r0_17_9, r0_17_10, r0_17_11, r0_17_12, r0_17_15, r0_17_16, r0_17_17, r0_17_0, rc_17, fI_17, fR_17, pI_17, pR_17, aI_18, sI_18, aI_19, sI_19, aI_20, sI_20, aI_21, sI_21, aI_22, sI_22, aI_23, sI_23, aI_24, sI_24, aI_25, sI_25, aI_26, sI_26, aI_27, sI_27, w_bind, w_bd2, b01_eq0, b01_ok, b01_ok2, w_lt, w_le, w_eq, w_mlt, w_mle, w_ltm, w_lem, w_meq, w_eqm, w_mm, w_mmlt, w_mmle, nI_add, w_sub, pk_mul, w_div, w_rem, w_and, w_or, w_shr, w_shl1, w_a31, w_andn, ↓reduceIte, Nat.reduceAdd, Nat.reduceEqDiff, Nat.zero_lt_one, Nat.not_lt_zero, Nat.one_ne_zero, Nat.zero_ne_one, not_true_eq_false, not_false_eq_true, Bool.false_eq_true, Bool.true_eq_false, T14, Nat.not_le.mpr hb, met, dn1 j1, dn1 i1]
      · have hnm : nmet (h, i, r, 1, b) := ⟨fun z => met (Or.inl z), fun z => met (Or.inr z)⟩
        have c0 : ¬ Cgt P (h, i, r, 0, b) := by
          rintro (z | z | z)
          · exact met (Or.inl z)
          · exact met (Or.inr z)
          · exact absurd z.1 Nat.zero_ne_one
        have j2 := (q_one (FU := FU) (pl := some c) (nm := nm) (hd := hd) (rd := rd) hW v0 hT).2 c0
        have e19 := hL.2.2.2 (h, i, r, 1, b) v1 rfl hnm
        have nm0 : cnt (fun m => (bhd P (h, i, r, 1, b) m).isSome && true) 33 = nMv P (h, i, r, 1, b) := by
          unfold nMv
          apply cnt_congr
          intro m _
          rw [Bool.and_true]
        have nle : nMv P (h, i, r, 1, b) ≤ 33 := cnt_le _ _
        rw [nm0] at e19
        have T19 : T 19 (b * 1024 + (h * 8 + i) * 8 + r + 512) = nI (nMv P (h, i, r, 1, b)) := by
          rw [hT.2.2.2.2.2.2.2.1 19 (by decide) (by decide) (by decide), ix1]
          exact e19
        have cg : Cgt P (h, i, r, 1, b) ↔ nMv P (h, i, r, 1, b) = 0 := by
          rw [← cgtB_iff]
          unfold cgtB
          simp only [Bool.or_eq_true, beq_iff_eq, Bool.and_eq_true]
          constructor
          · rintro (z | z | z)
            · exact absurd (Or.inl z) met
            · exact absurd (Or.inr z) met
            · exact z.2
          · intro z
            exact Or.inr (Or.inr ⟨trivial, z⟩)
        by_cases z : nMv P (h, i, r, 1, b) = 0
        · obtain ⟨J', qf2, qn2, i1, i2⟩ := (q_one (FU := FU) (pl := some c) (nm := nm) (hd := hd) (rd := rd) hW v1 j2).1 (cg.mpr z)
          refine ⟨(nI (b + 1), (J', R0 (some c) nm hd rd)), ⟨J', qf2, qn2, rfl, last i2⟩, fun K F => ?_⟩
          rw [← ix1] at i1
          simp only
          rw [fX6_queueCaught_L36]
          unfold fX6_queueCaught_b72 fX6_queueCaught_b91 fX6_queueCaught_b102
          simp (discharger := omega) only [li_0, li_1, li_2, li_3, li_4, li_5, li_6, li_7, li_8, li_9, li_10, li_11, li_12, li_13, li_14, li_15, li_16, li_17, li_18, li_19, li_20, li_21, li_22, li_23, li_24, li_25, li_26, li_27, li_28, li_29, li_30, li_31, li_32, li_33, li_34, li_35, li_36, li_37, li_38, li_39, li_40, li_41, li_42, li_43, li_44, li_45, li_46, li_47, li_48, li_49, li_50, li_51, li_52, li_53, li_54, li_55, li_56, li_57, li_58, li_59, li_60, li_61, li_62, li_63, li_64, li_65, li_66, li_67, li_68, li_69, li_70, li_71, li_72, li_73, li_74, li_75, li_76, li_77, li_78, li_79, li_80, li_81, li_82, li_83, li_84, li_85, li_86, li_87, li_88, li_89, li_90, li_91, li_92, li_93, li_94, li_95, li_96, li_97, li_98, li_99, li_100, li_101, li_102, li_103, li_104, li_105, li_106, li_107, li_108, li_109, li_110, li_111, li_112, li_113, li_114, li_115, li_116, li_117, li_118, li_119, li_120, li_121, li_122, li_123, li_124, li_125, li_126, li_127, li_128, li_144, li_150, li_200, li_255, li_384, li_512, li_999, li_1000, li_1024, li_1152, li_1920, li_3776, li_4096, li_9216, li_10000, li_100000, li_1073741824, li_m, ↓rcb_17, ↓fIb_17, ↓pIb_17, ↓fRb_17_5, ↓fRb_17_6, ↓fRb_17_7, ↓fRb_17_9, ↓fRb_17_10, ↓fRb_17_11, ↓fRb_17_12, ↓fRb_17_15, ↓fRb_17_16, ↓fRb_17_17, ↓fRb_17_0, ↓aIb_18, ↓sIb_18, ↓aIb_19, ↓sIb_19, ↓aIb_20, ↓sIb_20, ↓aIb_21, ↓sIb_21, ↓aIb_22, ↓sIb_22, ↓aIb_23, ↓sIb_23, ↓aIb_24, ↓sIb_24, ↓aIb_25, ↓sIb_25, ↓aIb_26, ↓sIb_26, ↓aIb_27, ↓sIb_27, r0_17_5, r0_17_6, r0_17_7, r0_17_9, r0_17_10, r0_17_11, r0_17_12, r0_17_15, r0_17_16, r0_17_17, r0_17_0, rc_17, fI_17, fR_17, pI_17, pR_17, aI_18, sI_18, aI_19, sI_19, aI_20, sI_20, aI_21, sI_21, aI_22, sI_22, aI_23, sI_23, aI_24, sI_24, aI_25, sI_25, aI_26, sI_26, aI_27, sI_27, w_bind, w_bd2, b01_eq0, b01_ok, b01_ok2, w_lt, w_le, w_eq, w_mlt, w_mle, w_ltm, w_lem, w_meq, w_eqm, w_mm, w_mmlt, w_mmle, nI_add, w_sub, pk_mul, w_div, w_rem, w_and, w_or, w_shr, w_shl1, w_a31, w_andn, ↓reduceIte, Nat.reduceAdd, Nat.reduceEqDiff, Nat.zero_lt_one, Nat.not_lt_zero, Nat.one_ne_zero, Nat.zero_ne_one, not_true_eq_false, not_false_eq_true, Bool.false_eq_true, Bool.true_eq_false, T14, Nat.not_le.mpr hb, met, T19, z, dn1 i1]
        · have i2 := (q_one (FU := FU) (pl := some c) (nm := nm) (hd := hd) (rd := rd) hW v1 j2).2 (fun y => z (cg.mp y))
          refine ⟨(nI (b + 1), (T, R0 (some c) nm hd rd)), ⟨T, _, _, rfl, last i2⟩, fun K F => ?_⟩
          simp only
          rw [fX6_queueCaught_L36]
          unfold fX6_queueCaught_b72 fX6_queueCaught_b91 fX6_queueCaught_b102
          simp (discharger := omega) only [li_0, li_1, li_2, li_3, li_4, li_5, li_6, li_7, li_8, li_9, li_10, li_11, li_12, li_13, li_14, li_15, li_16, li_17, li_18, li_19, li_20, li_21, li_22, li_23, li_24, li_25, li_26, li_27, li_28, li_29, li_30, li_31, li_32, li_33, li_34, li_35, li_36, li_37, li_38, li_39, li_40, li_41, li_42, li_43, li_44, li_45, li_46, li_47, li_48, li_49, li_50, li_51, li_52, li_53, li_54, li_55, li_56, li_57, li_58, li_59, li_60, li_61, li_62, li_63, li_64, li_65, li_66, li_67, li_68, li_69, li_70, li_71, li_72, li_73, li_74, li_75, li_76, li_77, li_78, li_79, li_80, li_81, li_82, li_83, li_84, li_85, li_86, li_87, li_88, li_89, li_90, li_91, li_92, li_93, li_94, li_95, li_96, li_97, li_98, li_99, li_100, li_101, li_102, li_103, li_104, li_105, li_106, li_107, li_108, li_109, li_110, li_111, li_112, li_113, li_114, li_115, li_116, li_117, li_118, li_119, li_120, li_121, li_122, li_123, li_124, li_125, li_126, li_127, li_128, li_144, li_150, li_200, li_255, li_384, li_512, li_999, li_1000, li_1024, li_1152, li_1920, li_3776, li_4096, li_9216, li_10000, li_100000, li_1073741824, li_m, ↓rcb_17, ↓fIb_17, ↓pIb_17, ↓fRb_17_5, ↓fRb_17_6, ↓fRb_17_7, ↓fRb_17_9, ↓fRb_17_10, ↓fRb_17_11, ↓fRb_17_12, ↓fRb_17_15, ↓fRb_17_16, ↓fRb_17_17, ↓fRb_17_0, ↓aIb_18, ↓sIb_18, ↓aIb_19, ↓sIb_19, ↓aIb_20, ↓sIb_20, ↓aIb_21, ↓sIb_21, ↓aIb_22, ↓sIb_22, ↓aIb_23, ↓sIb_23, ↓aIb_24, ↓sIb_24, ↓aIb_25, ↓sIb_25, ↓aIb_26, ↓sIb_26, ↓aIb_27, ↓sIb_27, r0_17_5, r0_17_6, r0_17_7, r0_17_9, r0_17_10, r0_17_11, r0_17_12, r0_17_15, r0_17_16, r0_17_17, r0_17_0, rc_17, fI_17, fR_17, pI_17, pR_17, aI_18, sI_18, aI_19, sI_19, aI_20, sI_20, aI_21, sI_21, aI_22, sI_22, aI_23, sI_23, aI_24, sI_24, aI_25, sI_25, aI_26, sI_26, aI_27, sI_27, w_bind, w_bd2, b01_eq0, b01_ok, b01_ok2, w_lt, w_le, w_eq, w_mlt, w_mle, w_ltm, w_lem, w_meq, w_eqm, w_mm, w_mmlt, w_mmle, nI_add, w_sub, pk_mul, w_div, w_rem, w_and, w_or, w_shr, w_shl1, w_a31, w_andn, ↓reduceIte, Nat.reduceAdd, Nat.reduceEqDiff, Nat.zero_lt_one, Nat.not_lt_zero, Nat.one_ne_zero, Nat.zero_ne_one, not_true_eq_false, not_false_eq_true, Bool.false_eq_true, Bool.true_eq_false, T14, Nat.not_le.mpr hb, met, T19, z]
    obtain ⟨s', ⟨T, qf, qn, rfl, g1⟩, hl⟩ := lpK (fun K F (s : Int32 × Mem) => fX6_queueCaught_L36 FU K 17 (nI (h * 8 + i)) (nI (plcM h i)) (nI r) (b01 (h = r ∨ i = r)) F s.1 s.2) _ (shS P) st (shS P) 0 (nI 0, (T0, R0 (some c) nm hd rd)) FU (by omega) (by omega) ⟨T0, qf0, qn0, rfl, hQ0⟩
    refine ⟨T, qf, qn, g1.mono (fun y hy _ => ?_), fun K => ?_⟩
    · have a5 := hy.2.2.2
      unfold HQ
      apply decide_eq_decide.mpr
      constructor <;> intro z <;> omega
    · have hl := hl K
      simp only at hl
      have T14 : T 17 14 = nI (shS P) := by rw [g1.2.2.2.2.2.2.2.2 14 (by decide), h141]
      obtain ⟨G, hG⟩ : ∃ G, FU - shS P = G + 1 := ⟨FU - shS P - 1, by omega⟩
      rw [hl, hG, fX6_queueCaught_L36]
      simp (discharger := omega) only [li_0, li_1, li_2, li_3, li_4, li_5, li_6, li_7, li_8, li_9, li_10, li_11, li_12, li_13, li_14, li_15, li_16, li_17, li_18, li_19, li_20, li_21, li_22, li_23, li_24, li_25, li_26, li_27, li_28, li_29, li_30, li_31, li_32, li_33, li_34, li_35, li_36, li_37, li_38, li_39, li_40, li_41, li_42, li_43, li_44, li_45, li_46, li_47, li_48, li_49, li_50, li_51, li_52, li_53, li_54, li_55, li_56, li_57, li_58, li_59, li_60, li_61, li_62, li_63, li_64, li_65, li_66, li_67, li_68, li_69, li_70, li_71, li_72, li_73, li_74, li_75, li_76, li_77, li_78, li_79, li_80, li_81, li_82, li_83, li_84, li_85, li_86, li_87, li_88, li_89, li_90, li_91, li_92, li_93, li_94, li_95, li_96, li_97, li_98, li_99, li_100, li_101, li_102, li_103, li_104, li_105, li_106, li_107, li_108, li_109, li_110, li_111, li_112, li_113, li_114, li_115, li_116, li_117, li_118, li_119, li_120, li_121, li_122, li_123, li_124, li_125, li_126, li_127, li_128, li_144, li_150, li_200, li_255, li_384, li_512, li_999, li_1000, li_1024, li_1152, li_1920, li_3776, li_4096, li_9216, li_10000, li_100000, li_1073741824, li_m, ↓rcb_17, ↓fIb_17, ↓pIb_17, ↓fRb_17_5, ↓fRb_17_6, ↓fRb_17_7, ↓fRb_17_9, ↓fRb_17_10, ↓fRb_17_11, ↓fRb_17_12, ↓fRb_17_15, ↓fRb_17_16, ↓fRb_17_17, ↓fRb_17_0, ↓aIb_18, ↓sIb_18, ↓aIb_19, ↓sIb_19, ↓aIb_20, ↓sIb_20, ↓aIb_21, ↓sIb_21, ↓aIb_22, ↓sIb_22, ↓aIb_23, ↓sIb_23, ↓aIb_24, ↓sIb_24, ↓aIb_25, ↓sIb_25, ↓aIb_26, ↓sIb_26, ↓aIb_27, ↓sIb_27, r0_17_5, r0_17_6, r0_17_7, r0_17_9, r0_17_10, r0_17_11, r0_17_12, r0_17_15, r0_17_16, r0_17_17, r0_17_0, rc_17, fI_17, fR_17, pI_17, pR_17, aI_18, sI_18, aI_19, sI_19, aI_20, sI_20, aI_21, sI_21, aI_22, sI_22, aI_23, sI_23, aI_24, sI_24, aI_25, sI_25, aI_26, sI_26, aI_27, sI_27, w_bind, w_bd2, b01_eq0, b01_ok, b01_ok2, w_lt, w_le, w_eq, w_mlt, w_mle, w_ltm, w_lem, w_meq, w_eqm, w_mm, w_mmlt, w_mmle, nI_add, w_sub, pk_mul, w_div, w_rem, w_and, w_or, w_shr, w_shl1, w_a31, w_andn, ↓reduceIte, Nat.reduceAdd, Nat.reduceEqDiff, Nat.zero_lt_one, Nat.not_lt_zero, Nat.one_ne_zero, Nat.zero_ne_one, not_true_eq_false, not_false_eq_true, Bool.false_eq_true, Bool.true_eq_false, T14, Nat.le_refl]
  have st : ∀ r (s : Int32 × Mem), r < Pp P → (∃ T qf qn, s = (nI r, (T, R0 (some c) nm hd rd)) ∧ QU P (HQ (h * 8 + i) r 0 0) qf qn I1 T) → ∃ s', (∃ T qf qn, s' = (nI (r + 1), (T, R0 (some c) nm hd rd)) ∧ QU P (HQ (h * 8 + i) (r + 1) 0 0) qf qn I1 T) ∧ ∀ F, fX6_queueCaught_L7 FU 17 (nI (h * 8 + i)) (nI (plcM h i)) (F + 1) s.1 s.2 = fX6_queueCaught_L7 FU 17 (nI (h * 8 + i)) (nI (plcM h i)) F s'.1 s'.2 := by
    rintro r _ hr ⟨T, qf, qn, rfl, hT⟩
    have a0 := (PT hT).1
    obtain ⟨J, qf', qn', i1, i2⟩ := inner r hr T qf qn hT
    refine ⟨(nI (r + 1), (J, R0 (some c) nm hd rd)), ⟨J, qf', qn', rfl, i1⟩, fun F => ?_⟩
    have tb := tb_plc h i r
    simp only
    rw [fX6_queueCaught_L7]
    unfold fX6_queueCaught_b31
    by_cases met : h = r ∨ i = r
    · have z : (plcM h i).testBit r = true := by
        rw [tb, Bool.or_eq_true, decide_eq_true_iff, decide_eq_true_iff]; exact met
      rw [b01_pos met] at i2
      simp (discharger := omega) only [li_0, li_1, li_2, li_3, li_4, li_5, li_6, li_7, li_8, li_9, li_10, li_11, li_12, li_13, li_14, li_15, li_16, li_17, li_18, li_19, li_20, li_21, li_22, li_23, li_24, li_25, li_26, li_27, li_28, li_29, li_30, li_31, li_32, li_33, li_34, li_35, li_36, li_37, li_38, li_39, li_40, li_41, li_42, li_43, li_44, li_45, li_46, li_47, li_48, li_49, li_50, li_51, li_52, li_53, li_54, li_55, li_56, li_57, li_58, li_59, li_60, li_61, li_62, li_63, li_64, li_65, li_66, li_67, li_68, li_69, li_70, li_71, li_72, li_73, li_74, li_75, li_76, li_77, li_78, li_79, li_80, li_81, li_82, li_83, li_84, li_85, li_86, li_87, li_88, li_89, li_90, li_91, li_92, li_93, li_94, li_95, li_96, li_97, li_98, li_99, li_100, li_101, li_102, li_103, li_104, li_105, li_106, li_107, li_108, li_109, li_110, li_111, li_112, li_113, li_114, li_115, li_116, li_117, li_118, li_119, li_120, li_121, li_122, li_123, li_124, li_125, li_126, li_127, li_128, li_144, li_150, li_200, li_255, li_384, li_512, li_999, li_1000, li_1024, li_1152, li_1920, li_3776, li_4096, li_9216, li_10000, li_100000, li_1073741824, li_m, ↓rcb_17, ↓fIb_17, ↓pIb_17, ↓fRb_17_5, ↓fRb_17_6, ↓fRb_17_7, ↓fRb_17_9, ↓fRb_17_10, ↓fRb_17_11, ↓fRb_17_12, ↓fRb_17_15, ↓fRb_17_16, ↓fRb_17_17, ↓fRb_17_0, ↓aIb_18, ↓sIb_18, ↓aIb_19, ↓sIb_19, ↓aIb_20, ↓sIb_20, ↓aIb_21, ↓sIb_21, ↓aIb_22, ↓sIb_22, ↓aIb_23, ↓sIb_23, ↓aIb_24, ↓sIb_24, ↓aIb_25, ↓sIb_25, ↓aIb_26, ↓sIb_26, ↓aIb_27, ↓sIb_27, r0_17_5, r0_17_6, r0_17_7, r0_17_9, r0_17_10, r0_17_11, r0_17_12, r0_17_15, r0_17_16, r0_17_17, r0_17_0, rc_17, fI_17, fR_17, pI_17, pR_17, aI_18, sI_18, aI_19, sI_19, aI_20, sI_20, aI_21, sI_21, aI_22, sI_22, aI_23, sI_23, aI_24, sI_24, aI_25, sI_25, aI_26, sI_26, aI_27, sI_27, ↓rcb_P hc, ↓fIb_P hc, ↓pIb_P hc, ↓fRb_P1 hc, ↓aIb_P1 hc, ↓sIb_P1 hc, ↓fRb_P2 hc, ↓aIb_P2 hc, ↓sIb_P2 hc, ↓fRb_P3 hc, ↓aIb_P3 hc, ↓sIb_P3 hc, ↓fRb_P4 hc, ↓aIb_P4 hc, ↓sIb_P4 hc, ↓fRb_P5 hc, ↓aIb_P5 hc, ↓sIb_P5 hc, ↓fRb_P6 hc, ↓aIb_P6 hc, ↓sIb_P6 hc, ↓fRb_P7 hc, ↓aIb_P7 hc, ↓sIb_P7 hc, rc_P hc, fI_P hc, fR_P hc, pI_P hc, r0_P1 hc, aI_P1 hc, sI_P1 hc, r0_P2 hc, aI_P2 hc, sI_P2 hc, r0_P3 hc, aI_P3 hc, sI_P3 hc, r0_P4 hc, aI_P4 hc, sI_P4 hc, r0_P5 hc, aI_P5 hc, sI_P5 hc, r0_P6 hc, aI_P6 hc, sI_P6 hc, r0_P7 hc, aI_P7 hc, sI_P7 hc, w_bind, w_bd2, b01_eq0, b01_ok, b01_ok2, w_lt, w_le, w_eq, w_mlt, w_mle, w_ltm, w_lem, w_meq, w_eqm, w_mm, w_mmlt, w_mmle, nI_add, w_sub, pk_mul, w_div, w_rem, w_and, w_or, w_shr, w_shl1, w_a31, w_andn, ↓reduceIte, Nat.reduceAdd, Nat.reduceEqDiff, Nat.zero_lt_one, Nat.not_lt_zero, Nat.one_ne_zero, Nat.zero_ne_one, not_true_eq_false, not_false_eq_true, Bool.false_eq_true, Bool.true_eq_false, a0, Nat.not_le.mpr hr, w_a1, w_bit0, z]
      exact i2 _
    · have z : (plcM h i).testBit r = false := by
        rw [tb, Bool.or_eq_false_iff, decide_eq_false_iff_not, decide_eq_false_iff_not]
        exact ⟨fun y => met (Or.inl y), fun y => met (Or.inr y)⟩
      rw [b01_neg met] at i2
      simp (discharger := omega) only [li_0, li_1, li_2, li_3, li_4, li_5, li_6, li_7, li_8, li_9, li_10, li_11, li_12, li_13, li_14, li_15, li_16, li_17, li_18, li_19, li_20, li_21, li_22, li_23, li_24, li_25, li_26, li_27, li_28, li_29, li_30, li_31, li_32, li_33, li_34, li_35, li_36, li_37, li_38, li_39, li_40, li_41, li_42, li_43, li_44, li_45, li_46, li_47, li_48, li_49, li_50, li_51, li_52, li_53, li_54, li_55, li_56, li_57, li_58, li_59, li_60, li_61, li_62, li_63, li_64, li_65, li_66, li_67, li_68, li_69, li_70, li_71, li_72, li_73, li_74, li_75, li_76, li_77, li_78, li_79, li_80, li_81, li_82, li_83, li_84, li_85, li_86, li_87, li_88, li_89, li_90, li_91, li_92, li_93, li_94, li_95, li_96, li_97, li_98, li_99, li_100, li_101, li_102, li_103, li_104, li_105, li_106, li_107, li_108, li_109, li_110, li_111, li_112, li_113, li_114, li_115, li_116, li_117, li_118, li_119, li_120, li_121, li_122, li_123, li_124, li_125, li_126, li_127, li_128, li_144, li_150, li_200, li_255, li_384, li_512, li_999, li_1000, li_1024, li_1152, li_1920, li_3776, li_4096, li_9216, li_10000, li_100000, li_1073741824, li_m, ↓rcb_17, ↓fIb_17, ↓pIb_17, ↓fRb_17_5, ↓fRb_17_6, ↓fRb_17_7, ↓fRb_17_9, ↓fRb_17_10, ↓fRb_17_11, ↓fRb_17_12, ↓fRb_17_15, ↓fRb_17_16, ↓fRb_17_17, ↓fRb_17_0, ↓aIb_18, ↓sIb_18, ↓aIb_19, ↓sIb_19, ↓aIb_20, ↓sIb_20, ↓aIb_21, ↓sIb_21, ↓aIb_22, ↓sIb_22, ↓aIb_23, ↓sIb_23, ↓aIb_24, ↓sIb_24, ↓aIb_25, ↓sIb_25, ↓aIb_26, ↓sIb_26, ↓aIb_27, ↓sIb_27, r0_17_5, r0_17_6, r0_17_7, r0_17_9, r0_17_10, r0_17_11, r0_17_12, r0_17_15, r0_17_16, r0_17_17, r0_17_0, rc_17, fI_17, fR_17, pI_17, pR_17, aI_18, sI_18, aI_19, sI_19, aI_20, sI_20, aI_21, sI_21, aI_22, sI_22, aI_23, sI_23, aI_24, sI_24, aI_25, sI_25, aI_26, sI_26, aI_27, sI_27, ↓rcb_P hc, ↓fIb_P hc, ↓pIb_P hc, ↓fRb_P1 hc, ↓aIb_P1 hc, ↓sIb_P1 hc, ↓fRb_P2 hc, ↓aIb_P2 hc, ↓sIb_P2 hc, ↓fRb_P3 hc, ↓aIb_P3 hc, ↓sIb_P3 hc, ↓fRb_P4 hc, ↓aIb_P4 hc, ↓sIb_P4 hc, ↓fRb_P5 hc, ↓aIb_P5 hc, ↓sIb_P5 hc, ↓fRb_P6 hc, ↓aIb_P6 hc, ↓sIb_P6 hc, ↓fRb_P7 hc, ↓aIb_P7 hc, ↓sIb_P7 hc, rc_P hc, fI_P hc, fR_P hc, pI_P hc, r0_P1 hc, aI_P1 hc, sI_P1 hc, r0_P2 hc, aI_P2 hc, sI_P2 hc, r0_P3 hc, aI_P3 hc, sI_P3 hc, r0_P4 hc, aI_P4 hc, sI_P4 hc, r0_P5 hc, aI_P5 hc, sI_P5 hc, r0_P6 hc, aI_P6 hc, sI_P6 hc, r0_P7 hc, aI_P7 hc, sI_P7 hc, w_bind, w_bd2, b01_eq0, b01_ok, b01_ok2, w_lt, w_le, w_eq, w_mlt, w_mle, w_ltm, w_lem, w_meq, w_eqm, w_mm, w_mmlt, w_mmle, nI_add, w_sub, pk_mul, w_div, w_rem, w_and, w_or, w_shr, w_shl1, w_a31, w_andn, ↓reduceIte, Nat.reduceAdd, Nat.reduceEqDiff, Nat.zero_lt_one, Nat.not_lt_zero, Nat.one_ne_zero, Nat.zero_ne_one, not_true_eq_false, not_false_eq_true, Bool.false_eq_true, Bool.true_eq_false, a0, Nat.not_le.mpr hr, w_a1, w_bit0, z]
      exact i2 _
  obtain ⟨s', ⟨T, qf', qn', rfl, g1⟩, hl⟩ := lpI (fun F (s : Int32 × Mem) => fX6_queueCaught_L7 FU 17 (nI (h * 8 + i)) (nI (plcM h i)) F s.1 s.2) _ (Pp P) st (Pp P) 0 (nI 0, (I, R0 (some c) nm hd rd)) FU (by omega) (by omega) ⟨I, qf, qn, rfl, hQ⟩
  simp only at hl
  refine ⟨T, qf', qn', ?_, g1.mono (fun y hy _ => ?_)⟩
  · have d0 := c_placesOf (FU := FU) (I := I) (pl := some c) (nm := nm) (hd := hd) (rd := rd) (h := h) (i := i) (by omega) (by omega)
    have a0 := (PT g1).1
    obtain ⟨G, hG⟩ : ∃ G, FU - Pp P = G + 1 := ⟨FU - Pp P - 1, by omega⟩
    unfold fX6_queueCaught
    simp (discharger := omega) only [li_0, li_1, li_2, li_3, li_4, li_5, li_6, li_7, li_8, li_9, li_10, li_11, li_12, li_13, li_14, li_15, li_16, li_17, li_18, li_19, li_20, li_21, li_22, li_23, li_24, li_25, li_26, li_27, li_28, li_29, li_30, li_31, li_32, li_33, li_34, li_35, li_36, li_37, li_38, li_39, li_40, li_41, li_42, li_43, li_44, li_45, li_46, li_47, li_48, li_49, li_50, li_51, li_52, li_53, li_54, li_55, li_56, li_57, li_58, li_59, li_60, li_61, li_62, li_63, li_64, li_65, li_66, li_67, li_68, li_69, li_70, li_71, li_72, li_73, li_74, li_75, li_76, li_77, li_78, li_79, li_80, li_81, li_82, li_83, li_84, li_85, li_86, li_87, li_88, li_89, li_90, li_91, li_92, li_93, li_94, li_95, li_96, li_97, li_98, li_99, li_100, li_101, li_102, li_103, li_104, li_105, li_106, li_107, li_108, li_109, li_110, li_111, li_112, li_113, li_114, li_115, li_116, li_117, li_118, li_119, li_120, li_121, li_122, li_123, li_124, li_125, li_126, li_127, li_128, li_144, li_150, li_200, li_255, li_384, li_512, li_999, li_1000, li_1024, li_1152, li_1920, li_3776, li_4096, li_9216, li_10000, li_100000, li_1073741824, li_m, ↓dn d0]
    rw [hl, hG, fX6_queueCaught_L7]
    simp (discharger := omega) only [li_0, li_1, li_2, li_3, li_4, li_5, li_6, li_7, li_8, li_9, li_10, li_11, li_12, li_13, li_14, li_15, li_16, li_17, li_18, li_19, li_20, li_21, li_22, li_23, li_24, li_25, li_26, li_27, li_28, li_29, li_30, li_31, li_32, li_33, li_34, li_35, li_36, li_37, li_38, li_39, li_40, li_41, li_42, li_43, li_44, li_45, li_46, li_47, li_48, li_49, li_50, li_51, li_52, li_53, li_54, li_55, li_56, li_57, li_58, li_59, li_60, li_61, li_62, li_63, li_64, li_65, li_66, li_67, li_68, li_69, li_70, li_71, li_72, li_73, li_74, li_75, li_76, li_77, li_78, li_79, li_80, li_81, li_82, li_83, li_84, li_85, li_86, li_87, li_88, li_89, li_90, li_91, li_92, li_93, li_94, li_95, li_96, li_97, li_98, li_99, li_100, li_101, li_102, li_103, li_104, li_105, li_106, li_107, li_108, li_109, li_110, li_111, li_112, li_113, li_114, li_115, li_116, li_117, li_118, li_119, li_120, li_121, li_122, li_123, li_124, li_125, li_126, li_127, li_128, li_144, li_150, li_200, li_255, li_384, li_512, li_999, li_1000, li_1024, li_1152, li_1920, li_3776, li_4096, li_9216, li_10000, li_100000, li_1073741824, li_m, ↓rcb_17, ↓fIb_17, ↓pIb_17, ↓fRb_17_5, ↓fRb_17_6, ↓fRb_17_7, ↓fRb_17_9, ↓fRb_17_10, ↓fRb_17_11, ↓fRb_17_12, ↓fRb_17_15, ↓fRb_17_16, ↓fRb_17_17, ↓fRb_17_0, ↓aIb_18, ↓sIb_18, ↓aIb_19, ↓sIb_19, ↓aIb_20, ↓sIb_20, ↓aIb_21, ↓sIb_21, ↓aIb_22, ↓sIb_22, ↓aIb_23, ↓sIb_23, ↓aIb_24, ↓sIb_24, ↓aIb_25, ↓sIb_25, ↓aIb_26, ↓sIb_26, ↓aIb_27, ↓sIb_27, r0_17_5, r0_17_6, r0_17_7, r0_17_9, r0_17_10, r0_17_11, r0_17_12, r0_17_15, r0_17_16, r0_17_17, r0_17_0, rc_17, fI_17, fR_17, pI_17, pR_17, aI_18, sI_18, aI_19, sI_19, aI_20, sI_20, aI_21, sI_21, aI_22, sI_22, aI_23, sI_23, aI_24, sI_24, aI_25, sI_25, aI_26, sI_26, aI_27, sI_27, ↓rcb_P hc, ↓fIb_P hc, ↓pIb_P hc, ↓fRb_P1 hc, ↓aIb_P1 hc, ↓sIb_P1 hc, ↓fRb_P2 hc, ↓aIb_P2 hc, ↓sIb_P2 hc, ↓fRb_P3 hc, ↓aIb_P3 hc, ↓sIb_P3 hc, ↓fRb_P4 hc, ↓aIb_P4 hc, ↓sIb_P4 hc, ↓fRb_P5 hc, ↓aIb_P5 hc, ↓sIb_P5 hc, ↓fRb_P6 hc, ↓aIb_P6 hc, ↓sIb_P6 hc, ↓fRb_P7 hc, ↓aIb_P7 hc, ↓sIb_P7 hc, rc_P hc, fI_P hc, fR_P hc, pI_P hc, r0_P1 hc, aI_P1 hc, sI_P1 hc, r0_P2 hc, aI_P2 hc, sI_P2 hc, r0_P3 hc, aI_P3 hc, sI_P3 hc, r0_P4 hc, aI_P4 hc, sI_P4 hc, r0_P5 hc, aI_P5 hc, sI_P5 hc, r0_P6 hc, aI_P6 hc, sI_P6 hc, r0_P7 hc, aI_P7 hc, sI_P7 hc, w_bind, w_bd2, b01_eq0, b01_ok, b01_ok2, w_lt, w_le, w_eq, w_mlt, w_mle, w_ltm, w_lem, w_meq, w_eqm, w_mm, w_mmlt, w_mmle, nI_add, w_sub, pk_mul, w_div, w_rem, w_and, w_or, w_shr, w_shl1, w_a31, w_andn, ↓reduceIte, Nat.reduceAdd, Nat.reduceEqDiff, Nat.zero_lt_one, Nat.not_lt_zero, Nat.one_ne_zero, Nat.zero_ne_one, not_true_eq_false, not_false_eq_true, Bool.false_eq_true, Bool.true_eq_false, a0, Nat.le_refl]
  · have a3 := hy.2.1
    unfold HQ
    apply decide_eq_decide.mpr
    constructor <;> intro z <;> omega
end Queue
