/-! turnings, the class: countOf, leastRow -/
section Nam4
variable {FU ver : Nat} {P : Pln} {I J : Nat → Nat → Int32} {pl nm hd rd : Option Nat}
def noN : Nmg := fun _ => none
theorem noN_ok : wfG P noN ∧ Con P noN := ⟨fun _ _ e => (by cases e), fun _ _ e => (by cases e)⟩
theorem c_forget (hF : 99999999 ≤ FU) : ∃ I', fX2_forgetNames FU 28 (I, R0 pl nm hd rd) = some (I', R0 pl nm hd rd) ∧ FrN I I' ∧ GS P noN I' := by
  have loop : ∀ d k I F, d + k = 8 → d < F → ∃ I', fX2_forgetNames_L7 FU 28 F (nI k) (I, R0 pl nm hd rd) = some (I', R0 pl nm hd rd) ∧ (∀ j, k ≤ j → j < 8 → I' 30 j = mI 1) ∧ (∀ j, j < k → I' 30 j = I 30 j) ∧ (∀ q, q ≠ 30 → I' q = I q) := by
    intro d
    induction d with
    | zero =>
      intro k I F h1 h2
      obtain ⟨G, rfl⟩ : ∃ G, F = G + 1 := ⟨F - 1, by omega⟩
      refine ⟨I, ?_, fun j j1 j2 => by omega, fun _ _ => rfl, fun _ _ => rfl⟩
      rw [fX2_forgetNames_L7, if_pos (by rw [li_8, w_le (by omega) (by omega)]; omega)]
    | succ d ih =>
      intro k I F h1 h2
      obtain ⟨G, rfl⟩ : ∃ G, F = G + 1 := ⟨F - 1, by omega⟩
      have f0 : ¬ (8 : Int32) ≤ nI k := by rw [li_8, w_le (by omega) (by omega)]; omega
      obtain ⟨I', a1, a2, a3, a4⟩ := ih (k + 1) (up2 I 30 k (mI 1)) G (by omega) (by omega)
      refine ⟨I', ?_, fun j j1 j2 => ?_, fun j hj => by rw [a3 j (by omega), up2_i (by omega)], fun q hq => by rw [a4 q hq, up2_ne hq]⟩
      · rw [fX2_forgetNames_L7, if_neg f0, fRb_28_4, sIb_30 (by omega), show (-1 : Int32) = mI 1 from rfl, li_1, nI_add]
        exact a1
      · by_cases z : j = k
        · subst z
          rw [a3 j (by omega), up2_s]
        · exact a2 j (by omega) j2
  obtain ⟨I', a1, a2, a3, a4⟩ := loop 8 0 (up2 I 28 5 (nI 0)) FU (by omega) (by omega)
  refine ⟨I', ?_, ⟨fun q q1 q2 => by rw [a4 q q2, up2_ne q1], fun i hi => by rw [a4 28 (by decide), up2_i hi]⟩, fun j hj => a2 j (by omega) hj, 0, ?_, by decide, fun y hy => ?_⟩
  · unfold fX2_forgetNames
    rw [li_0, pIb_28]
    exact a1
  · rw [a4 28 (by decide), up2_s]
  · rw [Nat.zero_testBit]
    exact ⟨fun h => absurd h Bool.false_ne_true, fun ⟨z, hz⟩ => by cases hz⟩
/-- places below x keep their names -/
def idN (x : Nat) : Nmg := fun j => if j < x then some j else none
theorem idN_some {x z n : Nat} : idN x z = some n ↔ z < x ∧ n = z := by
  unfold idN
  by_cases h : z < x
  · rw [if_pos h]
    exact ⟨fun e => ⟨h, (Option.some.inj e).symm⟩, fun e => by rw [e.2]⟩
  · rw [if_neg h]
    exact ⟨fun e => (by cases e), fun e => absurd e.1 h⟩
theorem idN_wf {x : Nat} (hx : x ≤ Pp P) : wfG P (idN x) := fun z n e => by
  have := idN_some.mp e
  omega
theorem idN_con {x : Nat} : Con P (idN x) := fun z n e => by
  have h := (idN_some.mp e).2
  subst h
  refine ⟨rfl, fun z' n' z1 z2 => ?_⟩
  have h := (idN_some.mp z2).2
  subst h
  exact ⟨z1, rfl⟩
theorem idN_up (x : Nat) : gUp (idN x) x x = idN (x + 1) := by
  funext j
  unfold gUp idN
  by_cases z : j = x
  · rw [if_pos z, z, if_pos (by omega)]
  · rw [if_neg z]
    by_cases y : j < x
    · rw [if_pos y, if_pos (by omega)]
    · rw [if_neg y, if_neg (by omega)]
theorem c_keep (hF : 99999999 ≤ FU) (hW : WfP P) {x : Nat} (hx : x ≤ Pp P) : ∀ d k I F, d + k = x → d < F → PlC 1 P I → CJ P (Pn P) I → GS P (idN k) I → ∃ I', fX2_keepNamesBelow_L2 FU 28 (nI x) F (nI k) (I, R0 pl (some 1) hd rd) = some (I', R0 pl (some 1) hd rd) ∧ FrN I I' ∧ GS P (idN x) I' := by
  have hp := wf_p hW
  intro d
  induction d with
  | zero =>
    intro k I F h1 h2 hC hJ hG
    obtain ⟨G, rfl⟩ : ∃ G, F = G + 1 := ⟨F - 1, by omega⟩
    have e : k = x := by omega
    subst e
    refine ⟨I, ?_, FrN.refl, hG⟩
    rw [fX2_keepNamesBelow_L2, if_pos (by rw [w_le (by omega) (by omega)]; omega)]
  | succ d ih =>
    intro k I F h1 h2 hC hJ hG
    obtain ⟨G, rfl⟩ : ∃ G, F = G + 1 := ⟨F - 1, by omega⟩
    have f0 : ¬ nI x ≤ nI k := by rw [w_le (by omega) (by omega)]; omega
    rcases c_give (FU := FU) (pl := pl) (hd := hd) (rd := rd) hF hC hW hJ (idN_wf (by omega)) hG (x := k) (y := k) (by omega) (by omega) with ⟨gv, I1, b1, b2, b3⟩ | ⟨gv, b1⟩
    · rw [idN_up] at b3
      obtain ⟨I2, c1, c2, c3⟩ := ih (k + 1) I1 G (by omega) (by omega) (b2.plc hC) (b2.cj hJ) b3
      refine ⟨I2, ?_, b2.trans c2, c3⟩
      rw [fX2_keepNamesBelow_L2, if_neg f0, show rc 2 (some 28) = some 28 from rfl, w_bind, dn b1, li_1, nI_add]
      exact c1
    · exact absurd (ex_gv hW (idN_wf (by omega)) (by omega) (aut_id P hW) (fun z n e => (idN_some.mp e).2.symm) rfl) gv
theorem cn_low (hW : WfP P) {x : Nat} (hx : x < Pp P) : cnt (cnB P x) x = 0 := by
  have : ∀ n, n ≤ x → cnt (cnB P x) n = 0 := by
    intro n
    induction n with
    | zero => exact fun _ => rfl
    | succ n ih =>
      intro hn
      have f : cnB P x n = false := by
        cases e : cnB P x n with
        | false => rfl
        | true =>
          obtain ⟨g, g1, g2, g3⟩ := cnB_iff.mp e
          have := ((aut_iff hW).mp g1).2.1 n x (by omega) hx (by omega)
          rw [g2 n (by omega), g3] at this
          exact absurd rfl this
      show cnt (cnB P x) n + (if cnB P x n = true then 1 else 0) = 0
      rw [ih (by omega), f, if_neg Bool.false_ne_true]
  exact this x (Nat.le_refl x)
theorem ex_cn {x y : Nat} : Ex P (gUp (idN x) x y) ↔ cnB P x y = true := by
  rw [cnB_iff]
  constructor
  · rintro ⟨f, f1, f2⟩
    refine ⟨f, f1, fun o ho => f2 o o ?_, f2 x y ?_⟩
    · unfold gUp
      rw [if_neg (by omega)]
      exact idN_some.mpr ⟨ho, rfl⟩
    · unfold gUp
      rw [if_pos rfl]
  · rintro ⟨f, f1, f2, f3⟩
    refine ⟨f, f1, fun z n e => ?_⟩
    unfold gUp at e
    by_cases q : z = x
    · rw [if_pos q] at e
      rw [q, f3]
      exact Option.some.inj e
    · rw [if_neg q] at e
      obtain ⟨e1, e2⟩ := idN_some.mp e
      rw [f2 z e1, e2]
theorem c_count38 (hF : 99999999 ≤ FU) (hW : WfP P) {x : Nat} (hx : x < Pp P) {pr : Int32} {K : Int32 → Int32 → Mem → Option (Int32 × Mem)} : ∀ d y I F, d + y = Pp P → d < F → PlC 1 P I → CJ P (Pn P) I → ∃ I', fX2_countOf_L38 FU K 28 pr (nI x) F (nI (cnt (cnB P x) y)) (nI y) (I, R0 pl (some 1) hd rd) = K (pr * nI (cnt (cnB P x) (Pp P))) (nI (x + 1)) (I', R0 pl (some 1) hd rd) ∧ FrN I I' := by
  have hp := wf_p hW
  intro d
  induction d with
  | zero =>
    intro y I F h1 h2 hC hJ
    obtain ⟨G, rfl⟩ : ∃ G, F = G + 1 := ⟨F - 1, by omega⟩
    have e : y = Pp P := by omega
    subst e
    refine ⟨I, ?_, FrN.refl⟩
    rw [fX2_countOf_L38, fRb_28_0, fIb_1, hC.1, if_pos (by rw [w_le (by omega) (by omega)]; omega), li_1, nI_add]
  | succ d ih =>
    intro y I F h1 h2 hC hJ
    obtain ⟨G, rfl⟩ : ∃ G, F = G + 1 := ⟨F - 1, by omega⟩
    have f0 : ¬ nI (Pp P) ≤ nI y := by rw [w_le (by omega) (by omega)]; omega
    have cs : cnt (cnB P x) (y + 1) = cnt (cnB P x) y + if cnB P x y = true then 1 else 0 := rfl
    obtain ⟨I1, a1, a2, a3⟩ := c_forget (FU := FU) (pl := pl) (nm := some 1) (hd := hd) (rd := rd) (P := P) (I := I) hF
    have z0 : (noN : Nmg) = idN 0 := by
      funext j
      unfold noN idN
      rw [if_neg (Nat.not_lt_zero j)]
    rw [z0] at a3
    obtain ⟨I2, b1, b2, b3⟩ := c_keep (FU := FU) (pl := pl) (hd := hd) (rd := rd) hF hW (x := x) (by omega) x 0 I1 FU (by omega) (by omega) (a2.plc hC) (a2.cj hJ) a3
    have b1 : fX2_keepNamesBelow FU 28 (nI x) (I1, R0 pl (some 1) hd rd) = some (I2, R0 pl (some 1) hd rd) := b1
    have fr2 := a2.trans b2
    rw [fX2_countOf_L38, fRb_28_0, fIb_1, hC.1, if_neg f0, show rc 2 (some 28) = some 28 from rfl, w_bind, dn1 a1, w_bind, dn1 b1, w_bind]
    unfold fX2_countOf_b80
    have idw : wfG P (idN x) := idN_wf (by omega)
    rcases c_give (FU := FU) (pl := pl) (hd := hd) (rd := rd) hF (fr2.plc hC) hW (fr2.cj hJ) idw b3 (x := x) (y := y) hx (by omega) with ⟨gv, I3, c1, c2, c3⟩ | ⟨gv, c1⟩
    · have fr3 := fr2.trans c2
      obtain ⟨I4, d1, d2, d3⟩ := c_nameRest (FU := FU) (pl := pl) (hd := hd) (rd := rd) hF hW (Pp P) 0 10 (gUp (idN x) x y) I3 (by omega) (by omega) (fr3.plc hC) (fr3.cj hJ) (wfG_up idw hx (by omega)) (gv_con idw idN_con gv) (fun z hz => by omega) c3
      have fr4 := fr3.trans d2
      have d1 : qX2_canNameRest FU 10 28 (0 : Int32) (I3, R0 pl (some 1) hd rd) = _ := d1
      rw [dn c1, if_neg (by decide), w_bind, dn d1]
      by_cases q : cnB P x y = true
      · obtain ⟨I5, e1, e2⟩ := ih (y + 1) I4 G (by omega) (by omega) (fr4.plc hC) (fr4.cj hJ)
        refine ⟨I5, ?_, fr4.trans e2⟩
        rw [cs, if_pos q] at e1
        rw [b01_pos (exB_iff.mpr (ex_cn.mpr q)), if_neg (by decide), li_1, nI_add, nI_add]
        exact e1
      · obtain ⟨I5, e1, e2⟩ := ih (y + 1) I4 G (by omega) (by omega) (fr4.plc hC) (fr4.cj hJ)
        refine ⟨I5, ?_, fr4.trans e2⟩
        rw [cs, if_neg q] at e1
        rw [b01_neg (fun h => q (ex_cn.mp (exB_iff.mp h))), if_pos (by decide), li_1, nI_add]
        exact e1
    · have q : ¬ cnB P x y = true := by
        intro q
        obtain ⟨f, f1, f2, f3⟩ := cnB_iff.mp q
        exact gv (ex_gv hW idw hx f1 (fun z n e => by rw [f2 z (idN_some.mp e).1, (idN_some.mp e).2]) f3)
      obtain ⟨I5, e1, e2⟩ := ih (y + 1) I2 G (by omega) (by omega) (fr2.plc hC) (fr2.cj hJ)
      refine ⟨I5, ?_, fr2.trans e2⟩
      rw [cs, if_neg q] at e1
      rw [dn c1, if_pos (by decide), li_1, nI_add]
      exact e1
theorem c_count21 (hF : 99999999 ≤ FU) (hW : WfP P) : ∀ d x c I F, d + x = Pp P → d < F → PlC 1 P I → CJ P (Pn P) I → ∃ I', fX2_countOf_L21 FU 28 F (nI c) (nI x) (I, R0 pl (some 1) hd rd) = some (nI (c * nT P d (fun j => j) x), (I', R0 pl (some 1) hd rd)) ∧ I' 28 2 = nI (c * nT P d (fun j => j) x) ∧ (∀ q, q ≠ 28 → q ≠ 30 → I' q = I q) ∧ (∀ i, i ≠ 2 → i ≠ 5 → I' 28 i = I 28 i) := by
  have hp := wf_p hW
  intro d
  induction d with
  | zero =>
    intro x c I F h1 h2 hC hJ
    obtain ⟨G, rfl⟩ : ∃ G, F = G + 1 := ⟨F - 1, by omega⟩
    have e : nT P 0 (fun j => j) x = 1 := rfl
    rw [e, Nat.mul_one]
    refine ⟨up2 I 28 2 (nI c), ?_, by rw [up2_s], fun q q1 _ => by rw [up2_ne q1], fun i i1 _ => by rw [up2_i i1]⟩
    rw [fX2_countOf_L21, fRb_28_0, fIb_1, hC.1, if_pos (by rw [w_le (by omega) (by omega)]; omega), pIb_28, fIb_28, up2_s]
  | succ d ih =>
    intro x c I F h1 h2 hC hJ
    obtain ⟨G, rfl⟩ : ∃ G, F = G + 1 := ⟨F - 1, by omega⟩
    have f0 : ¬ nI (Pp P) ≤ nI x := by rw [w_le (by omega) (by omega)]; omega
    obtain ⟨I1, a1, a2⟩ := c_count38 (FU := FU) (pl := pl) (hd := hd) (rd := rd) hF hW (x := x) (by omega) (pr := nI c) (K := fX2_countOf_L21 FU 28 G) d.succ x I FU (by omega) (by omega) hC hJ
    rw [cn_low hW (by omega)] at a1
    obtain ⟨I2, b1, b2, b3, b4⟩ := ih (x + 1) (c * cnt (cnB P x) (Pp P)) I1 G (by omega) (by omega) (a2.plc hC) (a2.cj hJ)
    have e : c * nT P (d + 1) (fun j => j) x = c * cnt (cnB P x) (Pp P) * nT P d (fun j => j) (x + 1) := by
      rw [nT_orbit hW (by omega), Nat.mul_assoc]
    rw [e]
    refine ⟨I2, ?_, b2, fun q q1 q2 => (b3 q q1 q2).trans (a2.1 q q1 q2), fun i i1 i2 => (b4 i i1 i2).trans (a2.2 i i2)⟩
    rw [fX2_countOf_L21, fRb_28_0, fIb_1, hC.1, if_neg f0, li_0, a1, pk_mul, b1]
theorem sm_le {f : Nat → Nat} {n c : Nat} (h : ∀ i, i < n → f i ≤ c) : sm f n ≤ n * c := by
  induction n with
  | zero => exact Nat.zero_le _
  | succ n ih =>
    show sm f n + f n ≤ (n + 1) * c
    have := ih (fun i hi => h i (by omega))
    have := h n (by omega)
    rw [Nat.add_mul]
    omega
theorem nT_le (hp : Pp P ≤ 8) : ∀ d f x, nT P d f x ≤ 8 ^ d := by
  intro d
  induction d with
  | zero => exact fun _ _ => Nat.le_refl 1
  | succ d ih =>
    intro f x
    have := sm_le (f := fun y => if okB P f x y = true then nT P d (va_up f x y) (x + 1) else 0) (n := Pp P) (c := 8 ^ d) (fun i _ => by
      show (if okB P f x i = true then nT P d (va_up f x i) (x + 1) else 0) ≤ 8 ^ d
      split
      · exact ih _ _
      · exact Nat.zero_le _)
    refine Nat.le_trans this ?_
    rw [Nat.pow_succ, Nat.mul_comm]
    exact Nat.mul_le_mul_left _ hp
theorem nTur_lt (hW : WfP P) : nTur P < 2 ^ 30 := by
  have hp := wf_p hW
  have h1 := nT_le hp.2 (Pp P) (fun j => j) 0
  have h2 : 8 ^ Pp P ≤ 8 ^ 8 := Nat.pow_le_pow_right (by decide) hp.2
  unfold nTur
  omega
theorem c_countOf (hF : 99999999 ≤ FU) (hC : PlC 1 P I) (hW : WfP P) (hv : I 1 12 = nI ver) (hver : ver < 2 ^ 30) (hK : K28 P ver nm I) : ∃ I', fX2_countOf FU 28 (some 1) (I, R0 pl nm hd rd) = some (nI (nTur P), (I', R0 pl (some 1) hd rd)) ∧ CJ P (Pn P) I' ∧ I' 28 1 = nI ver ∧ I' 28 2 = nI (nTur P) ∧ (∀ q, q ≠ 28 → q ≠ 29 → q ≠ 30 → I' q = I q) := by
  obtain ⟨I1, a1, a2, a3, a4, a5⟩ := c_take (FU := FU) (pl := pl) (nm := nm) (hd := hd) (rd := rd) hF hC hW hv hver hK
  have hC1 : PlC 1 P I1 := hC.congr (fun k _ _ => a5 k (by omega) (by omega))
  have nl := nTur_lt hW
  unfold fX2_countOf
  rw [show rc 2 (some 28) = some 28 from rfl, w_bind, dn1 a1, fIb_28]
  rcases a4 with e | e
  · obtain ⟨I2, b1, b2, b3, b4⟩ := c_count21 (FU := FU) (pl := pl) (hd := hd) (rd := rd) hF hW (Pp P) 0 1 I1 FU (by omega) (by have := wf_p hW; omega) hC1 a2
    rw [Nat.one_mul] at b1 b2
    refine ⟨I2, ?_, fun x y hx hy => by rw [b3 29 (by decide) (by decide)]; exact a2 x y hx hy, by rw [b4 1 (by decide) (by decide), a3], b2, fun q q1 q2 q3 => (b3 q q1 q3).trans (a5 q q1 q2)⟩
    rw [e, if_pos (by decide)]
    exact b1
  · refine ⟨I1, ?_, a2, a3, e, fun q q1 q2 _ => a5 q q1 q2⟩
    rw [e, if_neg (by rw [li_0, w_lt (by omega) (by omega)]; omega), fIb_28, e]
/-- a turning brings these three there -/
def Tn (P : Pln) (h i r a b c : Nat) : Prop := ∃ f, Aut P f ∧ f h = a ∧ f i = b ∧ f r = c
theorem c_canTurn (hF : 99999999 ≤ FU) (hC : PlC 1 P I) (hW : WfP P) (hJ : CJ P (Pn P) I) {h i r a b c : Nat} (hh : h < Pp P) (hi : i < Pp P) (hr : r < Pp P) (ha : a < Pp P) (hb : b < Pp P) (hc : c < Pp P) : (Tn P h i r a b c ∧ ∃ I', fX2_canTurn FU 28 (nI (h * 8 + i)) (nI r) (nI (a * 8 + b)) (nI c) (I, R0 pl (some 1) hd rd) = some (nI 1, (I', R0 pl (some 1) hd rd)) ∧ FrN I I') ∨ (¬ Tn P h i r a b c ∧ ∃ I', fX2_canTurn FU 28 (nI (h * 8 + i)) (nI r) (nI (a * 8 + b)) (nI c) (I, R0 pl (some 1) hd rd) = some (nI 0, (I', R0 pl (some 1) hd rd)) ∧ FrN I I') := by
  have hp := wf_p hW
  have e1 : nI (h * 8 + i) >>> ((3 : Int32) &&& 31) = nI h := by
    simp (discharger := omega) only [li_0, li_1, li_2, li_3, li_4, li_5, li_6, li_7, li_8, li_9, li_10, li_11, li_12, li_13, li_14, li_15, li_16, li_17, li_18, li_19, li_20, li_21, li_22, li_23, li_24, li_25, li_26, li_27, li_28, li_29, li_30, li_31, li_32, li_33, li_34, li_35, li_36, li_37, li_38, li_39, li_40, li_41, li_42, li_43, li_44, li_45, li_46, li_47, li_48, li_49, li_50, li_51, li_52, li_53, li_54, li_55, li_56, li_57, li_58, li_59, li_60, li_61, li_62, li_63, li_64, li_65, li_66, li_67, li_68, li_69, li_70, li_71, li_72, li_73, li_74, li_75, li_76, li_77, li_78, li_79, li_80, li_81, li_82, li_83, li_84, li_85, li_86, li_87, li_88, li_89, li_90, li_91, li_92, li_93, li_94, li_95, li_96, li_97, li_98, li_99, li_100, li_101, li_102, li_103, li_104, li_105, li_106, li_107, li_108, li_109, li_110, li_111, li_112, li_113, li_114, li_115, li_116, li_117, li_118, li_119, li_120, li_121, li_122, li_123, li_124, li_125, li_126, li_127, li_128, li_144, li_150, li_200, li_255, li_384, li_512, li_999, li_1000, li_1024, li_1152, li_1920, li_3776, li_4096, li_9216, li_10000, li_100000, li_1073741824, li_m, w_lt, w_le, w_eq, w_mlt, w_mle, w_ltm, w_lem, w_meq, w_eqm, w_mm, w_mmlt, w_mmle, nI_add, w_sub, pk_mul, w_div, w_rem, w_and, w_or, w_shr, w_shl1, w_a31, w_andn]
    rw [w_ph (by omega)]
  have e2 : nI (h * 8 + i) &&& (7 : Int32) = nI i := by
    simp (discharger := omega) only [li_0, li_1, li_2, li_3, li_4, li_5, li_6, li_7, li_8, li_9, li_10, li_11, li_12, li_13, li_14, li_15, li_16, li_17, li_18, li_19, li_20, li_21, li_22, li_23, li_24, li_25, li_26, li_27, li_28, li_29, li_30, li_31, li_32, li_33, li_34, li_35, li_36, li_37, li_38, li_39, li_40, li_41, li_42, li_43, li_44, li_45, li_46, li_47, li_48, li_49, li_50, li_51, li_52, li_53, li_54, li_55, li_56, li_57, li_58, li_59, li_60, li_61, li_62, li_63, li_64, li_65, li_66, li_67, li_68, li_69, li_70, li_71, li_72, li_73, li_74, li_75, li_76, li_77, li_78, li_79, li_80, li_81, li_82, li_83, li_84, li_85, li_86, li_87, li_88, li_89, li_90, li_91, li_92, li_93, li_94, li_95, li_96, li_97, li_98, li_99, li_100, li_101, li_102, li_103, li_104, li_105, li_106, li_107, li_108, li_109, li_110, li_111, li_112, li_113, li_114, li_115, li_116, li_117, li_118, li_119, li_120, li_121, li_122, li_123, li_124, li_125, li_126, li_127, li_128, li_144, li_150, li_200, li_255, li_384, li_512, li_999, li_1000, li_1024, li_1152, li_1920, li_3776, li_4096, li_9216, li_10000, li_100000, li_1073741824, li_m, w_lt, w_le, w_eq, w_mlt, w_mle, w_ltm, w_lem, w_meq, w_eqm, w_mm, w_mmlt, w_mmle, nI_add, w_sub, pk_mul, w_div, w_rem, w_and, w_or, w_shr, w_shl1, w_a31, w_andn, w_a7]
    rw [w_pi (by omega)]
  have e3 : nI (a * 8 + b) >>> ((3 : Int32) &&& 31) = nI a := by
    simp (discharger := omega) only [li_0, li_1, li_2, li_3, li_4, li_5, li_6, li_7, li_8, li_9, li_10, li_11, li_12, li_13, li_14, li_15, li_16, li_17, li_18, li_19, li_20, li_21, li_22, li_23, li_24, li_25, li_26, li_27, li_28, li_29, li_30, li_31, li_32, li_33, li_34, li_35, li_36, li_37, li_38, li_39, li_40, li_41, li_42, li_43, li_44, li_45, li_46, li_47, li_48, li_49, li_50, li_51, li_52, li_53, li_54, li_55, li_56, li_57, li_58, li_59, li_60, li_61, li_62, li_63, li_64, li_65, li_66, li_67, li_68, li_69, li_70, li_71, li_72, li_73, li_74, li_75, li_76, li_77, li_78, li_79, li_80, li_81, li_82, li_83, li_84, li_85, li_86, li_87, li_88, li_89, li_90, li_91, li_92, li_93, li_94, li_95, li_96, li_97, li_98, li_99, li_100, li_101, li_102, li_103, li_104, li_105, li_106, li_107, li_108, li_109, li_110, li_111, li_112, li_113, li_114, li_115, li_116, li_117, li_118, li_119, li_120, li_121, li_122, li_123, li_124, li_125, li_126, li_127, li_128, li_144, li_150, li_200, li_255, li_384, li_512, li_999, li_1000, li_1024, li_1152, li_1920, li_3776, li_4096, li_9216, li_10000, li_100000, li_1073741824, li_m, w_lt, w_le, w_eq, w_mlt, w_mle, w_ltm, w_lem, w_meq, w_eqm, w_mm, w_mmlt, w_mmle, nI_add, w_sub, pk_mul, w_div, w_rem, w_and, w_or, w_shr, w_shl1, w_a31, w_andn]
    rw [w_ph (by omega)]
  have e4 : nI (a * 8 + b) &&& (7 : Int32) = nI b := by
    simp (discharger := omega) only [li_0, li_1, li_2, li_3, li_4, li_5, li_6, li_7, li_8, li_9, li_10, li_11, li_12, li_13, li_14, li_15, li_16, li_17, li_18, li_19, li_20, li_21, li_22, li_23, li_24, li_25, li_26, li_27, li_28, li_29, li_30, li_31, li_32, li_33, li_34, li_35, li_36, li_37, li_38, li_39, li_40, li_41, li_42, li_43, li_44, li_45, li_46, li_47, li_48, li_49, li_50, li_51, li_52, li_53, li_54, li_55, li_56, li_57, li_58, li_59, li_60, li_61, li_62, li_63, li_64, li_65, li_66, li_67, li_68, li_69, li_70, li_71, li_72, li_73, li_74, li_75, li_76, li_77, li_78, li_79, li_80, li_81, li_82, li_83, li_84, li_85, li_86, li_87, li_88, li_89, li_90, li_91, li_92, li_93, li_94, li_95, li_96, li_97, li_98, li_99, li_100, li_101, li_102, li_103, li_104, li_105, li_106, li_107, li_108, li_109, li_110, li_111, li_112, li_113, li_114, li_115, li_116, li_117, li_118, li_119, li_120, li_121, li_122, li_123, li_124, li_125, li_126, li_127, li_128, li_144, li_150, li_200, li_255, li_384, li_512, li_999, li_1000, li_1024, li_1152, li_1920, li_3776, li_4096, li_9216, li_10000, li_100000, li_1073741824, li_m, w_lt, w_le, w_eq, w_mlt, w_mle, w_ltm, w_lem, w_meq, w_eqm, w_mm, w_mmlt, w_mmle, nI_add, w_sub, pk_mul, w_div, w_rem, w_and, w_or, w_shr, w_shl1, w_a31, w_andn, w_a7]
    rw [w_pi (by omega)]
  obtain ⟨I1, a1, a2, a3⟩ := c_forget (FU := FU) (pl := pl) (nm := some 1) (hd := hd) (rd := rd) (P := P) (I := I) hF
  obtain ⟨nw, nc⟩ := noN_ok (P := P)
  unfold fX2_canTurn
  rw [show rc 2 (some 28) = some 28 from rfl, w_bind, dn1 a1, w_bind, e1, e2, e3, e4]
  rcases c_give (FU := FU) (pl := pl) (hd := hd) (rd := rd) hF (a2.plc hC) hW (a2.cj hJ) nw a3 hh ha with ⟨gv1, I2, b1, b2, b3⟩ | ⟨gv1, b1⟩
  · have fr2 := a2.trans b2
    have w1 := wfG_up nw hh ha
    have c1 := gv_con nw nc gv1
    rw [dn b1, if_neg (by decide), w_bind]
    rcases c_give (FU := FU) (pl := pl) (hd := hd) (rd := rd) hF (fr2.plc hC) hW (fr2.cj hJ) w1 b3 hi hb with ⟨gv2, I3, d1, d2, d3⟩ | ⟨gv2, d1⟩
    · have fr3 := fr2.trans d2
      have w2 := wfG_up w1 hi hb
      have c2 := gv_con w1 c1 gv2
      rw [dn d1, if_neg (by decide), w_bind]
      rcases c_give (FU := FU) (pl := pl) (hd := hd) (rd := rd) hF (fr3.plc hC) hW (fr3.cj hJ) w2 d3 hr hc with ⟨gv3, I4, f1, f2, f3⟩ | ⟨gv3, f1⟩
      · have fr4 := fr3.trans f2
        have w3 := wfG_up w2 hr hc
        have c3 := gv_con w2 c2 gv3
        obtain ⟨I5, g1, g2, g3⟩ := c_nameRest (FU := FU) (pl := pl) (hd := hd) (rd := rd) hF hW (Pp P) 0 10 _ I4 (by omega) (by omega) (fr4.plc hC) (fr4.cj hJ) w3 c3 (fun z hz => by omega) f3
        have fr5 := fr4.trans g2
        have g1 : qX2_canNameRest FU 10 28 (0 : Int32) (I4, R0 pl (some 1) hd rd) = _ := g1
        have ext : Ex P (gUp (gUp (gUp noN h a) i b) r c) ↔ Tn P h i r a b c := by
          constructor
          · rintro ⟨f, q1, q2⟩
            have qr : f r = c := q2 r c (by unfold gUp; rw [if_pos rfl])
            have qi : f i = b := by
              by_cases z : i = r
              · -- given already
                have : c = b := by
                  unfold gvP at gv3
                  have e : gUp (gUp noN h a) i b r = some b := by
                    unfold gUp
                    rw [if_pos z.symm]
                  rw [e] at gv3
                  exact gv3.symm
                rw [z, qr, this]
              · exact q2 i b (by unfold gUp; rw [if_neg z, if_pos rfl])
            have qh : f h = a := by
              by_cases z : h = i
              · have : b = a := by
                  unfold gvP at gv2
                  have e : gUp noN h a i = some a := by
                    unfold gUp
                    rw [if_pos z.symm]
                  rw [e] at gv2
                  exact gv2.symm
                rw [z, qi, this]
              · by_cases y : h = r
                · have : c = a := by
                    unfold gvP at gv3
                    have e : gUp (gUp noN h a) i b r = some a := by
                      unfold gUp
                      rw [if_neg (fun q => z (by rw [y, q])), if_pos y.symm]
                    rw [e] at gv3
                    exact gv3.symm
                  rw [y, qr, this]
                · exact q2 h a (by unfold gUp; rw [if_neg y, if_neg z, if_pos rfl])
            exact ⟨f, q1, qh, qi, qr⟩
          · rintro ⟨f, q1, q2, q3, q4⟩
            refine ⟨f, q1, fun z n e => ?_⟩
            unfold gUp at e
            by_cases z1 : z = r
            · rw [if_pos z1] at e
              rw [z1, q4]
              exact Option.some.inj e
            · rw [if_neg z1] at e
              by_cases z2 : z = i
              · rw [if_pos z2] at e
                rw [z2, q3]
                exact Option.some.inj e
              · rw [if_neg z2] at e
                by_cases z3 : z = h
                · rw [if_pos z3] at e
                  rw [z3, q2]
                  exact Option.some.inj e
                · rw [if_neg z3] at e
                  cases e
        rw [dn f1, if_neg (by decide), w_bind, dn g1]
        by_cases q : exB P (gUp (gUp (gUp noN h a) i b) r c) = true
        · left
          refine ⟨ext.mp (exB_iff.mp q), I5, ?_, fr5⟩
          rw [b01_pos q, if_neg (by decide)]
          rfl
        · right
          refine ⟨fun t => q (exB_iff.mpr (ext.mpr t)), I5, ?_, fr5⟩
          rw [b01_neg q, if_pos (by decide)]
          rfl
      · right
        refine ⟨?_, I3, ?_, fr3⟩
        · rintro ⟨f, q1, q2, q3, q4⟩
          refine gv3 (ex_gv hW w2 hr q1 (fun z n e => ?_) q4)
          unfold gUp at e
          by_cases z2 : z = i
          · rw [if_pos z2] at e
            rw [z2, q3]
            exact Option.some.inj e
          · rw [if_neg z2] at e
            by_cases z3 : z = h
            · rw [if_pos z3] at e
              rw [z3, q2]
              exact Option.some.inj e
            · rw [if_neg z3] at e
              cases e
        · rw [dn f1, if_pos (by decide)]
          rfl
    · right
      refine ⟨?_, I2, ?_, fr2⟩
      · rintro ⟨f, q1, q2, q3, q4⟩
        refine gv2 (ex_gv hW w1 hi q1 (fun z n e => ?_) q3)
        unfold gUp at e
        by_cases z3 : z = h
        · rw [if_pos z3] at e
          rw [z3, q2]
          exact Option.some.inj e
        · rw [if_neg z3] at e
          cases e
      · rw [dn d1, if_pos (by decide)]
        rfl
  · right
    refine ⟨?_, I1, ?_, a2⟩
    · rintro ⟨f, q1, q2, q3, q4⟩
      exact gv1 (ex_gv hW nw hh q1 (fun z n e => by cases e) q2)
    · rw [dn b1, if_pos (by decide)]
      rfl
end Nam4
