/-! texts: the reference behind an operand; values of codes; the class's small methods -/
section Par5
variable {FU : Nat} {I J : Nat → Nat → Int32} {pl nm hd rd : Option Nat} {b : Nat → Int32} {n : Nat}
theorem sg_no {c : Nat} (hc : c < 62) : (c = 8 ∨ c = 9 ∨ c = 60 ∨ c = 61 ∨ c = 43 ∨ c = 45 ∨ c = 42) ∨ sgO (nI c) = nI 0 := by
  by_cases h : c = 8 ∨ c = 9 ∨ c = 60 ∨ c = 61 ∨ c = 43 ∨ c = 45 ∨ c = 42
  · exact Or.inl h
  · right
    have ne : ∀ d, d < 62 → c ≠ d → ¬ nI c = nI d := fun d hd' h => by rw [nI_eq (by omega) (by omega)]; exact h
    unfold sgO
    rw [if_neg (ne 8 (by decide) (by omega)), if_neg (ne 9 (by decide) (by omega)), if_neg (ne 60 (by decide) (by omega)), if_neg (ne 61 (by decide) (by omega)), if_neg (ne 43 (by decide) (by omega)), if_neg (ne 45 (by decide) (by omega)), if_neg (ne 42 (by decide) (by omega))]
/-- a sign that binds two: its code, what it is held as -/
def opP (c : Nat) (w : Int32) : Prop := (c = 8 ∧ w = mI 1) ∨ (c = 9 ∧ w = mI 2) ∨ (c = 60 ∧ w = mI 4) ∨ (c = 61 ∧ w = mI 5) ∨ (c = 43 ∧ w = mI 6) ∨ (c = 45 ∧ w = mI 7) ∨ (c = 42 ∧ w = mI 8)
theorem opP_ok {c : Nat} {w : Int32} (h : opP c w) : c < 62 ∧ c ≠ 59 ∧ c ≠ 41 ∧ sgO (nI c) = w ∧ ¬ w = 0 ∧ ¬ (w = mI 3 ∨ w = mI 9 ∨ w = mI 10) ∧ ¬ (w = mI 3 ∨ w = mI 9) ∧ 1 ≤ rk w ∧ rk w ≤ 6 := by
  rcases h with ⟨e, w⟩ | ⟨e, w⟩ | ⟨e, w⟩ | ⟨e, w⟩ | ⟨e, w⟩ | ⟨e, w⟩ | ⟨e, w⟩
  · subst e w; decide
  · subst e w; decide
  · subst e w; decide
  · subst e w; decide
  · subst e w; decide
  · subst e w; decide
  · subst e w; decide
theorem m_bin (hF : 99999999 ≤ FU) {i o c k spot : Nat} {S pe out : List Int32} {cp : Bool} {x w : Int32} (hi : i < 120) (hw : opP c w) (e : cT b n i = nI c) (hS : topL S (rk w)) (hq : ∀ v, v ∈ pe → rk w ≤ rk v) (hcp : rk w = 4 → cp = false) (hb : (S ++ pe).length + out.length < i) (h : MS b n i (o + nOp pe) (S ++ pe) out k spot cp J) : ∃ J', (∀ F, fX9_part_L36 FU 60 (F + 1) (nI 0) x (J, R0 pl nm hd rd) = fX9_part_L36 FU 60 F (nI 1) (nI (if 3 ≤ rk w then 0 else 1)) (J', R0 pl nm hd rd)) ∧ MS b n (i + 1) o (S ++ [w]) (out ++ pe.reverse) k spot (if rk w = 4 then true else if rk w ≤ 2 then false else cp) J' ∧ FM k spot J J' := by
  obtain ⟨w1, w2, w3, w4, w5, w6, w7, w8, w9⟩ := opP_ok hw
  have s59 := tk_sign (FU := FU) (pl := pl) (nm := nm) (hd := hd) (rd := rd) (k := 59) (by decide) (by decide) w1 h.1 e
  have s41 := tk_sign (FU := FU) (pl := pl) (nm := nm) (hd := hd) (rd := rd) (k := 41) (by decide) (by decide) w1 h.1 e
  rw [if_neg w2] at s59
  rw [if_neg w3] at s41
  have so := r_signOf (FU := FU) (pl := pl) (nm := nm) (hd := hd) (rd := rd) h.1
  rw [e, w4] at so
  have hk5 : k ≤ 5 := h.2.2.2.2.2.2.2.2.2.1
  have j39 : J 60 39 = nI k := h.2.2.1
  have j80 : J 80 k = b01 (cp = true) := h.2.2.2.2.1
  generalize hc' : (if rk w = 4 then true else if rk w ≤ 2 then false else cp) = c'
  generalize hT : up2 J 80 k (b01 (c' = true)) = T
  have tq : ∀ q, q ≠ 80 → T q = J q := fun q hq => by rw [← hT, up2_ne hq]
  have m0 : MS b n i (o + nOp pe) (S ++ pe) out k spot c' T := by
    obtain ⟨h1, h2, h3, h4, h5, h6, h7, h8⟩ := h
    exact ⟨h1.keep (tq 76 (by decide)) (fun j _ => by rw [tq 60 (by decide)]), ⟨by rw [tq 60 (by decide), h2.1], fun j hj => by rw [tq 79 (by decide)]; exact h2.2 j hj⟩, by rw [tq 60 (by decide), h3], by rw [tq 60 (by decide), h4], by rw [← hT, up2_s], by rw [tq 60 (by decide), h6], ⟨by rw [tq 77 (by decide), h7.1], fun j hj => by rw [tq 78 (by decide)]; exact h7.2 j hj⟩, h8⟩
  have f0 : FM k spot J T := ⟨fun q _ _ _ _ q5 => tq q q5, fun j _ => by rw [tq 77 (by decide)], fun j _ => by rw [tq 78 (by decide)], fun j hj => by rw [← hT, up2_i (by omega)], fun j _ => by rw [tq 60 (by decide)], by rw [tq 60 (by decide)]⟩
  obtain ⟨J1, a1, a2, a3⟩ := ms_settle (FU := FU) (pl := pl) (nm := nm) (hd := hd) (rd := rd) hF (l := rk w) (by omega) (by omega) hS hq m0
  have hb2 : S.length + (out ++ pe.reverse).length < i := by
    rw [List.length_append] at hb
    rw [List.length_append, List.length_reverse]
    omega
  obtain ⟨J2, b1, b2, b3, b4⟩ := ms_hold (FU := FU) (pl := pl) (nm := nm) (hd := hd) (rd := rd) (w := w) (o' := o) hi (by omega) (by rw [if_neg w6]; rfl) a2.2.2.2.2.2.2.2.2.2.2 a2
  have m2 := b2 i a2 (by omega) b3
  obtain ⟨J3, c1, c2, c3⟩ := ms_next (FU := FU) (pl := pl) (nm := nm) (hd := hd) (rd := rd) hF m2
  refine ⟨J3, fun F => ?_, c2, ((f0.trans a3).trans b4).trans c3⟩
  have tail : ∀ y : Int32, narA 1 y = b01 (c' = true) → fX9_part_b337 FU (fX9_part_L36 FU 60 F) 60 w (some 80) (nI k) y (J, R0 pl nm hd rd) = fX9_part_L36 FU 60 F (nI 1) (nI (if 3 ≤ rk w then 0 else 1)) (J3, R0 pl nm hd rd) := by
    intro y hy
    unfold fX9_part_b337 fX9_part_b368
    rw [sIb_80 (by omega), hy, hT, show rc 9 (some 60) = some 60 from rfl, w_bind, dn (r_rank _ _), w_bind, dn1 a1, w_bind, dn1 b1, w_bind, dn (r_rank _ _)]
    by_cases z : 3 ≤ rk w
    · rw [if_pos (by rw [li_3, w_le (by omega) (by omega)]; exact z), if_pos z, w_bind, dn1 c1]
      rfl
    · rw [if_neg (by rw [li_3, w_le (by omega) (by omega)]; exact z), if_neg z, w_bind, dn1 c1]
      rfl
  have y1 : narA 1 (1 : Int32) = b01 (true = true) := by decide
  have y0 : narA 1 (0 : Int32) = b01 (false = true) := by decide
  have mid : fX9_part_b294 FU (fX9_part_L36 FU 60 F) 60 w (J, R0 pl nm hd rd) = fX9_part_L36 FU 60 F (nI 1) (nI (if 3 ≤ rk w then 0 else 1)) (J3, R0 pl nm hd rd) := by
    unfold fX9_part_b294 fX9_part_b332 fX9_part_b336
    rw [fRb_60_37, fIb_60, j39, show rc 9 (some 60) = some 60 from rfl, w_bind, dn (r_rank _ _)]
    by_cases z4 : rk w = 4
    · rw [if_pos (by rw [z4]; rfl)]
      rw [if_pos z4] at hc'
      exact tail _ (by rw [← hc']; exact y1)
    · rw [if_neg (by rw [li_4, w_eq (by omega) (by omega)]; exact z4), w_bind, dn (r_rank _ _)]
      rw [if_neg z4] at hc'
      by_cases z2 : rk w ≤ 2
      · rw [if_pos (by rw [li_2, w_le (by omega) (by omega)]; exact z2)]
        rw [if_pos z2] at hc'
        exact tail _ (by rw [← hc']; exact y0)
      · rw [if_neg (by rw [li_2, w_le (by omega) (by omega)]; exact z2), fRb_60_37, fIb_60, j39, aIb_80 (by omega), j80]
        rw [if_neg z2] at hc'
        cases cp with
        | true =>
          rw [if_neg (by decide)]
          exact tail _ (by rw [← hc']; exact y1)
        | false =>
          rw [if_pos (by decide)]
          exact tail _ (by rw [← hc']; exact y0)
  rw [fX9_part_L36, if_pos (by decide), show rc 9 (some 60) = some 60 from rfl, w_bind, li_59, dn s59, if_pos (by decide), w_bind, li_41, dn s41, if_pos (by decide), w_bind, dn so, if_neg w5, w_bind, dn (r_rank _ _)]
  by_cases z4 : rk w = 4
  · have cf := hcp z4
    rw [if_neg (fun h => h (by rw [z4]; rfl)), fRb_60_37, fIb_60, j39, aIb_80 (by omega), j80, cf, if_pos (by decide)]
    exact mid
  · rw [if_pos (by rw [li_4, w_eq (by omega) (by omega)]; exact z4)]
    exact mid
theorem topL_app {S : List Int32} {w : Int32} {l : Nat} (h : rk w < l) : topL (S ++ [w]) l := by
  intro j hj
  rw [List.length_append] at hj
  have hj : j + 1 = S.length + 1 := hj
  have e : j = S.length := by omega
  rw [e, gd_r]
  exact h
theorem m_close (hF : 99999999 ≤ FU) {i o m k spot : Nat} {S pe out : List Int32} {c1 cp : Bool} {x : Int32} (hi : i < 120) (e : cT b n i = nI 41) (hm : m ≤ o) (ho : o ≤ 4) (hS : topL S 7) (hq : ∀ v, v ∈ pe → 1 ≤ rk v) (h80 : J 80 k = b01 (cp = true)) (h : MS b n i (o + 1 + nOp pe) ((S ++ tns m) ++ [mI 10] ++ pe) out (k + 1) spot c1 J) : ∃ J', (∀ F, fX9_part_L36 FU 60 (F + 1) (nI 0) x (J, R0 pl nm hd rd) = fX9_part_L36 FU 60 F (nI 0) x (J', R0 pl nm hd rd)) ∧ MS b n (i + 1) (o - m) S (out ++ pe.reverse ++ tns m) k spot cp J' ∧ FM k spot J J' := by
  have s59 := tk_sign (FU := FU) (pl := pl) (nm := nm) (hd := hd) (rd := rd) (k := 59) (c := 41) (by decide) (by decide) (by decide) h.1 e
  have s41 := tk_sign (FU := FU) (pl := pl) (nm := nm) (hd := hd) (rd := rd) (k := 41) (c := 41) (by decide) (by decide) (by decide) h.1 e
  rw [if_neg (by decide)] at s59
  rw [if_pos rfl] at s41
  have j39 : J 60 39 = nI (k + 1) := h.2.2.1
  have hk5 : k + 1 ≤ 5 := h.2.2.2.2.2.2.2.2.2.1
  obtain ⟨J1, a1, a2, a3⟩ := ms_settle (FU := FU) (pl := pl) (nm := nm) (hd := hd) (rd := rd) hF (l := 1) (by decide) (by omega) (topL_app (by decide)) hq h
  have len : ((S ++ tns m) ++ [mI 10]).length = (S ++ tns m).length + 1 := by rw [List.length_append]; rfl
  generalize hB : S ++ tns m = B at a2 len
  have j38 : J1 60 38 = nI (B.length + 1) := by rw [a2.2.1.1, len]
  have j40 : J1 60 40 = nI (o + 1) := a2.2.2.2.1
  have j39' : J1 60 39 = nI (k + 1) := a2.2.2.1
  generalize hT : up2 (up2 (up2 J1 60 38 (nI B.length)) 60 40 (nI o)) 60 39 (nI k) = T
  have tj : ∀ j, j ≠ 38 → j ≠ 39 → j ≠ 40 → T 60 j = J1 60 j := fun j j1 j2 j3 => by rw [← hT, up2_i j2, up2_i j3, up2_i j1]
  have tq : ∀ q, q ≠ 60 → T q = J1 q := fun q hq => by rw [← hT, up2_ne hq, up2_ne hq, up2_ne hq]
  have m1 : MS b n i ((o - m) + nOp (tns m)) (S ++ tns m) (out ++ pe.reverse) k spot cp T := by
    rw [tns_op, show o - m + m = o by omega, hB]
    obtain ⟨h1, h2, h3, h4, h5, h6, h7, h8, h9, h10, h11⟩ := a2
    rw [len] at h2 h8
    refine ⟨h1.keep (tq 76 (by decide)) (fun j hj => tj j (by omega) (by omega) (by omega)), ⟨by rw [← hT, up2_i (by decide), up2_i (by decide), up2_s], fun j hj => by rw [tq 79 (by decide), h2.2 j (by omega), gd_l hj]⟩, by rw [← hT, up2_s], by rw [← hT, up2_i (by decide), up2_s], by rw [tq 80 (by decide), a3.2.2.2.1 k (by omega), h80], by rw [tj 41 (by decide) (by decide) (by decide), h6], ⟨by rw [tq 77 (by decide), h7.1], fun j hj => by rw [tq 78 (by decide)]; exact h7.2 j hj⟩, by omega, h9, by omega, by omega⟩
  have fT : FM k spot J1 T := ⟨fun q q1 _ _ _ _ => tq q q1, fun j _ => by rw [tq 77 (by decide)], fun j _ => by rw [tq 78 (by decide)], fun j _ => by rw [tq 80 (by decide)], fun j hj => tj j (by omega) (by omega) (by omega), tj 36 (by decide) (by decide) (by decide)⟩
  obtain ⟨J2, b1, b2, b3⟩ := ms_settle (FU := FU) (pl := pl) (nm := nm) (hd := hd) (rd := rd) hF (l := 7) (by decide) (by omega) hS (tns_rk m) m1
  obtain ⟨J3, c1', c2, c3⟩ := ms_next (FU := FU) (pl := pl) (nm := nm) (hd := hd) (rd := rd) hF b2
  rw [tns_rev] at c2
  refine ⟨J3, fun F => ?_, c2, (((a3.mono (by omega)).trans fT).trans b3).trans c3⟩
  have x40 : up2 J1 60 38 (nI B.length) 60 40 = nI (o + 1) := by rw [up2_i (by decide), j40]
  have x39 : up2 (up2 J1 60 38 (nI B.length)) 60 40 (nI o) 60 39 = nI (k + 1) := by rw [up2_i (by decide), up2_i (by decide), j39']
  rw [fX9_part_L36, if_pos (by decide), show rc 9 (some 60) = some 60 from rfl, w_bind, li_59, dn s59, if_pos (by decide), w_bind, li_41, dn s41, if_neg (by decide), fIb_60, j39, if_pos (by rw [li_0, w_eq (by omega) (by omega)]; omega), w_bind, li_1, dn1 a1, fIb_60, j38, w_sub (by omega), show B.length + 1 - 1 = B.length by omega, pIb_60, fIb_60, x40, w_sub (by omega), show o + 1 - 1 = o by omega, pIb_60, fIb_60, x39, w_sub (by omega), show k + 1 - 1 = k by omega, pIb_60, hT, w_bind, li_7, dn1 b1, w_bind, dn1 c1']
theorem m_semi (hF : 99999999 ≤ FU) {i o k spot : Nat} {S pe out : List Int32} {cp : Bool} {x : Int32} (hi : i ≤ 120) (e : cT b n i = nI 59) (hS : topL S 1) (hq : ∀ v, v ∈ pe → 1 ≤ rk v) (h : MS b n i (o + nOp pe) (S ++ pe) out k spot cp J) : ∃ J', (∀ F, fX9_part_L36 FU 60 (F + 1) (nI 0) x (J, R0 pl nm hd rd) = some (nI (if k = 0 then 1 else 0), (J', R0 pl nm hd rd))) ∧ MS b n i o S (out ++ pe.reverse) k spot cp J' ∧ FM k spot J J' := by
  have s59 := tk_sign (FU := FU) (pl := pl) (nm := nm) (hd := hd) (rd := rd) (k := 59) (c := 59) (by decide) (by decide) (by decide) h.1 e
  rw [if_pos rfl] at s59
  have hk5 : k ≤ 5 := h.2.2.2.2.2.2.2.2.2.1
  obtain ⟨J1, a1, a2, a3⟩ := ms_settle (FU := FU) (pl := pl) (nm := nm) (hd := hd) (rd := rd) hF (l := 1) (by decide) hi hS hq h
  refine ⟨J1, fun F => ?_, a2, a3⟩
  rw [fX9_part_L36, if_pos (by decide), show rc 9 (some 60) = some 60 from rfl, w_bind, li_59, dn s59, if_neg (by decide), w_bind, li_1, dn1 a1, fIb_60, a2.2.2.1]
  by_cases z : k = 0
  · rw [if_pos z, z, if_neg (fun h => h rfl)]
  · rw [if_neg z, if_pos (by rw [li_0, w_eq (by omega) (by omega)]; exact z)]
    rfl
theorem m_no0 {i o c k spot : Nat} {S out : List Int32} {cp : Bool} {x : Int32} (hc : c < 62) (e : cT b n i = nI c) (h1 : c ≠ 59) (h2 : (c = 41 ∧ k = 0) ∨ (c ≠ 41 ∧ sgO (nI c) = nI 0) ∨ ((c = 60 ∨ c = 61) ∧ cp = true)) (h : MS b n i o S out k spot cp J) : ∀ F, fX9_part_L36 FU 60 (F + 1) (nI 0) x (J, R0 pl nm hd rd) = some (nI 0, (J, R0 pl nm hd rd)) := by
  intro F
  have s59 := tk_sign (FU := FU) (pl := pl) (nm := nm) (hd := hd) (rd := rd) (k := 59) (by decide) (by decide) hc h.1 e
  have s41 := tk_sign (FU := FU) (pl := pl) (nm := nm) (hd := hd) (rd := rd) (k := 41) (by decide) (by decide) hc h.1 e
  have so := r_signOf (FU := FU) (pl := pl) (nm := nm) (hd := hd) (rd := rd) h.1
  rw [e] at so
  rw [if_neg h1] at s59
  have hk5 : k ≤ 5 := h.2.2.2.2.2.2.2.2.2.1
  have j39 : J 60 39 = nI k := h.2.2.1
  have j80 : J 80 k = b01 (cp = true) := h.2.2.2.2.1
  rw [fX9_part_L36, if_pos (by decide), show rc 9 (some 60) = some 60 from rfl, w_bind, li_59, dn s59, if_pos (by decide), w_bind, li_41]
  rcases h2 with ⟨q1, q2⟩ | ⟨q1, q2⟩ | ⟨q1, q2⟩
  · rw [if_pos q1] at s41
    rw [dn s41, if_neg (by decide), fIb_60, j39, q2, if_neg (fun h => h rfl)]
    rfl
  · rw [if_neg q1] at s41
    rw [q2] at so
    rw [dn s41, if_pos (by decide), w_bind, dn so, if_pos (by decide)]
    rfl
  · rw [if_neg (by omega)] at s41
    rw [dn s41, if_pos (by decide), w_bind, dn so]
    rcases q1 with q1 | q1
    · subst q1
      rw [if_neg (by decide), w_bind, dn (r_rank _ _), if_neg (fun h => h rfl), fRb_60_37, fIb_60, j39, aIb_80 (by omega), j80, q2, if_neg (by decide)]
      rfl
    · subst q1
      rw [if_neg (by decide), w_bind, dn (r_rank _ _), if_neg (fun h => h rfl), fRb_60_37, fIb_60, j39, aIb_80 (by omega), j80, q2, if_neg (by decide)]
      rfl
end Par5
