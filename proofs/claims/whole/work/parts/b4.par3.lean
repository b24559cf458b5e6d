/-! texts: the reference's steps; the class's small methods -/
section Par3
variable {FU : Nat} {I J : Nat → Nat → Int32} {pl nm hd rd : Option Nat} {b : Nat → Int32} {n : Nat}
/-- tests on a token whose code is known -/
theorem tk_key {i k c : Nat} (hk : k < 5) (hc : c < 62) (h : TkJ b n i J) (e : cT b n i = nI c) : fX9_isKey FU 60 (nI k) (J, R0 pl nm hd rd) = some (nI (if c = 6 + k then 1 else 0), (J, R0 pl nm hd rd)) := by
  rw [r_isKey hk h, e]
  by_cases z : c = 6 + k
  · rw [if_pos z, b01_pos (by rw [z])]
  · rw [if_neg z, b01_neg (by rw [nI_eq (by omega) (by omega)]; exact z)]
theorem tk_sign {i k c : Nat} (hk : 40 ≤ k) (hk2 : k ≤ 61) (hc : c < 62) (h : TkJ b n i J) (e : cT b n i = nI c) : fX9_isSign FU 60 (nI k) (J, R0 pl nm hd rd) = some (nI (if c = k then 1 else 0), (J, R0 pl nm hd rd)) := by
  rw [r_isSign hk hk2 h, e]
  by_cases z : c = k
  · rw [if_pos z, b01_pos (by rw [z])]
  · rw [if_neg z, b01_neg (by rw [nI_eq (by omega) (by omega)]; exact z)]
theorem tk_kind {i c : Nat} (hc : c < 62) (h : TkJ b n i J) (e : cT b n i = nI c) : (c = 11 → J 60 33 = nI 1 ∧ J 60 34 = vT b n i) ∧ (c < 6 → J 60 33 = nI 2 ∧ J 60 34 = nI c) ∧ (c ≠ 11 → ¬ c < 6 → J 60 33 ≠ nI 1 ∧ J 60 33 ≠ nI 2) := by
  obtain ⟨_, h, _⟩ := h
  rw [e] at h
  rcases h with ⟨e, t⟩ | ⟨e, t, w⟩ | ⟨m, hm, e, t, w⟩ | ⟨m, hm, e, t, w⟩ | ⟨g, t, w⟩ | ⟨e, t⟩
  · have := (nI_eq (by omega) (by omega)).mp e
    exact ⟨fun q => by omega, fun q => by omega, fun _ _ => by rw [t]; decide⟩
  · have := (nI_eq (by omega) (by omega)).mp e
    exact ⟨fun _ => ⟨t, w⟩, fun q => by omega, fun q => absurd this q⟩
  · have := (nI_eq (by omega) (by omega)).mp e
    exact ⟨fun q => by omega, fun _ => ⟨t, by rw [w, this]⟩, fun _ q => by omega⟩
  · have := (nI_eq (by omega) (by omega)).mp e
    exact ⟨fun q => by omega, fun q => by omega, fun _ _ => by rw [t]; decide⟩
  · obtain ⟨m, e, m1, m2⟩ := isS_ge g
    have := (nI_eq (by omega) (by omega)).mp e
    exact ⟨fun q => by omega, fun q => by omega, fun _ _ => by rw [t]; decide⟩
  · have := (nI_eq (by omega) (by omega)).mp e
    exact ⟨fun q => by omega, fun q => by omega, fun _ _ => by rw [t]; decide⟩
/-- may an operand begin -/
theorem r_ahead {i c o : Nat} {x : Int32} (hc : c < 62) (h : TkJ b n i J) (e : cT b n i = nI c) (ho : J 60 40 = nI o) (h5 : o ≤ 5) (hx : x = 0 ∨ x = 1) : fX9_ahead FU 60 x (J, R0 pl nm hd rd) = some (if c = 11 ∨ c < 6 then nI 1 else if o = 5 then nI 0 else if c = 10 then x else if c = 40 ∨ c = 45 then nI 1 else nI 0, (J, R0 pl nm hd rd)) := by
  obtain ⟨k1, k2, k3⟩ := tk_kind hc h e
  unfold fX9_ahead
  rw [fIb_60]
  by_cases z : c = 11
  · rw [(k1 z).1, if_pos (by decide), if_pos (Or.inl z)]
    rfl
  · by_cases y : c < 6
    · rw [(k2 y).1, if_neg (by decide), fIb_60, (k2 y).1, if_neg (by decide), if_pos (Or.inr y)]
      rfl
    · obtain ⟨q1, q2⟩ := k3 z y
      rw [if_neg (show ¬ J 60 33 = (1 : Int32) from q1), fIb_60, if_pos (show ¬ J 60 33 = (2 : Int32) from q2), fIb_60, ho, if_neg (show ¬ (c = 11 ∨ c < 6) from fun w => w.elim z y)]
      by_cases w : o = 5
      · rw [w, if_neg (fun h => h rfl), if_pos rfl]
        rfl
      · have d4 := tk_key (FU := FU) (pl := pl) (nm := nm) (hd := hd) (rd := rd) (k := 4) (by decide) hc h e
        have s40 := tk_sign (FU := FU) (pl := pl) (nm := nm) (hd := hd) (rd := rd) (k := 40) (by decide) (by decide) hc h e
        have s45 := tk_sign (FU := FU) (pl := pl) (nm := nm) (hd := hd) (rd := rd) (k := 45) (by decide) (by decide) hc h e
        rw [if_pos (by rw [li_5, w_eq (by omega) (by omega)]; exact w), if_neg w, show rc 9 (some 60) = some 60 from rfl, w_bind, li_4]
        by_cases v : c = 10
        · rw [if_pos (show c = 6 + 4 by omega)] at d4
          rw [dn d4, if_neg (by decide), if_pos v, if_pos hx]
        · rw [if_neg (show ¬ c = 6 + 4 by omega)] at d4
          rw [dn d4, if_pos (by decide), if_neg v, w_bind, li_40]
          by_cases u : c = 40
          · rw [if_pos u] at s40
            rw [dn s40, if_pos (by decide), if_pos (Or.inl u)]
            rfl
          · rw [if_neg u] at s40
            rw [dn s40, if_neg (fun h => h rfl), w_bind, li_45]
            by_cases t : c = 45
            · rw [if_pos t] at s45
              rw [dn s45, if_neg (by decide), if_pos (Or.inr t)]
              rfl
            · rw [if_neg t] at s45
              rw [dn s45, if_pos (by decide), if_neg (fun h => h.elim u t)]
              rfl
theorem ms_put {i o k spot : Nat} {S out : List Int32} {c : Bool} {w : Int32} (hi : i ≤ 120) (hb : S.length + out.length < i) (h : MS b n i o S out k spot c J) : ∃ J', fX9_put FU 60 w (J, R0 pl nm hd rd) = some (J', R0 pl nm hd rd) ∧ MS b n i o S (out ++ [w]) k spot c J' ∧ FM k spot J J' := by
  obtain ⟨h1, h2, h3, h4, h5, h6, h7, h8, h9, h10, h11⟩ := h
  have p := r_put (FU := FU) (pl := pl) (nm := nm) (hd := hd) (rd := rd) (w := w) h6 h7.1 h9 (by omega)
  generalize hT : up2 (up2 J 78 (120 * spot + out.length) w) 77 spot (nI (out.length + 1)) = T at p
  have tq : ∀ q, q ≠ 77 → q ≠ 78 → T q = J q := fun q q2 q3 => by rw [← hT, up2_ne q2, up2_ne q3]
  refine ⟨T, p, ⟨h1.keep (tq 76 (by decide) (by decide)) (fun j hj => by rw [tq 60 (by decide) (by decide)]), ⟨by rw [tq 60 (by decide) (by decide), h2.1], fun j hj => by rw [tq 79 (by decide) (by decide)]; exact h2.2 j hj⟩, by rw [tq 60 (by decide) (by decide), h3], by rw [tq 60 (by decide) (by decide), h4], by rw [tq 80 (by decide) (by decide), h5], by rw [tq 60 (by decide) (by decide), h6], ⟨?_, fun j hj => ?_⟩, ?_, h9, h10, h11⟩, ⟨fun q _ q2 q3 _ _ => tq q q2 q3, fun j hj => by rw [← hT, up2_i hj, up2_k (by decide)], fun j hj => by rw [← hT, up2_k (by decide), up2_i (by omega)], fun j _ => by rw [tq 80 (by decide) (by decide)], fun j _ => by rw [tq 60 (by decide) (by decide)], by rw [tq 60 (by decide) (by decide)]⟩⟩
  · rw [← hT, up2_s, List.length_append]
    rfl
  · rw [List.length_append] at hj
    have hj : j < out.length + 1 := hj
    rw [← hT, up2_k (by decide)]
    by_cases z : j = out.length
    · rw [z, up2_s, gd_r]
    · rw [up2_i (by omega), h7.2 j (by omega), gd_l (by omega)]
  · rw [List.length_append]
    show S.length + (out.length + 1) ≤ i
    omega
/-- signs turned -/
def tns (m : Nat) : List Int32 := List.replicate m (mI 9)
theorem tns_op (m : Nat) : nOp (tns m) = m := by
  induction m with
  | zero => rfl
  | succ m ih =>
    show (if mI 9 = mI 3 ∨ mI 9 = mI 9 then 1 else 0) + nOp (tns m) = m + 1
    rw [ih, if_pos (Or.inr rfl)]
    omega
theorem tns_rev (m : Nat) : (tns m).reverse = tns m := List.reverse_replicate
theorem tns_rk (m : Nat) : ∀ w, w ∈ tns m → 7 ≤ rk w := by
  intro w hw
  have := (List.mem_replicate.mp hw).2
  rw [this]
  decide
/-- a number or a name is read -/
theorem m_atom (hF : 99999999 ≤ FU) {i o m c k spot : Nat} {S out : List Int32} {cp : Bool} {x : Int32} (hi : i < 120) (hc : c = 11 ∨ c < 6) (e : cT b n i = nI c) (hm : m ≤ o) (hS : topL S 7) (hx : x = 0 ∨ x = 1) (hb : (S ++ tns m).length + out.length < i) (h : MS b n i o (S ++ tns m) out k spot cp J) : ∃ J', (∀ F, fX9_part_L36 FU 60 (F + 1) (nI 1) x (J, R0 pl nm hd rd) = fX9_part_L36 FU 60 F (nI 0) x (J', R0 pl nm hd rd)) ∧ MS b n (i + 1) (o - m) S (out ++ (if c = 11 then vT b n i else nI (10000 + c)) :: tns m) k spot cp J' ∧ FM k spot J J' := by
  have hc62 : c < 62 := by omega
  have h1 := h.1
  obtain ⟨k1, k2, _⟩ := tk_kind hc62 h1 e
  have da := r_ahead (FU := FU) (pl := pl) (nm := nm) (hd := hd) (rd := rd) hc62 h1 e h.2.2.2.1 h.2.2.2.2.2.2.2.2.2.2 hx
  rw [if_pos hc] at da
  have d4 := tk_key (FU := FU) (pl := pl) (nm := nm) (hd := hd) (rd := rd) (k := 4) (by decide) hc62 h1 e
  have s40 := tk_sign (FU := FU) (pl := pl) (nm := nm) (hd := hd) (rd := rd) (k := 40) (by decide) (by decide) hc62 h1 e
  have s45 := tk_sign (FU := FU) (pl := pl) (nm := nm) (hd := hd) (rd := rd) (k := 45) (by decide) (by decide) hc62 h1 e
  rw [if_neg (by omega)] at d4 s40 s45
  generalize hw : (if c = 11 then vT b n i else nI (10000 + c)) = w
  obtain ⟨J1, a1, a2, a3⟩ := ms_put (FU := FU) (pl := pl) (nm := nm) (hd := hd) (rd := rd) (w := w) (by omega) hb h
  have eo : o = (o - m) + nOp (tns m) := by rw [tns_op]; omega
  rw [eo] at a2
  obtain ⟨J2, b1, b2, b3⟩ := ms_settle (FU := FU) (pl := pl) (nm := nm) (hd := hd) (rd := rd) hF (l := 7) (by decide) (by omega) hS (tns_rk m) a2
  obtain ⟨J3, c1, c2, c3⟩ := ms_next (FU := FU) (pl := pl) (nm := nm) (hd := hd) (rd := rd) hF b2
  refine ⟨J3, fun F => ?_, ?_, (a3.trans b3).trans c3⟩
  · rw [fX9_part_L36, if_neg (by decide), show rc 9 (some 60) = some 60 from rfl, w_bind, dn da, if_pos (by decide), w_bind, li_4, dn d4, if_pos (by decide), w_bind, li_45, dn s45, if_pos (by decide), w_bind, li_40, dn s40, if_pos (by decide), fIb_60]
    unfold fX9_part_b151 fX9_part_b162
    by_cases z : c = 11
    · rw [if_pos z] at hw
      rw [(k1 z).1, if_neg (fun h => h rfl), fIb_60, (k1 z).2, hw, show rc 9 (some 60) = some 60 from rfl, w_bind, dn1 a1, w_bind, li_7, dn1 b1, w_bind, dn1 c1, li_0]
    · rw [if_neg z] at hw
      have y : c < 6 := by omega
      have e1 : (10000 : Int32) + nI c = nI (10000 + c) := by rw [li_10000, nI_add]
      rw [(k2 y).1, if_pos (by decide), fIb_60, (k2 y).2, e1, hw, show rc 9 (some 60) = some 60 from rfl, w_bind, dn1 a1, w_bind, li_7, dn1 b1, w_bind, dn1 c1, li_0]
  · rw [tns_rev, List.append_assoc] at c2
    exact c2
/-- an operand can't begin here -/
theorem m_noOne {i o c k spot : Nat} {S out : List Int32} {cp : Bool} {x : Int32} (hc : c < 62) (e : cT b n i = nI c) (hx : x = 0 ∨ x = 1) (h1 : ¬ (c = 11 ∨ c < 6)) (h2 : o = 5 ∨ (¬ (c = 40 ∨ c = 45) ∧ (c = 10 → x = 0))) (h : MS b n i o S out k spot cp J) : ∀ F, fX9_part_L36 FU 60 (F + 1) (nI 1) x (J, R0 pl nm hd rd) = some (nI 0, (J, R0 pl nm hd rd)) := by
  intro F
  have da := r_ahead (FU := FU) (pl := pl) (nm := nm) (hd := hd) (rd := rd) hc h.1 e h.2.2.2.1 h.2.2.2.2.2.2.2.2.2.2 hx
  rw [if_neg h1] at da
  have da0 : fX9_ahead FU 60 x (J, R0 pl nm hd rd) = some (nI 0, (J, R0 pl nm hd rd)) := by
    rw [da]
    by_cases z : o = 5
    · rw [if_pos z]
    · rw [if_neg z]
      obtain ⟨w1, w2⟩ := h2.resolve_left z
      by_cases y : c = 10
      · rw [if_pos y, w2 y]
        rfl
      · rw [if_neg y, if_neg w1]
  rw [fX9_part_L36, if_neg (by decide), show rc 9 (some 60) = some 60 from rfl, w_bind, dn da0, if_neg (fun h => h rfl)]
  rfl
/-- not, a turned sign, a bracket: it opens -/
theorem m_open (hF : 99999999 ≤ FU) {i o c k spot : Nat} {S out : List Int32} {cp : Bool} {x : Int32} (hi : i < 120) (hc : c = 10 ∨ c = 45) (e : cT b n i = nI c) (ho : o < 5) (hx : x = 0 ∨ x = 1) (hx1 : c = 10 → x = 1) (hb : S.length + out.length < i) (h : MS b n i o S out k spot cp J) : ∃ J', (∀ F, fX9_part_L36 FU 60 (F + 1) (nI 1) x (J, R0 pl nm hd rd) = fX9_part_L36 FU 60 F (nI 1) (if c = 10 then x else nI 0) (J', R0 pl nm hd rd)) ∧ MS b n (i + 1) (o + 1) (S ++ [if c = 10 then mI 3 else mI 9]) out k spot cp J' ∧ FM k spot J J' := by
  have hc62 : c < 62 := by omega
  have da := r_ahead (FU := FU) (pl := pl) (nm := nm) (hd := hd) (rd := rd) hc62 h.1 e h.2.2.2.1 h.2.2.2.2.2.2.2.2.2.2 hx
  rw [if_neg (by omega), if_neg (by omega)] at da
  have d4 := tk_key (FU := FU) (pl := pl) (nm := nm) (hd := hd) (rd := rd) (k := 4) (by decide) hc62 h.1 e
  have s45 := tk_sign (FU := FU) (pl := pl) (nm := nm) (hd := hd) (rd := rd) (k := 45) (by decide) (by decide) hc62 h.1 e
  generalize hw : (if c = 10 then mI 3 else mI 9) = w
  obtain ⟨J1, a1, a2, a3, a4⟩ := ms_hold (FU := FU) (pl := pl) (nm := nm) (hd := hd) (rd := rd) (w := w) (o' := o + 1) hi (by omega) (by
    rw [if_pos]
    rw [← hw]
    split
    · exact Or.inl rfl
    · exact Or.inr (Or.inl rfl)) (by omega) h
  have m1 := a2 i h (by omega) a3
  obtain ⟨J2, b1, b2, b3⟩ := ms_next (FU := FU) (pl := pl) (nm := nm) (hd := hd) (rd := rd) hF m1
  refine ⟨J2, fun F => ?_, b2, a4.trans b3⟩
  rw [fX9_part_L36, if_neg (by decide), show rc 9 (some 60) = some 60 from rfl, w_bind, dn da]
  unfold fX9_part_b162
  by_cases z : c = 10
  · rw [if_pos z] at hw
    rw [if_pos (by omega)] at d4
    have a1 : fX9_hold FU 60 (-3 : Int32) (J, R0 pl nm hd rd) = some (J1, R0 pl nm hd rd) := by rw [← a1, ← hw]; rfl
    rw [if_pos z, hx1 z, if_pos (by decide), w_bind, li_4, dn d4, if_neg (by decide), w_bind, dn1 a1, show rc 9 (some 60) = some 60 from rfl, w_bind, dn1 b1, if_pos z]
  · have y : c = 45 := by omega
    rw [if_neg z] at hw
    rw [if_neg (by omega)] at d4
    rw [if_pos y] at s45
    have a1 : fX9_hold FU 60 (-9 : Int32) (J, R0 pl nm hd rd) = some (J1, R0 pl nm hd rd) := by rw [← a1, ← hw]; rfl
    rw [if_neg z, if_pos (Or.inr y), if_pos (by decide), w_bind, li_4, dn d4, if_pos (by decide), w_bind, li_45, dn s45, if_neg (by decide), w_bind, dn1 a1, show rc 9 (some 60) = some 60 from rfl, w_bind, dn1 b1, if_neg z]
    rfl
theorem m_brk (hF : 99999999 ≤ FU) {i o k spot : Nat} {S out : List Int32} {cp : Bool} {x : Int32} (hi : i < 120) (e : cT b n i = nI 40) (ho : o < 5) (hk : k ≤ o) (hx : x = 0 ∨ x = 1) (hb : S.length + out.length < i) (h : MS b n i o S out k spot cp J) : ∃ J', (∀ F, fX9_part_L36 FU 60 (F + 1) (nI 1) x (J, R0 pl nm hd rd) = fX9_part_L36 FU 60 F (nI 1) (nI 1) (J', R0 pl nm hd rd)) ∧ MS b n (i + 1) (o + 1) (S ++ [mI 10]) out (k + 1) spot false J' ∧ FM (k + 1) spot J J' ∧ J' 80 k = J 80 k := by
  have da := r_ahead (FU := FU) (pl := pl) (nm := nm) (hd := hd) (rd := rd) (c := 40) (by decide) h.1 e h.2.2.2.1 h.2.2.2.2.2.2.2.2.2.2 hx
  rw [if_neg (by decide), if_neg (by omega), if_neg (by decide), if_pos (by decide)] at da
  have d4 := tk_key (FU := FU) (pl := pl) (nm := nm) (hd := hd) (rd := rd) (k := 4) (c := 40) (by decide) (by decide) h.1 e
  have s40 := tk_sign (FU := FU) (pl := pl) (nm := nm) (hd := hd) (rd := rd) (k := 40) (c := 40) (by decide) (by decide) (by decide) h.1 e
  have s45 := tk_sign (FU := FU) (pl := pl) (nm := nm) (hd := hd) (rd := rd) (k := 45) (c := 40) (by decide) (by decide) (by decide) h.1 e
  rw [if_neg (by decide)] at d4 s45
  rw [if_pos rfl] at s40
  obtain ⟨J1, a1, a2, a3, a4⟩ := ms_hold (FU := FU) (pl := pl) (nm := nm) (hd := hd) (rd := rd) (w := mI 10) (o' := o + 1) hi (by omega) (by rw [if_pos (Or.inr (Or.inr rfl))]) (by omega) h
  have m1 := a2 i h (by omega) a3
  have hk5 : k ≤ 5 := h.2.2.2.2.2.2.2.2.2.1
  generalize hT : up2 (up2 J1 60 39 (nI (k + 1))) 80 (k + 1) (nI 0) = T
  have m2 : MS b n i (o + 1) (S ++ [mI 10]) out (k + 1) spot false T := by
    obtain ⟨h1, h2, h3, h4, h5, h6, h7, h8, h9, h10, h11⟩ := m1
    have tj : ∀ j, j ≠ 39 → T 60 j = J1 60 j := fun j hj => by rw [← hT, up2_k (by decide), up2_i hj]
    have tq : ∀ q, q ≠ 60 → q ≠ 80 → T q = J1 q := fun q q1 q2 => by rw [← hT, up2_ne q2, up2_ne q1]
    exact ⟨h1.keep (tq 76 (by decide) (by decide)) (fun j hj => tj j (by omega)), ⟨by rw [tj 38 (by decide), h2.1], fun j hj => by rw [tq 79 (by decide) (by decide)]; exact h2.2 j hj⟩, by rw [← hT, up2_k (by decide), up2_s], by rw [tj 40 (by decide), h4], by rw [← hT, up2_s, b01_neg Bool.false_ne_true], by rw [tj 41 (by decide), h6], ⟨by rw [tq 77 (by decide) (by decide), h7.1], fun j hj => by rw [tq 78 (by decide) (by decide)]; exact h7.2 j hj⟩, h8, h9, by omega, h11⟩
  obtain ⟨J2, b1, b2, b3⟩ := ms_next (FU := FU) (pl := pl) (nm := nm) (hd := hd) (rd := rd) hF m2
  have t80 : ∀ j, j ≠ k + 1 → T 80 j = J1 80 j := fun j hj => by rw [← hT, up2_i hj, up2_k (by decide)]
  have fT : FM (k + 1) spot J1 T := ⟨fun q q1 _ _ _ q5 => by rw [← hT, up2_ne q5, up2_ne q1], fun j _ => by rw [← hT, up2_k (by decide), up2_k (by decide)], fun j _ => by rw [← hT, up2_k (by decide), up2_k (by decide)], fun j hj => t80 j (by omega), fun j hj => by rw [← hT, up2_k (by decide), up2_i (by omega)], by rw [← hT, up2_k (by decide), up2_i (by decide)]⟩
  have a4' : FM (k + 1) spot J J1 := ⟨a4.1, a4.2.1, a4.2.2.1, fun j hj => by
    by_cases z : j = k
    · rw [z, m1.2.2.2.2.1, h.2.2.2.2.1]
    · exact a4.2.2.2.1 j (by omega), a4.2.2.2.2.1, a4.2.2.2.2.2⟩
  have fin := (a4'.trans fT).trans b3
  refine ⟨J2, fun F => ?_, b2, fin, fin.2.2.2.1 k (by omega)⟩
  have j39 : J1 60 39 = nI k := m1.2.2.1
  have x39 : up2 J1 60 39 (nI (k + 1)) 60 39 = nI (k + 1) := up2_s
  have nz : narA 1 (nI 0) = nI 0 := nar1_0
  have a1 : fX9_hold FU 60 (-10 : Int32) (J, R0 pl nm hd rd) = some (J1, R0 pl nm hd rd) := a1
  rw [fX9_part_L36, if_neg (by decide), show rc 9 (some 60) = some 60 from rfl, w_bind, dn da, if_pos (by decide), w_bind, li_4, dn d4, if_pos (by decide), w_bind, li_45, dn s45, if_pos (by decide), w_bind, li_40, dn s40, if_neg (by decide), w_bind, dn1 a1, fIb_60, j39, li_1, nI_add, pIb_60, fRb_60_37, fIb_60, x39, li_0, sIb_80 (by omega), nz, hT]
  unfold fX9_part_b162
  rw [show rc 9 (some 60) = some 60 from rfl, w_bind, dn1 b1]
end Par3
