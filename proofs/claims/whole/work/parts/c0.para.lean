/-! texts: both read alike: not, and, or -/
section ParA
variable {FU : Nat} {I J : Nat → Nat → Int32} {pl nm hd pz nz hz dz : Option Nat} {b : Nat → Int32} {n r : Nat} {v : Nat → Int32}
def nxN (b : Nat → Int32) (n i : Nat) (c : Bool) : Prop := (cT b n i = nI 60 ∨ cT b n i = nI 61 → c = true) ∧ cT b n i ≠ nI 42 ∧ cT b n i ≠ nI 43 ∧ cT b n i ≠ nI 45
def SpNot (FU : Nat) (b : Nat → Int32) (n r : Nat) (v : Nat → Int32) (pl nm hd pz nz hz dz : Option Nat) (g : Mem → Option (Int32 × Mem)) (o : Nat) : Prop := ∀ i S out k spot I J, En b n r v i o S out k spot false I J → topL S 4 → Oc FU b n r v pl nm hd pz nz hz dz 3 i o S out k spot (fun F => fX9_part_L36 FU 60 F (nI 1) (nI 1) (J, R0 pz nz hz dz)) (g (I, R0 pl nm hd (some r))) I J (nxN b n)
/-- a comparison's second side -/
theorem l_cmp (hF : 99999999 ≤ FU) {gS : Mem → Option (Int32 × Mem)} {o : Nat} (h : SpT FU b n r v pl nm hd pz nz hz dz 5 gS o (fun i' => cT b n i' ≠ nI 42 ∧ cT b n i' ≠ nI 43 ∧ cT b n i' ≠ nI 45)) {cc : Nat} {w : Int32} (hw : opP cc w) (hr : rk w = 4) {i i1 : Nat} {S out em pe : List Int32} {k spot : Nat} {I1 J1 : Nat → Nat → Int32} {x y : Int32} {st : Nat → Option (Int32 × Mem)} {cls : Option (Int32 × Mem)} (hS : topL S 4) (hk : k ≤ o) (e : cT b n i1 = nI cc) (g2 : CSt b n r i1 o v I1) (g3 : FC I I1) (g4 : i ≤ i1) (g6 : MS b n i1 (o + nOp pe) (S ++ pe) (out ++ em) k spot false J1) (g7 : FM k spot J J1) (g8 : ∀ F, st (F + (i1 - i)) = fX9_part_L36 FU 60 F (nI 0) y (J1, R0 pz nz hz dz)) (g9 : ∀ w, w ∈ pe → 5 ≤ rk w) (g10 : cdV v (em ++ pe.reverse) x) (g11 : (S ++ pe).length + (out ++ em).length < i1) (hc : cls = (fX4_next FU 48 (I1, R0 pl nm hd (some r))).bind fun M => bd2 (gS M) fun y M' => some (bth w x y, M')) : Oc FU b n r v pl nm hd pz nz hz dz 3 i o S out k spot st cls I J (nxN b n) := by
  obtain ⟨q1, _, _, _, _, _, q7, _, _⟩ := opP_ok hw
  have i120 : i1 < 120 := tok120 g2 e q1 (fun z => by
    subst z
    rcases hw with ⟨z, _⟩ | ⟨z, _⟩ | ⟨z, _⟩ | ⟨z, _⟩ | ⟨z, _⟩ | ⟨z, _⟩ | ⟨z, _⟩ <;> omega)
  obtain ⟨J2, b1, b2, b3⟩ := m_bin (FU := FU) (pl := pz) (nm := nz) (hd := hz) (rd := dz) hF (x := y) i120 hw e (by rw [hr]; exact hS) (fun u hu => by rw [hr]; have := g9 u hu; omega) (fun _ => rfl) g11 g6
  obtain ⟨I2, a1, a2, a3⟩ := c_nextS (FU := FU) (pl := pl) (nm := nm) (hd := hd) hF g2
  rw [hr] at b1 b2
  rw [if_pos rfl] at b2
  have lens : (S ++ [w]).length + (out ++ em ++ pe.reverse).length < i1 + 1 := by
    simp only [List.length_append, List.length_reverse, List.length_cons, List.length_nil] at g11 ⊢
    omega
  have sp := h (i1 + 1) (S ++ [w]) (out ++ em ++ pe.reverse) k spot true (nI 0) I2 J2 ⟨a2, b2, lens, by omega, hk⟩ (topL_app (by omega)) (Or.inl rfl)
  rcases sp with ⟨y1, I3, i3, em2, pe2, c2, J3, z2, r1, r2, r3, r4, r5, r6, r7, r8, r9, r10, r11, r12, r13⟩ | ⟨y1, I3, j, J3, r1, r2, r3, r4, r5, r6⟩
  · have eS : (S ++ [w]) ++ pe2 = S ++ (w :: pe2) := by rw [List.append_assoc]; rfl
    have eO : (out ++ em ++ pe.reverse) ++ em2 = out ++ (em ++ pe.reverse ++ em2) := by rw [List.append_assoc, List.append_assoc, List.append_assoc]
    have nw : nOp (w :: pe2) = nOp pe2 := by
      show (if w = mI 3 ∨ w = mI 9 then 1 else 0) + nOp pe2 = nOp pe2
      rw [if_neg q7, Nat.zero_add]
    refine Or.inl ⟨bth w x y1, I3, i3, em ++ pe.reverse ++ em2, w :: pe2, c2, J3, z2, ?_, r2, (g3.trans a3).trans r3, by omega, r5, ?_, (g7.trans b3).trans r7, fun F => ?_, ?_, ?_, ?_, ?_⟩
    · rw [hc, dn1 a1, dn r1]
    · rw [nw, ← eS, ← eO]
      exact r6
    · rw [show F + (i3 - i) = ((F + (i3 - (i1 + 1))) + 1) + (i1 - i) by omega, g8, b1]
      exact r8 F
    · intro u hu
      rcases List.mem_cons.mp hu with z | z
      · rw [z, hr]; decide
      · have := r9 u z
        omega
    · have := cv_bin hw g10 r10
      rw [List.reverse_cons, ← List.append_assoc, List.append_assoc (em ++ pe.reverse) em2]
      exact this
    · rw [← eS, ← eO]
      exact r11
    · exact ⟨fun _ => r13, r12⟩
  · refine Or.inr ⟨bth w x y1, I3, j, J3, ?_, r2, (g3.trans a3).trans r3, fun F hF' => ?_, r5, (g7.trans b3).trans r6⟩
    · rw [hc, dn1 a1, dn r1]
    · obtain ⟨F0, rfl⟩ : ∃ F0, F = (F0 + 1) + (i1 - i) := ⟨F - (i1 - i) - 1, by omega⟩
      rw [g8, b1]
      exact r4 F0 (by omega)
theorem l_not (hF : 99999999 ≤ FU) {gE gO gN : Nat → Mem → Option (Int32 × Mem)} {o : Nat} (ho5 : o ≤ 5) (h : SpT FU b n r v pl nm hd pz nz hz dz 5 (fX4_readSum FU gE gO 48) o (fun i' => cT b n i' ≠ nI 42 ∧ cT b n i' ≠ nI 43 ∧ cT b n i' ≠ nI 45)) (hN : o < 5 → SpNot FU b n r v pl nm hd pz nz hz dz (gN 48) (o + 1)) : SpNot FU b n r v pl nm hd pz nz hz dz (fX4_readNot FU gE gO gN 48) o := by
  intro i S out k spot I J hE hS
  obtain ⟨hC, hM, hb, hi, hk⟩ := hE
  obtain ⟨cc, e, hcc⟩ := code_of b n i
  have rc4 : rc 4 (some 48) = some 48 := rfl
  have z0 : nI 0 = (0 : Int32) := rfl
  have n10 := c_isNow (FU := FU) (pl := pl) (nm := nm) (hd := hd) (c := 10) (by decide) hC
  by_cases c10 : cc = 10
  · have e10 : cT b n i = nI 10 := by rw [e, c10]
    by_cases o5 : o < 5
    · have i120 := tok120 hC e hcc (by omega)
      obtain ⟨I1, a1, a2, a3⟩ := c_opens (FU := FU) (pl := pl) (nm := nm) (hd := hd) hF hC o5
      obtain ⟨J1, b1, b2, b3⟩ := m_open (FU := FU) (pl := pz) (nm := nz) (hd := hz) (rd := dz) hF (x := nI 1) i120 (Or.inl c10) e o5 (Or.inr rfl) (fun _ => rfl) hb hM
      rw [if_pos c10] at b1 b2
      have lens : (S ++ [mI 3]).length + out.length < i + 1 := by
        simp only [List.length_append, List.length_cons, List.length_nil]
        omega
      have sp := hN o5 (i + 1) (S ++ [mI 3]) out k spot I1 J1 ⟨a2, b2, lens, by omega, by omega⟩ (topL_app (by decide))
      rcases sp with ⟨x, I2, i2, em, pe, c1, J2, y, g1, g2, g3, g4, g5, g6, g7, g8, g9, g10, g11, g12⟩ | ⟨x, I2, j, J2, g1, g2, g3, g4, g5, g6⟩
      · obtain ⟨q1, q2⟩ := g2.opn2 o
        have eS : (S ++ [mI 3]) ++ pe = S ++ (mI 3 :: pe) := by rw [List.append_assoc]; rfl
        have nw : nOp (mI 3 :: pe) = 1 + nOp pe := by
          show (if mI 3 = mI 3 ∨ mI 3 = mI 9 then 1 else 0) + nOp pe = 1 + nOp pe
          rw [if_pos (Or.inl rfl)]
        refine Or.inl ⟨(if ¬ x = 0 then 0 else 1), up2 I2 48 10 (nI o), i2, em, mI 3 :: pe, c1, J2, y, ?_, q1, (a3.trans g3).trans q2, by omega, g5, ?_, b3.trans g7, fun F => ?_, ?_, ?_, ?_, g12⟩
        · unfold fX4_readNot
          rw [rc4, w_bind, li_10, dn n10, b01_pos e10, if_neg (by decide), w_bind, dn a1, if_pos (by decide), w_bind, dn g1, fIb_48, g2.2.1, li_1, w_sub (by omega), show o + 1 - 1 = o by omega, pIb_48]
          by_cases z : x = 0
          · rw [if_neg (fun h => h z), if_neg (fun h => h z)]
          · rw [if_pos z, if_pos z]
        · rw [nw, ← eS, show o + (1 + nOp pe) = o + 1 + nOp pe by omega]
          exact g6
        · rw [show F + (i2 - i) = (F + (i2 - (i + 1))) + 1 by omega]
          show fX9_part_L36 FU 60 ((F + (i2 - (i + 1))) + 1) (nI 1) (nI 1) (J, R0 pz nz hz dz) = _
          rw [b1]
          exact g8 F
        · intro u hu
          rcases List.mem_cons.mp hu with z | z
          · rw [z]; decide
          · exact g9 u z
        · have := cv_not g10
          rw [List.reverse_cons, ← List.append_assoc]
          exact this
        · rw [← eS]
          exact g11
      · obtain ⟨q1, q2⟩ := g2.opn2 (I2 48 10 - 1)
        refine Or.inr ⟨(if ¬ x = 0 then 0 else 1), _, j, J2, ?_, q1, (a3.trans g3).trans q2, fun F hF' => ?_, g5, b3.trans g6⟩
        · unfold fX4_readNot
          rw [rc4, w_bind, li_10, dn n10, b01_pos e10, if_neg (by decide), w_bind, dn a1, if_pos (by decide), w_bind, dn g1, fIb_48, pIb_48]
          by_cases z : x = 0
          · rw [if_neg (fun h => h z), if_neg (fun h => h z)]
          · rw [if_pos z, if_pos z]
        · obtain ⟨F0, rfl⟩ : ∃ F0, F = F0 + 1 := ⟨F - 1, by omega⟩
          show fX9_part_L36 FU 60 (F0 + 1) (nI 1) (nI 1) (J, R0 pz nz hz dz) = _
          rw [b1]
          exact g4 F0 (by omega)
    · have o55 : o = 5 := by omega
      subst o55
      obtain ⟨I1, a1, a2, a3⟩ := c_opensN (FU := FU) (pl := pl) (nm := nm) (hd := hd) hC
      refine Or.inr ⟨0, I1, i, J, ?_, a2, a3, fun F hF' => ?_, hM.at, FM.refl⟩
      · unfold fX4_readNot
        rw [rc4, w_bind, li_10, dn n10, b01_pos e10, if_neg (by decide), w_bind, dn a1, if_neg (fun h => h rfl)]
      · obtain ⟨F0, rfl⟩ : ∃ F0, F = F0 + 1 := ⟨F - 1, by omega⟩
        exact m_noOne (FU := FU) (pl := pz) (nm := nz) (hd := hz) (rd := dz) hcc e (Or.inr rfl) (by omega) (Or.inl rfl) hM F0
  · have f10 : ¬ cT b n i = nI 10 := by rw [code_ne e hcc (by decide)]; exact c10
    have sp := h i S out k spot false (nI 1) I J ⟨hC, hM, hb, hi, hk⟩ (hS.mono (by decide)) (Or.inr ⟨rfl, f10⟩)
    rcases sp with ⟨x, I1, i1, em, pe, c1, J1, y, g1, g2, g3, g4, g5, g6, g7, g8, g9, g10, g11, g12, g13⟩ | ⟨x, I1, j, J1, g1, g2, g3, g4, g5, g6⟩
    · subst g13
      have n60 := c_isNow (FU := FU) (pl := pl) (nm := nm) (hd := hd) (c := 60) (by decide) g2
      have n61 := c_isNow (FU := FU) (pl := pl) (nm := nm) (hd := hd) (c := 61) (by decide) g2
      by_cases t60 : cT b n i1 = nI 60
      · refine l_cmp hF h (cc := 60) (w := mI 4) (Or.inr (Or.inr (Or.inl ⟨rfl, rfl⟩))) (by decide) hS hk t60 g2 g3 g4 g6 g7 g8 g9 g10 g11 ?_
        unfold fX4_readNot
        rw [rc4, w_bind, li_10, dn n10, b01_neg f10, if_pos z0, w_bind, dn g1, w_bind, li_60, dn n60, b01_pos t60, if_neg (by decide), w_bind]
        congr 1
        funext M
        rw [w_bind]
        congr 1
        funext y M'
        show _ = some ((if y ≤ x then 0 else 1), M')
        by_cases z : y ≤ x
        · rw [if_pos z, if_pos z]
        · rw [if_neg z, if_neg z]
      · by_cases t61 : cT b n i1 = nI 61
        · refine l_cmp hF h (cc := 61) (w := mI 5) (Or.inr (Or.inr (Or.inr (Or.inl ⟨rfl, rfl⟩)))) (by decide) hS hk t61 g2 g3 g4 g6 g7 g8 g9 g10 g11 ?_
          unfold fX4_readNot
          rw [rc4, w_bind, li_10, dn n10, b01_neg f10, if_pos z0, w_bind, dn g1, w_bind, li_60, dn n60, b01_neg t60, if_pos z0, w_bind, li_61, dn n61, b01_pos t61, if_neg (by decide), w_bind]
          congr 1
          funext M
          rw [w_bind]
          congr 1
          funext y M'
          show _ = some ((if ¬ x = y then 0 else 1), M')
          by_cases z : x = y
          · rw [if_neg (fun h => h z), if_neg (fun h => h z)]
          · rw [if_pos z, if_pos z]
        · refine Or.inl ⟨x, I1, i1, em, pe, false, J1, y, ?_, g2, g3, g4, g5, g6, g7, g8, fun w hw => Nat.le_trans (by decide) (g9 w hw), g10, g11, fun z => (z.elim t60 t61).elim, g12⟩
          unfold fX4_readNot
          rw [rc4, w_bind, li_10, dn n10, b01_neg f10, if_pos z0, w_bind, dn g1, w_bind, li_60, dn n60, b01_neg t60, if_pos z0, w_bind, li_61, dn n61, b01_neg t61, if_pos z0]
    · refine Or.inr ⟨x, I1, j, J1, ?_, g2, g3, g4, g5, g6⟩
      unfold fX4_readNot
      rw [rc4, w_bind, li_10, dn n10, b01_neg f10, if_pos z0, w_bind, dn g1, w_bind, dn (c_isNowF (FU := FU) (pl := pl) (nm := nm) (hd := hd) g2), if_pos z0, w_bind, dn (c_isNowF (FU := FU) (pl := pl) (nm := nm) (hd := hd) g2), if_pos z0]
theorem l_and (hF : 99999999 ≤ FU) {gE gO gN : Nat → Mem → Option (Int32 × Mem)} {o : Nat} (h : SpNot FU b n r v pl nm hd pz nz hz dz (fX4_readNot FU gE gO gN 48) o) {i : Nat} {S out : List Int32} {k spot : Nat} (hE : En b n r v i o S out k spot false I J) (hS : topL S 2) : Oc FU b n r v pl nm hd pz nz hz dz 2 i o S out k spot (fun F => fX9_part_L36 FU 60 F (nI 1) (nI 1) (J, R0 pz nz hz dz)) (fX4_readAnd FU gE gO gN 48 (I, R0 pl nm hd (some r))) I J (fun i' c1 => nxN b n i' c1 ∧ cT b n i' ≠ nI 9) := by
  have rc4 : rc 4 (some 48) = some 48 := rfl
  have z0 : nI 0 = (0 : Int32) := rfl
  have rd : fX4_readAnd FU gE gO gN 48 (I, R0 pl nm hd (some r)) = bd2 (fX4_readNot FU gE gO gN 48 (I, R0 pl nm hd (some r))) fun x M => fX4_readAnd_L7 FU gE gO gN 48 FU x (nI 0) M := by
    unfold fX4_readAnd
    rw [rc4, w_bind]
    rfl
  rw [rd]
  have oc : ∀ {i S out k spot c I J}, En b n r v i o S out k spot c I J → topL S 3 → c = false → Oc FU b n r v pl nm hd pz nz hz dz 3 i o S out k spot (fun F => fX9_part_L36 FU 60 F (nI 1) (nI 1) (J, R0 pz nz hz dz)) (fX4_readNot FU gE gO gN 48 (I, R0 pl nm hd (some r))) I J (fun i' c1 => nxN b n i' c1 ∧ (3 ≤ 2 → c1 = c)) := by
    intro i S out k spot c I J hE hS hc
    subst hc
    exact (h i S out k spot I J hE (hS.mono (by decide))).nx fun i' c1 q => ⟨q, fun z => absurd z (by decide)⟩
  have lv := bin_lvl hF (R := 2) (R' := 3) (ops := fun c w => c = 9 ∧ w = mI 2) (CL := fX4_readAnd_L7 FU gE gO gN 48) (nx' := nxN b n) (fun c w hw => ⟨Or.inr (Or.inl hw), by rw [hw.2]; decide⟩) (by decide) (by decide) (by decide) (g := fX4_readNot FU gE gO gN 48) (fun F x M => by
      conv => lhs; unfold fX4_readAnd_L7
      rw [li_120, if_pos (by rw [w_le (by decide) (by decide)]; exact Nat.le_refl _)]) (fun F x kc i I hk hC hn => by
      conv => lhs; unfold fX4_readAnd_L7
      rw [li_120, if_neg (by rw [w_le (by decide) (by omega)]; omega), rc4, w_bind, li_9, dn (c_isNow (FU := FU) (pl := pl) (nm := nm) (hd := hd) (c := 9) (by decide) hC), b01_neg (hn 9 _ ⟨rfl, rfl⟩), if_pos z0]) (fun F x kc j I hk hC => by
      conv => lhs; unfold fX4_readAnd_L7
      rw [li_120, if_neg (by rw [w_le (by decide) (by omega)]; omega), rc4, w_bind, dn (c_isNowF (FU := FU) (pl := pl) (nm := nm) (hd := hd) hC), if_pos z0]) (fun F x kc i I c w hk hC hw e => by
      obtain ⟨w1, w2⟩ := hw
      subst w1
      subst w2
      conv => lhs; unfold fX4_readAnd_L7
      rw [li_120, if_neg (by rw [w_le (by decide) (by omega)]; omega), rc4, w_bind, li_9, dn (c_isNow (FU := FU) (pl := pl) (nm := nm) (hd := hd) (c := 9) (by decide) hC), b01_pos e, if_neg (by decide), w_bind]
      congr 1
      funext M
      rw [w_bind]
      congr 1
      funext y M'
      unfold fX4_readAnd_b43 fX4_readAnd_b44
      rw [li_1, nI_add]
      have bt : bth (mI 2) x y = if x = 0 then 0 else if y = 0 then 0 else 1 := rfl
      rw [bt]
      by_cases zx : x = 0
      · rw [if_pos zx, if_pos zx]
      · rw [if_neg zx, if_neg zx]
        by_cases zy : y = 0
        · rw [if_pos zy, if_pos zy]
        · rw [if_neg zy, if_neg zy]
          rfl) (fun i S out k spot c I J hE hS hc => oc hE hS (hc (by decide))) hS hE.2.2.2.2 hE.2.2.2.1 (oc hE (hS.mono (by decide)) rfl)
  exact lv.nx fun i' c1 q => ⟨q.1, q.2.1 9 _ ⟨rfl, rfl⟩⟩
theorem l_or (hF : 99999999 ≤ FU) {gE gO gN : Nat → Mem → Option (Int32 × Mem)} {o : Nat} (h : SpNot FU b n r v pl nm hd pz nz hz dz (fX4_readNot FU gE gO gN 48) o) : SpE FU b n r v pl nm hd pz nz hz dz (fX4_readE FU gE gO gN 48) o := by
  intro i S out k spot I J hE hS
  have rc4 : rc 4 (some 48) = some 48 := rfl
  have z0 : nI 0 = (0 : Int32) := rfl
  have rd : fX4_readE FU gE gO gN 48 (I, R0 pl nm hd (some r)) = bd2 (fX4_readAnd FU gE gO gN 48 (I, R0 pl nm hd (some r))) fun x M => fX4_readE_L7 FU gE gO gN 48 FU x (nI 0) M := by
    unfold fX4_readE
    rw [rc4, w_bind]
    rfl
  rw [rd]
  have oc : ∀ {i S out k spot c I J}, En b n r v i o S out k spot c I J → topL S 2 → c = false → Oc FU b n r v pl nm hd pz nz hz dz 2 i o S out k spot (fun F => fX9_part_L36 FU 60 F (nI 1) (nI 1) (J, R0 pz nz hz dz)) (fX4_readAnd FU gE gO gN 48 (I, R0 pl nm hd (some r))) I J (fun i' c1 => (nxN b n i' c1 ∧ cT b n i' ≠ nI 9) ∧ (3 ≤ 1 → c1 = c)) := by
    intro i S out k spot c I J hE hS hc
    subst hc
    exact (l_and hF h hE hS).nx fun i' c1 q => ⟨q, fun z => absurd z (by decide)⟩
  have lv := bin_lvl hF (R := 1) (R' := 2) (ops := fun c w => c = 8 ∧ w = mI 1) (CL := fX4_readE_L7 FU gE gO gN 48) (nx' := fun i' c1 => nxN b n i' c1 ∧ cT b n i' ≠ nI 9) (fun c w hw => ⟨Or.inl hw, by rw [hw.2]; decide⟩) (by decide) (by decide) (by decide) (g := fX4_readAnd FU gE gO gN 48) (fun F x M => by
      conv => lhs; unfold fX4_readE_L7
      rw [li_120, if_pos (by rw [w_le (by decide) (by decide)]; exact Nat.le_refl _)]) (fun F x kc i I hk hC hn => by
      conv => lhs; unfold fX4_readE_L7
      rw [li_120, if_neg (by rw [w_le (by decide) (by omega)]; omega), rc4, w_bind, li_8, dn (c_isNow (FU := FU) (pl := pl) (nm := nm) (hd := hd) (c := 8) (by decide) hC), b01_neg (hn 8 _ ⟨rfl, rfl⟩), if_pos z0]) (fun F x kc j I hk hC => by
      conv => lhs; unfold fX4_readE_L7
      rw [li_120, if_neg (by rw [w_le (by decide) (by omega)]; omega), rc4, w_bind, dn (c_isNowF (FU := FU) (pl := pl) (nm := nm) (hd := hd) hC), if_pos z0]) (fun F x kc i I c w hk hC hw e => by
      obtain ⟨w1, w2⟩ := hw
      subst w1
      subst w2
      conv => lhs; unfold fX4_readE_L7
      rw [li_120, if_neg (by rw [w_le (by decide) (by omega)]; omega), rc4, w_bind, li_8, dn (c_isNow (FU := FU) (pl := pl) (nm := nm) (hd := hd) (c := 8) (by decide) hC), b01_pos e, if_neg (by decide), w_bind]
      congr 1
      funext M
      rw [w_bind]
      congr 1
      funext y M'
      unfold fX4_readE_b39 fX4_readE_b44
      rw [li_1, nI_add]
      have bt : bth (mI 1) x y = if ¬ x = 0 then 1 else if y = 0 then 0 else 1 := rfl
      rw [bt]
      by_cases zx : x = 0
      · have nzx : ¬ ¬ x = 0 := fun h => h zx
        rw [if_neg nzx, if_neg nzx]
        by_cases zy : y = 0
        · rw [if_pos zy, if_pos zy]
        · rw [if_neg zy, if_neg zy]
          rfl
      · rw [if_pos zx, if_pos zx]
        rfl) (fun i S out k spot c I J hE hS hc => oc hE hS (hc (by decide))) hS hE.2.2.2.2 hE.2.2.2.1 (oc hE (hS.mono (by decide)) rfl)
  exact lv.nx fun i' c1 q => ⟨q.1.1.1, q.1.1.2.1, q.1.1.2.2.1, q.1.1.2.2.2, q.1.2, q.2.1 8 _ ⟨rfl, rfl⟩⟩
theorem l_all (hF : 99999999 ≤ FU) : ∀ d o, o ≤ 5 → 5 < o + d → SpE FU b n r v pl nm hd pz nz hz dz ((qX4 FU d).1 48) o ∧ SpOne FU b n r v pl nm hd pz nz hz dz ((qX4 FU d).2.1 48) o ∧ SpNot FU b n r v pl nm hd pz nz hz dz ((qX4 FU d).2.2 48) o := by
  intro d
  induction d with
  | zero => intro o h1 h2; omega
  | succ d ih =>
    intro o h1 h2
    have h1' := l_one hF (gE := (qX4 FU d).1) (gO := (qX4 FU d).2.1) (b := b) (n := n) (r := r) (v := v) (pl := pl) (nm := nm) (hd := hd) (pz := pz) (nz := nz) (hz := hz) (dz := dz) h1 (fun z => (ih (o + 1) (by omega) (by omega)).1) (fun z => (ih (o + 1) (by omega) (by omega)).2.1)
    have hN := l_not hF (gN := (qX4 FU d).2.2) h1 (l_sums hF (l_term hF h1')) (fun z => (ih (o + 1) (by omega) (by omega)).2.2)
    exact ⟨l_or hF hN, h1', hN⟩
theorem l_E (hF : 99999999 ≤ FU) : SpE FU b n r v pl nm hd pz nz hz dz (qX4_readE FU 10 48) 0 := (l_all hF 10 0 (by decide) (by decide)).1
theorem cf_term (hF : 99999999 ≤ FU) {gE gO : Nat → Mem → Option (Int32 × Mem)} {j : Nat} (h : CFt b n r j I) : fX4_readTerm FU gE gO 48 (I, R0 pl nm hd (some r)) = some (nI 0, (I, R0 pl nm hd (some r))) := by
  obtain ⟨G, hG⟩ : ∃ G, FU = G + 1 := ⟨FU - 1, by omega⟩
  have rc4 : rc 4 (some 48) = some 48 := rfl
  have z0 : nI 0 = (0 : Int32) := rfl
  unfold fX4_readTerm
  rw [rc4, w_bind, dn (cf_one (FU := FU) (pl := pl) (nm := nm) (hd := hd) h)]
  conv => lhs; rw [show fX4_readTerm_L7 FU gE gO 48 FU = fX4_readTerm_L7 FU gE gO 48 (G + 1) by rw [hG]]
  unfold fX4_readTerm_L7
  rw [if_neg (by decide), rc4, w_bind, dn (c_isNowF (FU := FU) (pl := pl) (nm := nm) (hd := hd) h), if_pos z0]
theorem cf_sum (hF : 99999999 ≤ FU) {gE gO : Nat → Mem → Option (Int32 × Mem)} {j : Nat} (h : CFt b n r j I) : fX4_readSum FU gE gO 48 (I, R0 pl nm hd (some r)) = some (nI 0, (I, R0 pl nm hd (some r))) := by
  obtain ⟨G, hG⟩ : ∃ G, FU = G + 1 := ⟨FU - 1, by omega⟩
  have rc4 : rc 4 (some 48) = some 48 := rfl
  have z0 : nI 0 = (0 : Int32) := rfl
  unfold fX4_readSum
  rw [rc4, w_bind, dn (cf_term hF h)]
  conv => lhs; rw [show fX4_readSum_L7 FU gE gO 48 FU = fX4_readSum_L7 FU gE gO 48 (G + 1) by rw [hG]]
  unfold fX4_readSum_L7
  rw [if_neg (by decide), rc4, w_bind, dn (c_isNowF (FU := FU) (pl := pl) (nm := nm) (hd := hd) h), if_neg (fun h => h z0), w_bind, dn (c_isNowF (FU := FU) (pl := pl) (nm := nm) (hd := hd) h), if_pos z0]
theorem cf_not (hF : 99999999 ≤ FU) {gE gO gN : Nat → Mem → Option (Int32 × Mem)} {j : Nat} (h : CFt b n r j I) : fX4_readNot FU gE gO gN 48 (I, R0 pl nm hd (some r)) = some (nI 0, (I, R0 pl nm hd (some r))) := by
  have rc4 : rc 4 (some 48) = some 48 := rfl
  have z0 : nI 0 = (0 : Int32) := rfl
  unfold fX4_readNot
  rw [rc4, w_bind, dn (c_isNowF (FU := FU) (pl := pl) (nm := nm) (hd := hd) h), if_pos z0, w_bind, dn (cf_sum hF h), w_bind, dn (c_isNowF (FU := FU) (pl := pl) (nm := nm) (hd := hd) h), if_pos z0, w_bind, dn (c_isNowF (FU := FU) (pl := pl) (nm := nm) (hd := hd) h), if_pos z0]
theorem cf_and (hF : 99999999 ≤ FU) {gE gO gN : Nat → Mem → Option (Int32 × Mem)} {j : Nat} (h : CFt b n r j I) : fX4_readAnd FU gE gO gN 48 (I, R0 pl nm hd (some r)) = some (nI 0, (I, R0 pl nm hd (some r))) := by
  obtain ⟨G, hG⟩ : ∃ G, FU = G + 1 := ⟨FU - 1, by omega⟩
  have rc4 : rc 4 (some 48) = some 48 := rfl
  have z0 : nI 0 = (0 : Int32) := rfl
  unfold fX4_readAnd
  rw [rc4, w_bind, dn (cf_not hF h)]
  conv => lhs; rw [show fX4_readAnd_L7 FU gE gO gN 48 FU = fX4_readAnd_L7 FU gE gO gN 48 (G + 1) by rw [hG]]
  unfold fX4_readAnd_L7
  rw [if_neg (by decide), rc4, w_bind, dn (c_isNowF (FU := FU) (pl := pl) (nm := nm) (hd := hd) h), if_pos z0]
theorem cf_E (hF : 99999999 ≤ FU) {j : Nat} (h : CFt b n r j I) : qX4_readE FU 10 48 (I, R0 pl nm hd (some r)) = some (nI 0, (I, R0 pl nm hd (some r))) := by
  obtain ⟨G, hG⟩ : ∃ G, FU = G + 1 := ⟨FU - 1, by omega⟩
  have rc4 : rc 4 (some 48) = some 48 := rfl
  have z0 : nI 0 = (0 : Int32) := rfl
  show fX4_readE FU (qX4 FU 9).1 (qX4 FU 9).2.1 (qX4 FU 9).2.2 48 (I, R0 pl nm hd (some r)) = _
  unfold fX4_readE
  rw [rc4, w_bind, dn (cf_and hF h)]
  conv => lhs; rw [show fX4_readE_L7 FU (qX4 FU 9).1 (qX4 FU 9).2.1 (qX4 FU 9).2.2 48 FU = fX4_readE_L7 FU (qX4 FU 9).1 (qX4 FU 9).2.1 (qX4 FU 9).2.2 48 (G + 1) by rw [hG]]
  unfold fX4_readE_L7
  rw [if_neg (by decide), rc4, w_bind, dn (c_isNowF (FU := FU) (pl := pl) (nm := nm) (hd := hd) h), if_pos z0]
end ParA
