/-! texts: both read alike: operands -/
section Par8
variable {FU : Nat} {I J : Nat → Nat → Int32} {pl nm hd pz nz hz dz : Option Nat} {b : Nat → Int32} {n r : Nat} {v : Nat → Int32}
def pxO (b : Nat → Int32) (n i : Nat) (x : Int32) : Prop := x = nI 0 ∨ (x = nI 1 ∧ cT b n i ≠ nI 10)
def SpOne (FU : Nat) (b : Nat → Int32) (n r : Nat) (v : Nat → Int32) (pl nm hd pz nz hz dz : Option Nat) (g : Mem → Option (Int32 × Mem)) (o : Nat) : Prop := ∀ m i S out k spot c x0 I J, CSt b n r i o v I → MS b n i o (S ++ tns m) out k spot c J → (S ++ tns m).length + out.length < i → i ≤ 120 → k + m ≤ o → topL S 7 → pxO b n i x0 → (∃ x I' i' em J' y, g (I, R0 pl nm hd (some r)) = some (x, (I', R0 pl nm hd (some r))) ∧ CSt b n r i' o v I' ∧ FC I I' ∧ i ≤ i' ∧ i' ≤ 120 ∧ MS b n i' (o - m) S (out ++ (em ++ tns m)) k spot c J' ∧ FM k spot J J' ∧ (∀ F, fX9_part_L36 FU 60 (F + (i' - i)) (nI 1) x0 (J, R0 pz nz hz dz) = fX9_part_L36 FU 60 F (nI 0) y (J', R0 pz nz hz dz)) ∧ cdV v em x ∧ S.length + (out ++ (em ++ tns m)).length < i') ∨ (∃ x I' j J', g (I, R0 pl nm hd (some r)) = some (x, (I', R0 pl nm hd (some r))) ∧ CFt b n r j I' ∧ FC I I' ∧ (∀ F, 130 ≤ F + i → fX9_part_L36 FU 60 F (nI 1) x0 (J, R0 pz nz hz dz) = some (nI 0, (J', R0 pz nz hz dz))) ∧ J' 60 35 = nI (sS b n j) ∧ FM k spot J J')
def nxE (b : Nat → Int32) (n i : Nat) (c : Bool) : Prop := (cT b n i = nI 60 ∨ cT b n i = nI 61 → c = true) ∧ cT b n i ≠ nI 42 ∧ cT b n i ≠ nI 43 ∧ cT b n i ≠ nI 45 ∧ cT b n i ≠ nI 9 ∧ cT b n i ≠ nI 8
def SpE (FU : Nat) (b : Nat → Int32) (n r : Nat) (v : Nat → Int32) (pl nm hd pz nz hz dz : Option Nat) (g : Mem → Option (Int32 × Mem)) (o : Nat) : Prop := ∀ i S out k spot I J, En b n r v i o S out k spot false I J → topL S 1 → Oc FU b n r v pl nm hd pz nz hz dz 1 i o S out k spot (fun F => fX9_part_L36 FU 60 F (nI 1) (nI 1) (J, R0 pz nz hz dz)) (g (I, R0 pl nm hd (some r))) I J (nxE b n)
theorem code_of (b : Nat → Int32) (n i : Nat) : ∃ c, cT b n i = nI c ∧ c < 62 := by
  obtain ⟨k, e, k1, _⟩ := tkC_lt (b := b) (n := n) (sS b n i)
  exact ⟨k, e, k1⟩
theorem code_ne {b : Nat → Int32} {n i c d : Nat} (e : cT b n i = nI c) (hc : c < 62) (hd' : d < 62) : (cT b n i = nI d) ↔ c = d := by
  rw [e, nI_eq (by omega) (by omega)]
theorem tok120 {b : Nat → Int32} {n r i o : Nat} {v : Nat → Int32} {I : Nat → Nat → Int32} (h : CSt b n r i o v I) {c : Nat} (e : cT b n i = nI c) (hc : c < 62) (h12 : c ≠ 12) : i < 120 := by
  have n120 := h.1.1.2.2.1
  have := tok_lt (b := b) (n := n) (i := i) (by rw [Ne, code_ne e hc (by decide)]; exact h12)
  omega
theorem MS.at {b : Nat → Int32} {n i o k spot : Nat} {S out : List Int32} {c : Bool} {J : Nat → Nat → Int32} (h : MS b n i o S out k spot c J) : J 60 35 = nI (sS b n i) := h.1.2.2
theorem CSt.opn2 {b : Nat → Int32} {n r i o : Nat} {v : Nat → Int32} {I : Nat → Nat → Int32} (h : CSt b n r i o v I) (o' : Nat) : CSt b n r i o' v (up2 I 48 10 (nI o')) ∧ FC I (up2 I 48 10 (nI o')) := ⟨⟨⟨h.1.1.keep (fun q hq => up2_ne hq) (up2_i (by decide)) (by rw [up2_i (by decide)]; exact h.1.1.2.2.2.2.2.1) h.1.1.2.2.2.2.2.2, by rw [up2_i (by decide), h.1.2.1], by rw [up2_i (by decide), h.1.2.2.1], fun q => by rw [up2_i (by decide)]; exact h.1.2.2.2 q⟩, by rw [up2_s], by rw [up2_i (by decide), h.2.2.1], fun k hk => by rw [up2_k (by decide)]; exact h.2.2.2 k hk⟩, fun q hq => up2_ne hq, fun j hj => up2_i (by omega)⟩
theorem CFt.opn2 {b : Nat → Int32} {n r j : Nat} {I : Nat → Nat → Int32} (h : CFt b n r j I) (x : Int32) : CFt b n r j (up2 I 48 10 x) ∧ FC I (up2 I 48 10 x) := by
  obtain ⟨⟨k, hk⟩, h3⟩ := h
  exact ⟨⟨⟨k, hk.keep (fun q hq => up2_ne hq) (up2_i (by decide)) (by rw [up2_i (by decide)]; exact hk.2.2.2.2.2.1) hk.2.2.2.2.2.2⟩, by rw [up2_i (by decide), h3]⟩, fun q hq => up2_ne hq, fun j hj => up2_i (by omega)⟩
theorem tns_s (m : Nat) (S : List Int32) : (S ++ tns m) ++ [mI 9] = S ++ tns (m + 1) := by
  rw [List.append_assoc]
  congr 1
  show List.replicate m (mI 9) ++ [mI 9] = List.replicate (m + 1) (mI 9)
  rw [← List.replicate_succ']
theorem l_one (hF : 99999999 ≤ FU) {gE gO : Nat → Mem → Option (Int32 × Mem)} {o : Nat} (ho5 : o ≤ 5) (hE : o < 5 → SpE FU b n r v pl nm hd pz nz hz dz (gE 48) (o + 1)) (hO : o < 5 → SpOne FU b n r v pl nm hd pz nz hz dz (gO 48) (o + 1)) : SpOne FU b n r v pl nm hd pz nz hz dz (fX4_readOne FU gE gO 48) o := by
  intro m i S out k spot c x0 I J hC hM hb hi hk hS hx
  obtain ⟨cc, e, hcc⟩ := code_of b n i
  have hx01 : x0 = 0 ∨ x0 = 1 := by
    rcases hx with z | ⟨z, _⟩
    · exact Or.inl z
    · exact Or.inr z
  have n11 := c_isNow (FU := FU) (pl := pl) (nm := nm) (hd := hd) (c := 11) (by decide) hC
  have n45 := c_isNow (FU := FU) (pl := pl) (nm := nm) (hd := hd) (c := 45) (by decide) hC
  have n40 := c_isNow (FU := FU) (pl := pl) (nm := nm) (hd := hd) (c := 40) (by decide) hC
  have rc4 : rc 4 (some 48) = some 48 := rfl
  have atom : ∀ x, (cc = 11 ∨ cc < 6) → (∃ I', fX4_readOne FU gE gO 48 (I, R0 pl nm hd (some r)) = some (x, (I', R0 pl nm hd (some r))) ∧ CSt b n r (i + 1) o v I' ∧ FC I I') → cdV v [if cc = 11 then vT b n i else nI (10000 + cc)] x → ∃ x I' i' em J' y, fX4_readOne FU gE gO 48 (I, R0 pl nm hd (some r)) = some (x, (I', R0 pl nm hd (some r))) ∧ CSt b n r i' o v I' ∧ FC I I' ∧ i ≤ i' ∧ i' ≤ 120 ∧ MS b n i' (o - m) S (out ++ (em ++ tns m)) k spot c J' ∧ FM k spot J J' ∧ (∀ F, fX9_part_L36 FU 60 (F + (i' - i)) (nI 1) x0 (J, R0 pz nz hz dz) = fX9_part_L36 FU 60 F (nI 0) y (J', R0 pz nz hz dz)) ∧ cdV v em x ∧ S.length + (out ++ (em ++ tns m)).length < i' := by
    rintro x hc ⟨I', a1, a2, a3⟩ hv
    have i120 := tok120 hC e hcc (by omega)
    obtain ⟨J', b1, b2, b3⟩ := m_atom (FU := FU) (pl := pz) (nm := nz) (hd := hz) (rd := dz) hF i120 hc e (by omega) hS hx01 hb hM
    refine ⟨x, I', i + 1, [if cc = 11 then vT b n i else nI (10000 + cc)], J', x0, a1, a2, a3, by omega, by omega, b2, b3, fun F => ?_, hv, ?_⟩
    · rw [show F + (i + 1 - i) = F + 1 by omega]
      exact b1 F
    · rw [List.length_append] at hb
      rw [List.length_append, List.length_append]
      show S.length + (out.length + (1 + (tns m).length)) < i + 1
      omega
  by_cases c11 : cc = 11
  · left
    have e11 : cT b n i = nI 11 := by rw [e, c11]
    obtain ⟨I', a1, a2, a3⟩ := c_nextS (FU := FU) (pl := pl) (nm := nm) (hd := hd) hF hC
    obtain ⟨mm, m1, m2⟩ := vT_n e11
    refine atom (vT b n i) (Or.inl c11) ⟨I', ?_, a2, a3⟩ (by rw [if_pos c11, m2]; exact cv_num m1)
    unfold fX4_readOne
    rw [rc4, w_bind, li_11, dn n11, b01_pos e11, if_neg (by decide), fIb_48, hC.1.2.2.2 e11, w_bind, dn1 a1]
  · have f11 : ¬ cT b n i = nI 11 := by rw [code_ne e hcc (by decide)]; exact c11
    by_cases c6 : cc < 6
    · left
      obtain ⟨I', a1, a2, a3⟩ := c_nextS (FU := FU) (pl := pl) (nm := nm) (hd := hd) hF hC
      refine atom (v cc) (Or.inr c6) ⟨I', ?_, a2, a3⟩ (by rw [if_neg c11]; exact cv_name c6)
      unfold fX4_readOne
      rw [rc4, w_bind, li_11, dn n11, b01_neg f11, if_pos (by decide), fIb_48, hC.2.2.1, if_neg (by decide), fIb_48, hC.1.2.1, e, if_neg (by rw [li_0, w_lt (by omega) (by omega)]; omega), fIb_48, hC.1.2.1, e, if_neg (by rw [li_6, w_le (by omega) (by omega)]; omega), fRb_48_0, fIb_48, hC.1.2.1, e, aIb_49 (by omega), hC.2.2.2 cc c6, w_bind, dn1 a1]
    · have head : fX4_readOne FU gE gO 48 (I, R0 pl nm hd (some r)) = fX4_readOne_b59 FU gE gO 48 (I, R0 pl nm hd (some r)) := by
        unfold fX4_readOne
        rw [rc4, w_bind, li_11, dn n11, b01_neg f11, if_pos (by decide), fIb_48, hC.2.2.1, if_neg (by decide), fIb_48, hC.1.2.1, e, if_neg (by rw [li_0, w_lt (by omega) (by omega)]; omega), fIb_48, hC.1.2.1, e, if_pos (by rw [li_6, w_le (by omega) (by omega)]; omega)]
      have stop : ∀ I', (∃ x, fX4_readOne FU gE gO 48 (I, R0 pl nm hd (some r)) = some (x, (I', R0 pl nm hd (some r)))) → CFt b n r i I' → FC I I' → (o = 5 ∨ (¬ (cc = 40 ∨ cc = 45) ∧ (cc = 10 → x0 = 0))) → ∃ x I' j J', fX4_readOne FU gE gO 48 (I, R0 pl nm hd (some r)) = some (x, (I', R0 pl nm hd (some r))) ∧ CFt b n r j I' ∧ FC I I' ∧ (∀ F, 130 ≤ F + i → fX9_part_L36 FU 60 F (nI 1) x0 (J, R0 pz nz hz dz) = some (nI 0, (J', R0 pz nz hz dz))) ∧ J' 60 35 = nI (sS b n j) ∧ FM k spot J J' := by
        rintro I' ⟨x, a1⟩ a2 a3 h2
        refine ⟨x, I', i, J, a1, a2, a3, fun F hF' => ?_, hM.at, FM.refl⟩
        obtain ⟨F0, rfl⟩ : ∃ F0, F = F0 + 1 := ⟨F - 1, by omega⟩
        exact m_noOne (FU := FU) (pl := pz) (nm := nz) (hd := hz) (rd := dz) hcc e hx01 (fun h => h.elim c11 c6) h2 hM F0
      by_cases c45 : cc = 45
      · have e45 : cT b n i = nI 45 := by rw [e, c45]
        have h85 : fX4_readOne FU gE gO 48 (I, R0 pl nm hd (some r)) = fX4_readOne_b85 FU gE gO 48 (nI 1) (I, R0 pl nm hd (some r)) := by
          rw [head]
          unfold fX4_readOne_b59
          rw [rc4, w_bind, li_45, dn n45, b01_pos e45, if_pos (by decide)]
        by_cases o5 : o < 5
        · have i120 := tok120 hC e hcc (by omega)
          obtain ⟨I1, a1, a2, a3⟩ := c_opens (FU := FU) (pl := pl) (nm := nm) (hd := hd) hF hC o5
          obtain ⟨J1, b1, b2, b3⟩ := m_open (FU := FU) (pl := pz) (nm := nz) (hd := hz) (rd := dz) hF (x := x0) i120 (Or.inr c45) e o5 hx01 (fun z => by omega) hb hM
          rw [if_neg (by omega), tns_s] at b2
          rw [if_neg (by omega)] at b1
          have lens : (S ++ tns (m + 1)).length + out.length < i + 1 := by
            rw [← tns_s, List.length_append]
            show (S ++ tns m).length + 1 + out.length < i + 1
            omega
          have sp := hO o5 (m + 1) (i + 1) S out k spot c (nI 0) I1 J1 a2 b2 lens (by omega) (by omega) hS (Or.inl rfl)
          have oneN : ¬ nI 1 = (0 : Int32) := by decide
          rcases sp with ⟨x, I2, i2, em, J2, y, g1, g2, g3, g4, g5, g6, g7, g8, g9, g10⟩ | ⟨x, I2, j, J2, g1, g2, g3, g4, g5, g6⟩
          · left
            obtain ⟨q1, q2⟩ := g2.opn2 o
            have em' : out ++ (em ++ tns (m + 1)) = out ++ ((em ++ [mI 9]) ++ tns m) := by
              congr 1
              rw [List.append_assoc]
              rfl
            refine ⟨-x, up2 I2 48 10 (nI o), i2, em ++ [mI 9], J2, y, ?_, q1, (a3.trans g3).trans q2, by omega, g5, ?_, b3.trans g7, fun F => ?_, cv_neg g9, ?_⟩
            · rw [h85]
              unfold fX4_readOne_b85 fX4_readOne_b110
              rw [rc4, w_bind, dn a1, if_pos oneN, if_neg oneN, w_bind, dn g1, fIb_48, g2.2.1, li_1, w_sub (by omega), show o + 1 - 1 = o by omega, pIb_48, if_pos oneN]
            · rw [← em', show o - m = o + 1 - (m + 1) by omega]
              exact g6
            · rw [show F + (i2 - i) = (F + (i2 - (i + 1))) + 1 by omega, b1]
              exact g8 F
            · rw [← em']
              exact g10
          · right
            obtain ⟨q1, q2⟩ := g2.opn2 (I2 48 10 - 1)
            refine ⟨-x, _, j, J2, ?_, q1, (a3.trans g3).trans q2, fun F hF' => ?_, g5, b3.trans g6⟩
            · rw [h85]
              unfold fX4_readOne_b85 fX4_readOne_b110
              rw [rc4, w_bind, dn a1, if_pos oneN, if_neg oneN, w_bind, dn g1, fIb_48, pIb_48, if_pos oneN]
            · obtain ⟨F0, rfl⟩ : ∃ F0, F = F0 + 1 := ⟨F - 1, by omega⟩
              rw [b1]
              exact g4 F0 (by omega)
        · right
          have o55 : o = 5 := by omega
          subst o55
          obtain ⟨I1, a1, a2, a3⟩ := c_opensN (FU := FU) (pl := pl) (nm := nm) (hd := hd) hC
          refine stop I1 ⟨0, ?_⟩ a2 a3 (Or.inl rfl)
          rw [h85]
          unfold fX4_readOne_b85
          rw [rc4, w_bind, dn a1, if_neg (fun h => h rfl)]
      · have f45 : ¬ cT b n i = nI 45 := by rw [code_ne e hcc (by decide)]; exact c45
        by_cases c40 : cc = 40
        · have e40 : cT b n i = nI 40 := by rw [e, c40]
          have h85 : fX4_readOne FU gE gO 48 (I, R0 pl nm hd (some r)) = fX4_readOne_b85 FU gE gO 48 (nI 0) (I, R0 pl nm hd (some r)) := by
            rw [head]
            unfold fX4_readOne_b59
            rw [rc4, w_bind, li_45, dn n45, b01_neg f45, if_neg (fun h => h rfl), w_bind, li_40, dn n40, b01_pos e40, if_pos (by decide)]
          by_cases o5 : o < 5
          · have i120 := tok120 hC e hcc (by omega)
            obtain ⟨I1, a1, a2, a3⟩ := c_opens (FU := FU) (pl := pl) (nm := nm) (hd := hd) hF hC o5
            obtain ⟨J1, b1, b2, b3, b4⟩ := m_brk (FU := FU) (pl := pz) (nm := nz) (hd := hz) (rd := dz) hF (x := x0) i120 e40 o5 (by omega) hx01 hb hM
            have lens : ((S ++ tns m) ++ [mI 10]).length + out.length < i + 1 := by
              rw [List.length_append]
              show (S ++ tns m).length + 1 + out.length < i + 1
              omega
            have j80 : J1 80 k = b01 (c = true) := by rw [b4]; exact hM.2.2.2.2.1
            have sp := hE o5 (i + 1) ((S ++ tns m) ++ [mI 10]) out (k + 1) spot I1 J1 ⟨a2, b2, lens, by omega, by omega⟩ (topL_app (by decide))
            have zN : ¬ ¬ nI 0 = (0 : Int32) := by decide
            have zP : nI 0 = (0 : Int32) := rfl
            rcases sp with ⟨x, I2, i2, em, pe, c1, J2, y, g1, g2, g3, g4, g5, g6, g7, g8, g9, g10, g11, g12⟩ | ⟨x, I2, j, J2, g1, g2, g3, g4, g5, g6⟩
            · obtain ⟨q1, q2⟩ := g2.opn2 o
              have cls : ∀ I3, fX4_expect FU 48 (nI 41) (up2 I2 48 10 (nI o), R0 pl nm hd (some r)) = some (I3, R0 pl nm hd (some r)) → fX4_readOne FU gE gO 48 (I, R0 pl nm hd (some r)) = some (x, (I3, R0 pl nm hd (some r))) := by
                intro I3 h3
                rw [h85]
                unfold fX4_readOne_b85 fX4_readOne_b110
                rw [rc4, w_bind, dn a1, if_pos (by decide), if_pos zP, w_bind, dn g1, fIb_48, g2.2.1, li_1, w_sub (by omega), show o + 1 - 1 = o by omega, pIb_48, if_neg zN, w_bind, li_41, dn1 h3]
              have stp : ∀ F, fX9_part_L36 FU 60 (F + (i2 - i)) (nI 1) x0 (J, R0 pz nz hz dz) = fX9_part_L36 FU 60 F (nI 0) y (J2, R0 pz nz hz dz) := by
                intro F
                rw [show F + (i2 - i) = (F + (i2 - (i + 1))) + 1 by omega, b1]
                exact g8 F
              have f7 : FM k spot J J2 := (b3.trans g7).mono (by omega)
              rcases c_expect (FU := FU) (pl := pl) (nm := nm) (hd := hd) hF (c := 41) (by decide) q1 with ⟨t1, I3, d1, d2, d3⟩ | ⟨t1, I3, d1, d2, d3⟩
              · left
                have i2lt := tok120 g2 t1 (by decide) (by decide)
                have j2 : J2 80 k = b01 (c = true) := by rw [g7.2.2.2.1 k (by omega), j80]
                obtain ⟨J3, k1, k2, k3⟩ := m_close (FU := FU) (pl := pz) (nm := nz) (hd := hz) (rd := dz) hF (x := y) i2lt t1 (by omega) (by omega) hS g9 j2 g6
                refine ⟨x, I3, i2 + 1, em ++ pe.reverse, J3, y, cls I3 d1, d2, ((a3.trans g3).trans q2).trans d3, by omega, by omega, ?_, f7.trans k3, fun F => ?_, g10, ?_⟩
                · have ee : out ++ ((em ++ pe.reverse) ++ tns m) = out ++ em ++ pe.reverse ++ tns m := by rw [List.append_assoc, List.append_assoc, List.append_assoc]
                  rw [ee]
                  exact k2
                · rw [show F + (i2 + 1 - i) = (F + 1) + (i2 - i) by omega, stp, k1]
                · simp only [List.length_append, List.length_reverse, List.length_cons, List.length_nil] at g11 ⊢
                  omega
              · right
                obtain ⟨c2, e2, hc2⟩ := code_of b n i2
                have ne : c2 ≠ 41 := by
                  intro z
                  exact t1 (by rw [e2, z])
                have mach : ∃ J3, (∀ F, fX9_part_L36 FU 60 (F + 1) (nI 0) y (J2, R0 pz nz hz dz) = some (nI 0, (J3, R0 pz nz hz dz))) ∧ J3 60 35 = nI (sS b n i2) ∧ FM k spot J2 J3 := by
                  by_cases z59 : c2 = 59
                  · obtain ⟨J3, k1, k2, k3⟩ := m_semi (FU := FU) (pl := pz) (nm := nz) (hd := hz) (rd := dz) hF (x := y) (o := o + 1) g5 (by rw [e2, z59]) (topL_app (S := S ++ tns m) (w := mI 10) (by decide)) g9 g6
                    refine ⟨J3, fun F => ?_, k2.at, k3.mono (by omega)⟩
                    rw [k1, if_neg (by omega)]
                  · refine ⟨J2, m_no0 (FU := FU) (pl := pz) (nm := nz) (hd := hz) (rd := dz) hc2 e2 z59 ?_ g6, g6.at, FM.refl⟩
                    obtain ⟨x1, x2, x3, x4, x5, x6⟩ := g12
                    have q := fun d (hd' : d < 62) => code_ne (d := d) e2 hc2 hd'
                    rw [Ne, q 42 (by decide)] at x2
                    rw [Ne, q 43 (by decide)] at x3
                    rw [Ne, q 45 (by decide)] at x4
                    rw [Ne, q 9 (by decide)] at x5
                    rw [Ne, q 8 (by decide)] at x6
                    by_cases z60 : c2 = 60 ∨ c2 = 61
                    · right; right
                      refine ⟨z60, x1 ?_⟩
                      rcases z60 with z | z
                      · exact Or.inl (by rw [e2, z])
                      · exact Or.inr (by rw [e2, z])
                    · right; left
                      refine ⟨ne, ?_⟩
                      rcases sg_no hc2 with w | w
                      · exfalso; omega
                      · exact w
                obtain ⟨J3, k1, k2, k3⟩ := mach
                refine ⟨x, I3, i2, J3, cls I3 d1, d2, ((a3.trans g3).trans q2).trans d3, fun F hF' => ?_, k2, f7.trans k3⟩
                obtain ⟨F0, rfl⟩ : ∃ F0, F = (F0 + 1) + (i2 - i) := ⟨F - (i2 - i) - 1, by omega⟩
                rw [stp, k1]
            · right
              obtain ⟨q1, q2⟩ := g2.opn2 (I2 48 10 - 1)
              obtain ⟨I3, d1, d2, d3⟩ := c_expectF (FU := FU) (pl := pl) (nm := nm) (hd := hd) hF (x := nI 41) q1
              refine ⟨x, I3, j, J2, ?_, d2, ((a3.trans g3).trans q2).trans d3, fun F hF' => ?_, g5, (b3.trans g6).mono (by omega)⟩
              · rw [h85]
                unfold fX4_readOne_b85 fX4_readOne_b110
                have d1 : fX4_expect FU 48 (41 : Int32) (up2 I2 48 10 (I2 48 10 - (1 : Int32)), R0 pl nm hd (some r)) = some (I3, R0 pl nm hd (some r)) := d1
                rw [rc4, w_bind, dn a1, if_pos (by decide), if_pos zP, w_bind, dn g1, fIb_48, pIb_48, if_neg zN, w_bind, dn1 d1]
              · obtain ⟨F0, rfl⟩ : ∃ F0, F = F0 + 1 := ⟨F - 1, by omega⟩
                rw [b1]
                exact g4 F0 (by omega)
          · right
            have o55 : o = 5 := by omega
            subst o55
            obtain ⟨I1, a1, a2, a3⟩ := c_opensN (FU := FU) (pl := pl) (nm := nm) (hd := hd) hC
            refine stop I1 ⟨0, ?_⟩ a2 a3 (Or.inl rfl)
            rw [h85]
            unfold fX4_readOne_b85
            rw [rc4, w_bind, dn a1, if_neg (fun h => h rfl)]
        · right
          have f40 : ¬ cT b n i = nI 40 := by rw [code_ne e hcc (by decide)]; exact c40
          obtain ⟨a1, a2, a3⟩ := c_fail (FU := FU) (pl := pl) (nm := nm) (hd := hd) hC
          refine stop _ ⟨0, ?_⟩ a2 a3 (Or.inr ⟨fun h => h.elim c40 c45, fun z => ?_⟩)
          · rw [head]
            unfold fX4_readOne_b59
            rw [rc4, w_bind, li_45, dn n45, b01_neg f45, if_neg (fun h => h rfl), w_bind, li_40, dn n40, b01_neg f40, if_neg (fun h => h rfl), w_bind, dn1 a1]
          · rcases hx with h | ⟨_, h⟩
            · exact h
            · exact absurd (by rw [e, z]) h
end Par8
