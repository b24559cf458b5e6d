/-! texts: both read alike: one level of signs -/
section Par7
variable {FU : Nat} {I J : Nat → Nat → Int32} {pl nm hd pz nz hz dz : Option Nat} {b : Nat → Int32} {n r : Nat} {v : Nat → Int32}
/-- both read on alike, or both stop at the same token -/
def Oc (FU : Nat) (b : Nat → Int32) (n r : Nat) (v : Nat → Int32) (pl nm hd pz nz hz dz : Option Nat) (R i o : Nat) (S out : List Int32) (k spot : Nat) (st : Nat → Option (Int32 × Mem)) (cls : Option (Int32 × Mem)) (I J : Nat → Nat → Int32) (nx : Nat → Bool → Prop) : Prop := (∃ x I' i' em pe c1 J' y, cls = some (x, (I', R0 pl nm hd (some r))) ∧ CSt b n r i' o v I' ∧ FC I I' ∧ i ≤ i' ∧ i' ≤ 120 ∧ MS b n i' (o + nOp pe) (S ++ pe) (out ++ em) k spot c1 J' ∧ FM k spot J J' ∧ (∀ F, st (F + (i' - i)) = fX9_part_L36 FU 60 F (nI 0) y (J', R0 pz nz hz dz)) ∧ (∀ w, w ∈ pe → R ≤ rk w) ∧ cdV v (em ++ pe.reverse) x ∧ (S ++ pe).length + (out ++ em).length < i' ∧ nx i' c1) ∨ (∃ x I' j J', cls = some (x, (I', R0 pl nm hd (some r))) ∧ CFt b n r j I' ∧ FC I I' ∧ (∀ F, 130 ≤ F + i → st F = some (nI 0, (J', R0 pz nz hz dz))) ∧ J' 60 35 = nI (sS b n j) ∧ FM k spot J J')
/-- where both begin -/
def En (b : Nat → Int32) (n r : Nat) (v : Nat → Int32) (i o : Nat) (S out : List Int32) (k spot : Nat) (c : Bool) (I J : Nat → Nat → Int32) : Prop := CSt b n r i o v I ∧ MS b n i o S out k spot c J ∧ S.length + out.length < i ∧ i ≤ 120 ∧ k ≤ o
theorem bin_loop (hF : 99999999 ≤ FU) {R R' o : Nat} {ops : Nat → Int32 → Prop} (hops : ∀ c w, ops c w → opP c w ∧ rk w = R) (hR4 : R ≠ 4) (hRR : R < R') (hR7 : R' ≤ 7) {CL : Nat → Int32 → Int32 → Mem → Option (Int32 × Mem)} {g : Mem → Option (Int32 × Mem)} {nx' : Nat → Bool → Prop} (h120 : ∀ F x M, CL (F + 1) x (nI 120) M = some (x, M)) (hstop : ∀ F x kc i I, kc < 120 → CSt b n r i o v I → (∀ c w, ops c w → cT b n i ≠ nI c) → CL (F + 1) x (nI kc) (I, R0 pl nm hd (some r)) = some (x, (I, R0 pl nm hd (some r)))) (hstopF : ∀ F x kc j I, kc < 120 → CFt b n r j I → CL (F + 1) x (nI kc) (I, R0 pl nm hd (some r)) = some (x, (I, R0 pl nm hd (some r)))) (hgo : ∀ F x kc i I c w, kc < 120 → CSt b n r i o v I → ops c w → cT b n i = nI c → CL (F + 1) x (nI kc) (I, R0 pl nm hd (some r)) = (fX4_next FU 48 (I, R0 pl nm hd (some r))).bind fun M => bd2 (g M) fun y M' => CL F (bth w x y) (nI (kc + 1)) M') (hg : ∀ i S out k spot c I J, En b n r v i o S out k spot c I J → topL S R' → (R ≤ 2 → c = false) → Oc FU b n r v pl nm hd pz nz hz dz R' i o S out k spot (fun F => fX9_part_L36 FU 60 F (nI 1) (nI (if 3 ≤ R then 0 else 1)) (J, R0 pz nz hz dz)) (g (I, R0 pl nm hd (some r))) I J (fun i' c1 => nx' i' c1 ∧ (3 ≤ R → c1 = c))) {S out : List Int32} {k spot : Nat} (hS : topL S R) : ∀ d i x em pe c I J kc F y, 121 - i ≤ d → d < F → kc ≤ i → CSt b n r i o v I → MS b n i (o + nOp pe) (S ++ pe) (out ++ em) k spot c J → (S ++ pe).length + (out ++ em).length < i → i ≤ 120 → k ≤ o → (∀ w, w ∈ pe → R ≤ rk w) → cdV v (em ++ pe.reverse) x → nx' i c → Oc FU b n r v pl nm hd pz nz hz dz R i o S out k spot (fun F' => fX9_part_L36 FU 60 F' (nI 0) y (J, R0 pz nz hz dz)) (CL F x (nI kc) (I, R0 pl nm hd (some r))) I J (fun i' c1 => nx' i' c1 ∧ (∀ c w, ops c w → cT b n i' ≠ nI c) ∧ (3 ≤ R → c1 = c)) := by
  intro d
  induction d with
  | zero => intro i x em pe c I J kc F y h1 h2 h3 hC hM hb hi; omega
  | succ d ih =>
    intro i x em pe c I J kc F y h1 h2 h3 hC hM hb hi hk hpe hv hnx
    obtain ⟨G, rfl⟩ : ∃ G, F = G + 1 := ⟨F - 1, by omega⟩
    by_cases op : ∃ cc w, ops cc w ∧ cT b n i = nI cc
    · obtain ⟨cc, w, ow, e⟩ := op
      obtain ⟨oP, rw'⟩ := hops cc w ow
      obtain ⟨q1, _, _, q4, _, _, q7, _, _⟩ := opP_ok oP
      have ne12 : cT b n i ≠ nI 12 := by
        rw [e, Ne, nI_eq (by omega) (by decide)]
        intro z
        subst z
        rcases oP with ⟨z, _⟩ | ⟨z, _⟩ | ⟨z, _⟩ | ⟨z, _⟩ | ⟨z, _⟩ | ⟨z, _⟩ | ⟨z, _⟩ <;> omega
      have n120 := hC.1.1.2.2.1
      have i120 : i < 120 := by
        have := tok_lt ne12
        omega
      have kc120 : kc < 120 := by omega
      obtain ⟨J1, b1, b2, b3⟩ := m_bin (FU := FU) (pl := pz) (nm := nz) (hd := hz) (rd := dz) hF (x := y) i120 oP e (by rw [rw']; exact hS) (fun u hu => by rw [rw']; exact hpe u hu) (fun z => by omega) hb hM
      obtain ⟨I1, a1, a2, a3⟩ := c_nextS (FU := FU) (pl := pl) (nm := nm) (hd := hd) hF hC
      rw [rw'] at b1 b2
      rw [if_neg hR4] at b2
      have lens : (S ++ [w]).length + (out ++ em ++ pe.reverse).length < i + 1 := by
        rw [List.length_append, List.length_append] at hb
        rw [List.length_append, List.length_append, List.length_append, List.length_reverse]
        show S.length + 1 + (out.length + em.length + pe.length) < i + 1
        omega
      have hgr := hg (i + 1) (S ++ [w]) (out ++ em ++ pe.reverse) k spot _ I1 J1 ⟨a2, b2, lens, by omega, hk⟩ (topL_app (by omega)) (fun z => by rw [if_pos z])
      rcases hgr with ⟨y1, I2, i2, em2, pe2, c2, J2, z2, g1, g2, g3, g4, g5, g6, g7, g8, g9, g10, g11, g12, g13⟩ | ⟨y1, I2, j, J2, g1, g2, g3, g4, g5, g6⟩
      · have eS : (S ++ [w]) ++ pe2 = S ++ (w :: pe2) := by rw [List.append_assoc]; rfl
        have eO : (out ++ em ++ pe.reverse) ++ em2 = out ++ (em ++ pe.reverse ++ em2) := by rw [List.append_assoc, List.append_assoc, List.append_assoc]
        have nw : nOp (w :: pe2) = nOp pe2 := by
          show (if w = mI 3 ∨ w = mI 9 then 1 else 0) + nOp pe2 = nOp pe2
          rw [if_neg q7, Nat.zero_add]
        have M2 : MS b n i2 (o + nOp (w :: pe2)) (S ++ (w :: pe2)) (out ++ (em ++ pe.reverse ++ em2)) k spot c2 J2 := by
          rw [nw, ← eS, ← eO]
          exact g6
        have v2 : cdV v ((em ++ pe.reverse ++ em2) ++ (w :: pe2).reverse) (bth w x y1) := by
          have := cv_bin oP hv g10
          rw [List.reverse_cons, ← List.append_assoc, List.append_assoc (em ++ pe.reverse) em2]
          exact this
        have hb2 : (S ++ (w :: pe2)).length + (out ++ (em ++ pe.reverse ++ em2)).length < i2 := by
          rw [← eS, ← eO]
          exact g11
        have rcc := ih i2 (bth w x y1) (em ++ pe.reverse ++ em2) (w :: pe2) c2 I2 J2 (kc + 1) G z2 (by omega) (by omega) (by omega) g2 M2 hb2 g5 hk (fun u hu => by
          rcases List.mem_cons.mp hu with z | z
          · rw [z, rw']; exact Nat.le_refl R
          · exact Nat.le_trans (Nat.le_of_lt hRR) (g9 u z)) v2 g12
        have cls : CL (G + 1) x (nI kc) (I, R0 pl nm hd (some r)) = CL G (bth w x y1) (nI (kc + 1)) (I2, R0 pl nm hd (some r)) := by
          rw [hgo G x kc i I cc w kc120 hC ow e, dn1 a1, dn g1]
        have stp : ∀ F, fX9_part_L36 FU 60 (F + (i2 - i)) (nI 0) y (J, R0 pz nz hz dz) = fX9_part_L36 FU 60 F (nI 0) z2 (J2, R0 pz nz hz dz) := by
          intro F
          rw [show F + (i2 - i) = (F + (i2 - (i + 1))) + 1 by omega, b1]
          exact g8 F
        have ceq : 3 ≤ R → c2 = c := by
          intro z
          rw [g13 z, if_neg (by omega)]
        rcases rcc with ⟨x', I', i', em', pe', c1, J', y', r1, r2, r3, r4, r5, r6, r7, r8, r9, r10, r11, r12, r13, r14⟩ | ⟨x', I', j, J', r1, r2, r3, r4, r5, r6⟩
        · refine Or.inl ⟨x', I', i', em', pe', c1, J', y', by rw [cls]; exact r1, r2, (a3.trans g3).trans r3, by omega, r5, r6, (b3.trans g7).trans r7, fun F => ?_, r9, r10, r11, r12, r13, fun z => (r14 z).trans (ceq z)⟩
          show fX9_part_L36 FU 60 (F + (i' - i)) (nI 0) y (J, R0 pz nz hz dz) = _
          rw [show F + (i' - i) = (F + (i' - i2)) + (i2 - i) by omega, stp]
          exact r8 F
        · refine Or.inr ⟨x', I', j, J', by rw [cls]; exact r1, r2, (a3.trans g3).trans r3, fun F hF' => ?_, r5, (b3.trans g7).trans r6⟩
          obtain ⟨F0, rfl⟩ : ∃ F0, F = F0 + (i2 - i) := ⟨F - (i2 - i), by omega⟩
          show fX9_part_L36 FU 60 (F0 + (i2 - i)) (nI 0) y (J, R0 pz nz hz dz) = _
          rw [stp]
          exact r4 F0 (by omega)
      · have cls : CL (G + 1) x (nI kc) (I, R0 pl nm hd (some r)) = CL G (bth w x y1) (nI (kc + 1)) (I2, R0 pl nm hd (some r)) := by
          rw [hgo G x kc i I cc w kc120 hC ow e, dn1 a1, dn g1]
        obtain ⟨H, hH⟩ : ∃ H, G = H + 1 := ⟨G - 1, by omega⟩
        have fin : CL G (bth w x y1) (nI (kc + 1)) (I2, R0 pl nm hd (some r)) = some (bth w x y1, (I2, R0 pl nm hd (some r))) := by
          rw [hH]
          by_cases z : kc + 1 = 120
          · rw [z]; exact h120 H _ _
          · exact hstopF H _ (kc + 1) j I2 (by omega) g2
        refine Or.inr ⟨_, I2, j, J2, by rw [cls]; exact fin, g2, a3.trans g3, fun F hF' => ?_, g5, b3.trans g6⟩
        obtain ⟨F0, rfl⟩ : ∃ F0, F = F0 + 1 := ⟨F - 1, by omega⟩
        show fX9_part_L36 FU 60 (F0 + 1) (nI 0) y (J, R0 pz nz hz dz) = _
        rw [b1]
        exact g4 F0 (by omega)
    · have nop : ∀ c w, ops c w → cT b n i ≠ nI c := fun c w h e => op ⟨c, w, h, e⟩
      refine Or.inl ⟨x, I, i, em, pe, c, J, y, ?_, hC, FC.refl, Nat.le_refl i, hi, hM, FM.refl, fun F => ?_, hpe, hv, hb, hnx, nop, fun _ => rfl⟩
      · by_cases z : kc = 120
        · rw [z]; exact h120 G x _
        · exact hstop G x kc i I (by omega) hC nop
      · rw [Nat.sub_self]
        rfl
end Par7
