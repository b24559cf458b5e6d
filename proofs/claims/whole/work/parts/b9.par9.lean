/-! texts: both read alike: terms, sums -/
section Par9
variable {FU : Nat} {I J : Nat → Nat → Int32} {pl nm hd pz nz hz dz : Option Nat} {b : Nat → Int32} {n r : Nat} {v : Nat → Int32}
theorem topL.mono {S : List Int32} {l l' : Nat} (h : topL S l) (e : l ≤ l') : topL S l' := fun j hj => Nat.lt_of_lt_of_le (h j hj) e
/-- a level: the first operand, then the loop -/
theorem bin_lvl (hF : 99999999 ≤ FU) {R R' o : Nat} {ops : Nat → Int32 → Prop} (hops : ∀ c w, ops c w → opP c w ∧ rk w = R) (hR4 : R ≠ 4) (hRR : R < R') (hR7 : R' ≤ 7) {CL : Nat → Int32 → Int32 → Mem → Option (Int32 × Mem)} {g : Mem → Option (Int32 × Mem)} {nx' : Nat → Bool → Prop} (h120 : ∀ F x M, CL (F + 1) x (nI 120) M = some (x, M)) (hstop : ∀ F x kc i I, kc < 120 → CSt b n r i o v I → (∀ c w, ops c w → cT b n i ≠ nI c) → CL (F + 1) x (nI kc) (I, R0 pl nm hd (some r)) = some (x, (I, R0 pl nm hd (some r)))) (hstopF : ∀ F x kc j I, kc < 120 → CFt b n r j I → CL (F + 1) x (nI kc) (I, R0 pl nm hd (some r)) = some (x, (I, R0 pl nm hd (some r)))) (hgo : ∀ F x kc i I c w, kc < 120 → CSt b n r i o v I → ops c w → cT b n i = nI c → CL (F + 1) x (nI kc) (I, R0 pl nm hd (some r)) = (fX4_next FU 48 (I, R0 pl nm hd (some r))).bind fun M => bd2 (g M) fun y M' => CL F (bth w x y) (nI (kc + 1)) M') (hg : ∀ i S out k spot c I J, En b n r v i o S out k spot c I J → topL S R' → (R ≤ 2 → c = false) → Oc FU b n r v pl nm hd pz nz hz dz R' i o S out k spot (fun F => fX9_part_L36 FU 60 F (nI 1) (nI (if 3 ≤ R then 0 else 1)) (J, R0 pz nz hz dz)) (g (I, R0 pl nm hd (some r))) I J (fun i' c1 => nx' i' c1 ∧ (3 ≤ R → c1 = c))) {S out : List Int32} {k spot i : Nat} {c : Bool} {st : Nat → Option (Int32 × Mem)} (hS : topL S R) (hk : k ≤ o) (hi0 : i ≤ 120) (h1 : Oc FU b n r v pl nm hd pz nz hz dz R' i o S out k spot st (g (I, R0 pl nm hd (some r))) I J (fun i' c1 => nx' i' c1 ∧ (3 ≤ R → c1 = c))) : Oc FU b n r v pl nm hd pz nz hz dz R i o S out k spot st (bd2 (g (I, R0 pl nm hd (some r))) fun x M => CL FU x (nI 0) M) I J (fun i' c1 => nx' i' c1 ∧ (∀ c w, ops c w → cT b n i' ≠ nI c) ∧ (3 ≤ R → c1 = c)) := by
  rcases h1 with ⟨x, I1, i1, em, pe, c1, J1, y, g1, g2, g3, g4, g5, g6, g7, g8, g9, g10, g11, g12, g13⟩ | ⟨x, I1, j, J1, g1, g2, g3, g4, g5, g6⟩
  · have lp := bin_loop hF hops hR4 hRR hR7 h120 hstop hstopF hgo hg (S := S) (out := out) (k := k) (spot := spot) hS 121 i1 x em pe c1 I1 J1 0 FU y (by omega) (by omega) (by omega) g2 g6 g11 g5 hk (fun w hw => Nat.le_trans (Nat.le_of_lt hRR) (g9 w hw)) g10 g12
    have cls : (bd2 (g (I, R0 pl nm hd (some r))) fun x M => CL FU x (nI 0) M) = CL FU x (nI 0) (I1, R0 pl nm hd (some r)) := dn g1
    rcases lp with ⟨x', I', i', em', pe', c2, J', y', r1, r2, r3, r4, r5, r6, r7, r8, r9, r10, r11, r12, r13, r14⟩ | ⟨x', I', j, J', r1, r2, r3, r4, r5, r6⟩
    · refine Or.inl ⟨x', I', i', em', pe', c2, J', y', by rw [cls]; exact r1, r2, g3.trans r3, by omega, r5, r6, g7.trans r7, fun F => ?_, r9, r10, r11, r12, r13, fun z => (r14 z).trans (g13 z)⟩
      rw [show F + (i' - i) = (F + (i' - i1)) + (i1 - i) by omega, g8]
      exact r8 F
    · refine Or.inr ⟨x', I', j, J', by rw [cls]; exact r1, r2, g3.trans r3, fun F hF' => ?_, r5, g7.trans r6⟩
      obtain ⟨F0, rfl⟩ : ∃ F0, F = F0 + (i1 - i) := ⟨F - (i1 - i), by omega⟩
      rw [g8]
      exact r4 F0 (by omega)
  · obtain ⟨G, hG⟩ : ∃ G, FU = G + 1 := ⟨FU - 1, by omega⟩
    refine Or.inr ⟨x, I1, j, J1, ?_, g2, g3, g4, g5, g6⟩
    rw [dn g1]
    have := hstopF G x 0 j I1 (by decide) g2
    rw [← hG] at this
    exact this
/-- the answer of an operand as that of a level -/
theorem one_oc {g : Mem → Option (Int32 × Mem)} {o : Nat} (h : SpOne FU b n r v pl nm hd pz nz hz dz g o) {i : Nat} {S out : List Int32} {k spot : Nat} {c : Bool} {x0 : Int32} (hE : En b n r v i o S out k spot c I J) (hS : topL S 7) (hx : pxO b n i x0) : Oc FU b n r v pl nm hd pz nz hz dz 7 i o S out k spot (fun F => fX9_part_L36 FU 60 F (nI 1) x0 (J, R0 pz nz hz dz)) (g (I, R0 pl nm hd (some r))) I J (fun _ c1 => True ∧ (3 ≤ 6 → c1 = c)) := by
  obtain ⟨e1, e2, e3, e4, e5⟩ := hE
  have t0 : S ++ tns 0 = S := List.append_nil S
  rcases h 0 i S out k spot c x0 I J e1 (by rw [t0]; exact e2) (by rw [t0]; exact e3) e4 e5 hS hx with ⟨x, I', i', em, J', y, g1, g2, g3, g4, g5, g6, g7, g8, g9, g10⟩ | g
  · have t1 : em ++ tns 0 = em := List.append_nil em
    rw [t1] at g6 g10
    refine Or.inl ⟨x, I', i', em, [], c, J', y, g1, g2, g3, g4, g5, ?_, g7, g8, fun w hw => absurd hw (List.not_mem_nil), ?_, ?_, trivial, fun _ => rfl⟩
    · rw [List.append_nil]
      exact g6
    · rw [List.reverse_nil, List.append_nil]
      exact g9
    · rw [List.append_nil]
      exact g10
  · exact Or.inr g
def SpT (FU : Nat) (b : Nat → Int32) (n r : Nat) (v : Nat → Int32) (pl nm hd pz nz hz dz : Option Nat) (R : Nat) (g : Mem → Option (Int32 × Mem)) (o : Nat) (nx : Nat → Prop) : Prop := ∀ i S out k spot c x0 I J, En b n r v i o S out k spot c I J → topL S R → pxO b n i x0 → Oc FU b n r v pl nm hd pz nz hz dz R i o S out k spot (fun F => fX9_part_L36 FU 60 F (nI 1) x0 (J, R0 pz nz hz dz)) (g (I, R0 pl nm hd (some r))) I J (fun i' c1 => nx i' ∧ c1 = c)
theorem Oc.nx {R i o : Nat} {S out : List Int32} {k spot : Nat} {st : Nat → Option (Int32 × Mem)} {cls : Option (Int32 × Mem)} {nx nx2 : Nat → Bool → Prop} (h : Oc FU b n r v pl nm hd pz nz hz dz R i o S out k spot st cls I J nx) (e : ∀ i' c1, nx i' c1 → nx2 i' c1) : Oc FU b n r v pl nm hd pz nz hz dz R i o S out k spot st cls I J nx2 := by
  rcases h with ⟨x, I', i', em, pe, c1, J', y, g1, g2, g3, g4, g5, g6, g7, g8, g9, g10, g11, g12⟩ | g
  · exact Or.inl ⟨x, I', i', em, pe, c1, J', y, g1, g2, g3, g4, g5, g6, g7, g8, g9, g10, g11, e _ _ g12⟩
  · exact Or.inr g
theorem l_term (hF : 99999999 ≤ FU) {gE gO : Nat → Mem → Option (Int32 × Mem)} {o : Nat} (h : SpOne FU b n r v pl nm hd pz nz hz dz (fX4_readOne FU gE gO 48) o) : SpT FU b n r v pl nm hd pz nz hz dz 6 (fX4_readTerm FU gE gO 48) o (fun i' => cT b n i' ≠ nI 42) := by
  intro i S out k spot c x0 I J hE hS hx
  have rc4 : rc 4 (some 48) = some 48 := rfl
  have rd : fX4_readTerm FU gE gO 48 (I, R0 pl nm hd (some r)) = bd2 (fX4_readOne FU gE gO 48 (I, R0 pl nm hd (some r))) fun x M => fX4_readTerm_L7 FU gE gO 48 FU x (nI 0) M := by
    unfold fX4_readTerm
    rw [rc4, w_bind]
    rfl
  rw [rd]
  have lv := bin_lvl hF (R := 6) (R' := 7) (ops := fun c w => c = 42 ∧ w = mI 8) (CL := fX4_readTerm_L7 FU gE gO 48) (nx' := fun _ _ => True) (fun c w hw => ⟨Or.inr (Or.inr (Or.inr (Or.inr (Or.inr (Or.inr hw))))), by rw [hw.2]; decide⟩) (by decide) (by decide) (by decide) (g := fX4_readOne FU gE gO 48) (fun F x M => by
      conv => lhs; unfold fX4_readTerm_L7
      rw [li_120, if_pos (by rw [w_le (by decide) (by decide)]; exact Nat.le_refl _)]) (fun F x kc i I hk hC hn => by
      conv => lhs; unfold fX4_readTerm_L7
      rw [li_120, if_neg (by rw [w_le (by decide) (by omega)]; omega), rc4, w_bind, li_42, dn (c_isNow (FU := FU) (pl := pl) (nm := nm) (hd := hd) (c := 42) (by decide) hC), b01_neg (hn 42 _ ⟨rfl, rfl⟩), if_pos (by decide)]) (fun F x kc j I hk hC => by
      conv => lhs; unfold fX4_readTerm_L7
      rw [li_120, if_neg (by rw [w_le (by decide) (by omega)]; omega), rc4, w_bind, dn (c_isNowF (FU := FU) (pl := pl) (nm := nm) (hd := hd) hC), if_pos (by decide)]) (fun F x kc i I c w hk hC hw e => by
      obtain ⟨w1, w2⟩ := hw
      subst w1
      subst w2
      conv => lhs; unfold fX4_readTerm_L7
      rw [li_120, if_neg (by rw [w_le (by decide) (by omega)]; omega), rc4, w_bind, li_42, dn (c_isNow (FU := FU) (pl := pl) (nm := nm) (hd := hd) (c := 42) (by decide) hC), b01_pos e, if_neg (by decide), w_bind]
      congr 1
      funext M
      rw [w_bind]
      congr 1
      funext y M'
      rw [li_1, nI_add]
      rfl) (fun i S out k spot c I J hE hS _ => one_oc h hE hS (Or.inl rfl)) hS hE.2.2.2.2 hE.2.2.2.1 (one_oc h hE (hS.mono (by decide)) hx)
  exact lv.nx fun i' c1 q => ⟨q.2.1 42 _ ⟨rfl, rfl⟩, q.2.2 (by decide)⟩
theorem l_sums (hF : 99999999 ≤ FU) {gE gO : Nat → Mem → Option (Int32 × Mem)} {o : Nat} (h : SpT FU b n r v pl nm hd pz nz hz dz 6 (fX4_readTerm FU gE gO 48) o (fun i' => cT b n i' ≠ nI 42)) : SpT FU b n r v pl nm hd pz nz hz dz 5 (fX4_readSum FU gE gO 48) o (fun i' => cT b n i' ≠ nI 42 ∧ cT b n i' ≠ nI 43 ∧ cT b n i' ≠ nI 45) := by
  intro i S out k spot c x0 I J hE hS hx
  have rc4 : rc 4 (some 48) = some 48 := rfl
  have rd : fX4_readSum FU gE gO 48 (I, R0 pl nm hd (some r)) = bd2 (fX4_readTerm FU gE gO 48 (I, R0 pl nm hd (some r))) fun x M => fX4_readSum_L7 FU gE gO 48 FU x (nI 0) M := by
    unfold fX4_readSum
    rw [rc4, w_bind]
    rfl
  rw [rd]
  have oc : ∀ {i S out k spot c x0 I J}, En b n r v i o S out k spot c I J → topL S 6 → pxO b n i x0 → Oc FU b n r v pl nm hd pz nz hz dz 6 i o S out k spot (fun F => fX9_part_L36 FU 60 F (nI 1) x0 (J, R0 pz nz hz dz)) (fX4_readTerm FU gE gO 48 (I, R0 pl nm hd (some r))) I J (fun i' c1 => cT b n i' ≠ nI 42 ∧ (3 ≤ 5 → c1 = c)) := by
    intro i S out k spot c x0 I J hE hS hx
    exact (h i S out k spot c x0 I J hE hS hx).nx fun i' c1 q => ⟨q.1, fun _ => q.2⟩
  have lv := bin_lvl hF (R := 5) (R' := 6) (ops := fun c w => (c = 43 ∧ w = mI 6) ∨ (c = 45 ∧ w = mI 7)) (CL := fX4_readSum_L7 FU gE gO 48) (nx' := fun i' _ => cT b n i' ≠ nI 42) (fun c w hw => by
      rcases hw with hw | hw
      · exact ⟨Or.inr (Or.inr (Or.inr (Or.inr (Or.inl hw)))), by rw [hw.2]; decide⟩
      · exact ⟨Or.inr (Or.inr (Or.inr (Or.inr (Or.inr (Or.inl hw))))), by rw [hw.2]; decide⟩) (by decide) (by decide) (by decide) (g := fX4_readTerm FU gE gO 48) (fun F x M => by
      conv => lhs; unfold fX4_readSum_L7
      rw [li_120, if_pos (by rw [w_le (by decide) (by decide)]; exact Nat.le_refl _)]) (fun F x kc i I hk hC hn => by
      conv => lhs; unfold fX4_readSum_L7
      rw [li_120, if_neg (by rw [w_le (by decide) (by omega)]; omega), rc4, w_bind, li_43, dn (c_isNow (FU := FU) (pl := pl) (nm := nm) (hd := hd) (c := 43) (by decide) hC), b01_neg (hn 43 _ (Or.inl ⟨rfl, rfl⟩)), if_neg (fun h => h rfl), w_bind, li_45, dn (c_isNow (FU := FU) (pl := pl) (nm := nm) (hd := hd) (c := 45) (by decide) hC), b01_neg (hn 45 _ (Or.inr ⟨rfl, rfl⟩)), if_pos (by decide)]) (fun F x kc j I hk hC => by
      conv => lhs; unfold fX4_readSum_L7
      rw [li_120, if_neg (by rw [w_le (by decide) (by omega)]; omega), rc4, w_bind, dn (c_isNowF (FU := FU) (pl := pl) (nm := nm) (hd := hd) hC), if_neg (fun h => h rfl), w_bind, dn (c_isNowF (FU := FU) (pl := pl) (nm := nm) (hd := hd) hC), if_pos (by decide)]) (fun F x kc i I c w hk hC hw e => by
      have b31 : fX4_readSum_L7 FU gE gO 48 (F + 1) x (nI kc) (I, R0 pl nm hd (some r)) = fX4_readSum_b31 FU gE gO (fX4_readSum_L7 FU gE gO 48 F) 48 x (nI kc) (I, R0 pl nm hd (some r)) := by
        conv => lhs; unfold fX4_readSum_L7
        rw [li_120, if_neg (by rw [w_le (by decide) (by omega)]; omega), rc4, w_bind, li_43, dn (c_isNow (FU := FU) (pl := pl) (nm := nm) (hd := hd) (c := 43) (by decide) hC)]
        by_cases z : cT b n i = nI 43
        · rw [b01_pos z, if_pos (by decide)]
        · rw [b01_neg z, if_neg (fun h => h rfl), w_bind, li_45, dn (c_isNow (FU := FU) (pl := pl) (nm := nm) (hd := hd) (c := 45) (by decide) hC)]
          have e45 : cT b n i = nI 45 := by
            rcases hw with ⟨w1, _⟩ | ⟨w1, _⟩
            · rw [w1] at e; exact absurd e z
            · rw [w1] at e; exact e
          rw [b01_pos e45, if_neg (by decide)]
      rw [b31]
      unfold fX4_readSum_b31
      rw [fIb_48, hC.1.2.1, e]
      rcases hw with ⟨w1, w2⟩ | ⟨w1, w2⟩
      · subst w1
        subst w2
        rw [li_43, if_neg (fun h => h rfl)]
        unfold fX4_readSum_b45
        rw [rc4, w_bind]
        congr 1
        funext M
        rw [w_bind]
        congr 1
        funext y M'
        rw [if_neg (by decide)]
        unfold fX4_readSum_b71
        rw [li_1, nI_add]
        rfl
      · subst w1
        subst w2
        rw [li_43, if_pos (by decide)]
        unfold fX4_readSum_b45
        rw [rc4, w_bind]
        congr 1
        funext M
        rw [w_bind]
        congr 1
        funext y M'
        rw [if_pos rfl]
        unfold fX4_readSum_b71
        rw [li_1, nI_add]
        rfl) (fun i S out k spot c I J hE hS _ => oc hE hS (Or.inl rfl)) hS hE.2.2.2.2 hE.2.2.2.1 (oc hE (hS.mono (by decide)) hx)
  exact lv.nx fun i' c1 q => ⟨⟨q.1, q.2.1 43 _ (Or.inl ⟨rfl, rfl⟩), q.2.1 45 _ (Or.inr ⟨rfl, rfl⟩)⟩, q.2.2 (by decide)⟩
end Par9
