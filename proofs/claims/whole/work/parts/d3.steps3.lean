/-! the law: fairer, text, says -/
section Steps3
variable {FU ver N : Nat} {P : Pln} {g : Option Gme} {T : Txt} {D : Dtx} {S : Sht} {I J : Nat → Nat → Int32} {pl nm hd rd : Option Nat}
theorem CInv.hs (hW : WInv FU N P ver g T D S) (hN : N < 2 ^ 20) (hC : CInv P ver g T D S pl nm hd I) (hR : RInv P g T D S J) : HS P ver pl I J := ⟨hC.1, hR.1, hW.1, hC.2.2.1, by have := hW.2.1; omega, hC.2.2.2.1, hR.2.1⟩
theorem s_fairer (hF : 99999999 ≤ FU) (hN : N < 2 ^ 20) (hW : WInv FU N P ver g T D S) (hC : CInv P ver g T D S pl nm hd I) (hR : RInv P g T D S I) : Ste FU N pl nm hd rd I (fX8_fairer FU 0) (fX9_fairer FU 60) := by
  have hT : T.2.1 ≤ 6 := hW.2.2.2.2.1.2.2.1
  have hv : ver < 2 ^ 30 := by have := hW.2.1; omega
  obtain ⟨h1, h2, h3, h4, h5, h6, h7, h8, h9, h10, h11⟩ := hC
  obtain ⟨x0, ⟨I0, p0, a0, _, _, _, c0⟩, _⟩ := k_fairer (nm := nm) (hd := hd) (rd := rd) (pl := pl) hF h1 hR.1 hW.1 h2 h3 hv h5
  have R0' := hR.congr (J := I0) (fun q hq => c0 q (by omega) (by omega))
  obtain ⟨x, ⟨I1, p1, a1, q1, q2, q3, c1⟩, h9'⟩ := k_fairer (nm := nm) (hd := hd) (rd := rd) (pl := pl) hF h1 R0'.1 hW.1 h2 h3 hv h5
  obtain ⟨e1, e2⟩ := inj2 a0 a1
  subst e2
  obtain ⟨J1, b1, d0, d1, d2, d3⟩ := h9' p1
  have c2 : ∀ q, 0 < q ∧ q < 9 ∨ 27 < q → I0 q = I q := fun q hq => c1 q (by omega) (by omega)
  have K1 : K17 P ver p1 I0 := by
    rcases q3 with ⟨z1, z2⟩ | z
    · rw [z1]
      exact h4.congr z2
    · rw [z]
      exact ⟨rfl, fun q => absurd q (by decide)⟩
  have C1 : CInv P ver g T D S p1 nm hd I0 := ⟨h1.congr (fun q _ _ => c2 q (by omega)), q1, by rw [c2 1 (by decide)]; exact h3, K1, q2, h6.congr (fun q _ _ => c2 q (by omega)), h7.congr (c2 28 (by decide)) (c2 29 (by decide)), h8.congr (c2 35 (by decide)) (c2 36 (by decide)) (c2 37 (by decide)), h9.congr (c2 38 (by decide)) (c2 39 (by decide)), h10.congr hT (fun q _ _ => c2 q (by omega)), h11.congr (fun q _ _ => c2 q (by omega))⟩
  obtain ⟨r1, r2, r3, r4, r5, r6, r7, r8⟩ := R0'
  have d4 : ∀ q, q < 60 ∨ 67 < q → J1 q = I0 q := fun q hq => d2 q (by omega) (by omega) (by omega) (by omega) (by omega) (by omega)
  have K6 : K60 P J1 := by
    rcases d1 with z | z
    · rw [z]; exact r2
    · exact Or.inl z
  exact ⟨x, I0, J1, p1, nm, hd, rd, a1, b1, P, ver, g, T, D, S, hW.up, C1.congr hT (fun q hq => d4 q (by omega)), ⟨d0, K6, r3.congr (d3 15 (by decide)) (d4 70 (by decide)) (d4 71 (by decide)) (d4 72 (by decide)), fun j hj => by rw [d4 73 (by decide)]; exact r4 j hj, r5.congr (fun i _ _ => d3 i (by omega)) (d4 74 (by decide)) (d4 75 (by decide)), r6.congr (fun i _ _ => d3 i (by omega)) (d4 76 (by decide)), r7.congr (d4 77 (by decide)) (d4 78 (by decide)), r8.congr (fun q _ _ => d4 q (by omega))⟩⟩
theorem s_text (hF : 99999999 ≤ FU) (hW : WInv FU N P ver g T D S) (hC : CInv P ver g T D S pl nm hd I) (hR : RInv P g T D S I) : Ste FU N pl nm hd rd I (fX8_text FU 0) (fX9_text FU 60) := by
  have wT := hW.2.2.2.2.1
  have wD := hW.2.2.2.2.2.1
  obtain ⟨h1, h2, h3, h4, h5, h6, h7, h8, h9, h10, h11⟩ := hC
  have hk : ∀ J, RInv P g T D S J → XO FU T pl nm hd rd pl nm hd (if T.2.1 < 6 then some 39 else rd) I J (fX8_text FU 0 (I, R0 pl nm hd rd)) (fX9_text FU 60 (J, R0 pl nm hd (if T.2.1 < 6 then some 39 else rd))) := fun J hJ => k_text hF wT h9 hJ.2.2.2.2.2.1 wD h10 hJ.2.2.2.2.2.2.1
  obtain ⟨x0, T0, D0, _, _, _, ⟨I0, a0, _, _, c0⟩, _⟩ := hk I hR
  have R0' := hR.congr (J := I0) (fun q hq => c0 q (by omega))
  obtain ⟨x, T1, D1, w1, n1, w2, ⟨I1, a1, q1, q2, c1⟩, J1, b1, d1, d2, d3, d5⟩ := hk I0 R0'
  obtain ⟨e1, e2⟩ := inj2 a0 a1
  subst e2
  have hT1 : T1.2.1 ≤ 6 := w1.2.2.1
  obtain ⟨r1, r2, r3, r4, r5, r6, r7, r8⟩ := R0'
  have c2 : ∀ q, q < 38 ∨ 48 < q → I0 q = I q := c1
  have C1 : CInv P ver g T1 D1 S pl nm hd I0 := ⟨h1.congr (fun q _ _ => c2 q (by omega)), by rw [c2 9 (by decide)]; exact h2, by rw [c2 1 (by decide)]; exact h3, h4.congr (fun q _ _ => c2 q (by omega)), h5.congr (c2 0 (by decide)), h6.congr (fun q _ _ => c2 q (by omega)), h7.congr (c2 28 (by decide)) (c2 29 (by decide)), h8.congr (c2 35 (by decide)) (c2 36 (by decide)) (c2 37 (by decide)), q1, q2, h11.congr (fun q _ _ => c2 q (by omega))⟩
  have d4 : ∀ q, q < 60 ∨ 60 < q ∧ q < 77 ∨ 80 < q → J1 q = I0 q := fun q hq => d3 q (by omega) (by omega) (by omega) (by omega) (by omega)
  have u := hW.up
  exact ⟨x, I0, J1, pl, nm, hd, _, a1, b1, P, ver, g, T1, D1, S, ⟨u.1, u.2.1, u.2.2.1, u.2.2.2.1, w1, w2, u.2.2.2.2.2.2⟩, C1.congr hT1 (fun q hq => d4 q (by omega)), ⟨r1.congr (fun i _ => d5 i (by omega)) (fun q _ _ => d4 q (by omega)), r2.congr (d5 9 (by decide)) (d4 66 (by decide)), r3.congr (d5 15 (by decide)) (d4 70 (by decide)) (d4 71 (by decide)) (d4 72 (by decide)), fun j hj => by rw [d4 73 (by decide)]; exact r4 j hj, r5.congr (fun i _ _ => d5 i (by omega)) (d4 74 (by decide)) (d4 75 (by decide)), d1, d2, r8.congr (fun q _ _ => d4 q (by omega))⟩⟩
theorem s_says (hF : 99999999 ≤ FU) (hN : N < 2 ^ 20) (hW : WInv FU N P ver g T D S) (hC : CInv P ver g T D S pl nm hd I) (hR : RInv P g T D S I) (x1 : Int32) : Ste FU N pl nm hd rd I (fX8_says FU 0 x1) (fX9_says FU 60 x1) := by
  have hT : T.2.1 ≤ 6 := hW.2.2.2.2.1.2.2.1
  have wT := hW.2.2.2.2.1
  have wD := hW.2.2.2.2.2.1
  have hC' := hC
  obtain ⟨h1, h2, h3, h4, h5, h6, h7, h8, h9, h10, h11⟩ := hC
  have hk : ∀ J, RInv P g T D S J → YO P ver T.2.2.1 pl nm hd rd I J (fX8_says FU 0 x1 (I, R0 pl nm hd rd)) (fX9_says FU 60 x1) := fun J hJ => k_says hF (hC'.hs hW hN hJ) h7 wT h9 hJ.2.2.2.2.2.1 wD h10 hJ.2.2.2.2.2.2.1 x1
  have fr : ∀ {pl' nm' rd' : Option Nat} {I' : Nat → Nat → Int32}, YC P ver T.2.2.1 pl nm rd I pl' nm' rd' I' → ∀ q, q < 17 ∨ 30 < q ∧ q < 48 ∨ 49 < q → I' q = I q := by
    intro pl' nm' rd' I' c
    rcases c with ⟨_, _, _, e⟩ | ⟨_, _, _, _, _, _, _, _, c⟩
    · intro q _
      rw [e]
    · exact fun q hq => c q (by omega) (by omega) (by omega)
  obtain ⟨x0, ⟨I0, p0, m0, r0, a0, c0⟩, _⟩ := hk I hR
  have R0' := hR.congr (J := I0) (fun q hq => fr c0 q (by omega))
  obtain ⟨x, ⟨I1, p1, m1, t1, a1, c1⟩, h9'⟩ := hk I0 R0'
  obtain ⟨e1, e2⟩ := inj2 a0 a1
  subst e2
  obtain ⟨J1, b1, d0, d1, d2, d3⟩ := h9' p1 m1 hd t1
  have c2 := fr c1
  have KK : K17 P ver p1 I0 ∧ K28 P ver m1 I0 := by
    rcases c1 with ⟨z1, z2, z3, z4⟩ | ⟨z1, z2, z3, z4, z5, z6, z7, z8, _⟩
    · rw [z1, z2, z4]
      exact ⟨h4, h7⟩
    · rw [z1, z2]
      exact ⟨⟨rfl, fun _ => Or.inr ⟨ver, z4, Nat.le_refl _, fun _ => z5⟩⟩, Or.inr ⟨ver, z7, Nat.le_refl _, fun _ => ⟨rfl, z6, Or.inr z8⟩⟩⟩
  have C1 : CInv P ver g T D S p1 m1 hd I0 := ⟨h1.congr (fun q _ _ => c2 q (by omega)), by rw [c2 9 (by decide)]; exact h2, by rw [c2 1 (by decide)]; exact h3, KK.1, h5.congr (c2 0 (by decide)), h6.congr (fun q _ _ => c2 q (by omega)), KK.2, h8.congr (c2 35 (by decide)) (c2 36 (by decide)) (c2 37 (by decide)), h9.congr (c2 38 (by decide)) (c2 39 (by decide)), h10.congr hT (fun q _ _ => c2 q (by omega)), h11.congr (fun q _ _ => c2 q (by omega))⟩
  obtain ⟨r1, r2, r3, r4, r5, r6, r7, r8⟩ := R0'
  have d4 : ∀ q, q < 60 ∨ 60 < q ∧ q < 66 ∨ 69 < q ∧ q < 81 ∨ 81 < q → J1 q = I0 q := fun q hq => d2 q (by omega) (by omega) (by omega) (by omega) (by omega) (by omega)
  exact ⟨x, I0, J1, p1, m1, hd, t1, a1, b1, P, ver, g, T, D, S, hW.up, C1.congr hT (fun q hq => d4 q (by omega)), ⟨d0, d1, r3.congr (d3 15 (by decide)) (d4 70 (by decide)) (d4 71 (by decide)) (d4 72 (by decide)), fun j hj => by rw [d4 73 (by decide)]; exact r4 j hj, r5.congr (fun i _ _ => d3 i (by omega)) (d4 74 (by decide)) (d4 75 (by decide)), r6.congr (fun i _ _ => d3 i (by omega)) (d4 76 (by decide)), r7.congr (d4 77 (by decide)) (d4 78 (by decide)), r8.congr (fun q _ _ => d4 q (by omega))⟩⟩
end Steps3
