/-! the law: a call by its kind, the rest -/
section Steps2
variable {FU ver N : Nat} {P : Pln} {g : Option Gme} {T : Txt} {D : Dtx} {S : Sht} {I J : Nat → Nat → Int32} {pl nm hd rd : Option Nat}
theorem s_MO {f8 f9 : Mem → Option (Int32 × Mem)} (hW : WInv FU N P ver g T D S) (hC : CInv P ver g T D S pl nm hd I) (hR : RInv P g T D S I) (hk : ∀ J, RInv P g T D S J → MO P ver g pl nm hd rd I J (f8 (I, R0 pl nm hd rd)) f9) : Ste FU N pl nm hd rd I f8 f9 := by
  have hT : T.2.1 ≤ 6 := hW.2.2.2.2.1.2.2.1
  obtain ⟨x0, g0, _, _, ⟨I0, p0, a0, _, c0⟩, _⟩ := hk I hR
  have R0' := hR.congr (J := I0) (fun q hq => c0.2 q (by omega) (by omega) (by omega) (by omega))
  obtain ⟨x, g1, w1, n1, ⟨I1, p1, a1, q1, k1, c1⟩, h9⟩ := hk I0 R0'
  obtain ⟨e1, e2⟩ := inj2 a0 a1
  subst e2
  obtain ⟨J1, b1, d1, m1, d2, d3⟩ := h9 p1
  obtain ⟨h1, h2, h3, h4, h5, h6, h7, h8, h9', h10, h11⟩ := hC
  obtain ⟨r1, r2, r3, r4, r5, r6, r7, r8⟩ := R0'
  have K1 : K17 P ver p1 I0 := by
    rcases k1 with ⟨z1, z2⟩ | ⟨z1, z2, z3⟩
    · rw [z1]
      exact h4.congr z2
    · subst z1
      exact ⟨rfl, fun _ => Or.inr ⟨ver, z2, Nat.le_refl _, fun _ => z3⟩⟩
  have c2 : ∀ q, q < 17 ∨ 37 < q ∨ 27 < q ∧ q < 35 → I0 q = I q := fun q hq => c1 q (by omega) (by omega) (by omega) (by omega)
  have C1 : CInv P ver g1 T D S p1 nm hd I0 := ⟨h1.congr (fun q _ _ => c2 q (by omega)), by rw [c2 9 (by decide)]; exact h2, by rw [c2 1 (by decide)]; exact h3, K1, h5.congr (c2 0 (by decide)), h6.congr (fun q _ _ => c2 q (by omega)), h7.congr (c2 28 (by decide)) (c2 29 (by decide)), q1, h9'.congr (c2 38 (by decide)) (c2 39 (by decide)), h10.congr hT (fun q _ _ => c2 q (by omega)), h11.congr (fun q _ _ => c2 q (by omega))⟩
  have d4 : ∀ q, q ≠ 60 → q ≠ 66 → q ≠ 67 → q ≠ 74 → q ≠ 75 → J1 q = I0 q := d2
  have K6 : K60 P J1 := by
    rcases m1 with ⟨z1, z2⟩ | z
    · exact r2.congr z1 z2
    · exact Or.inr z
  refine ⟨x, I0, J1, p1, nm, hd, rd, a1, b1, P, ver, g1, T, D, S, ⟨hW.1, by have := hW.2.1; omega, ?_, w1, hW.2.2.2.2⟩, C1.congr hT (fun q hq => d4 q (by omega) (by omega) (by omega) (by omega) (by omega)), ⟨r1.congr (fun i _ => d3 i (by omega) (by omega)) (fun q _ _ => d4 q (by omega) (by omega) (by omega) (by omega) (by omega)), K6, r3.congr (d3 15 (by decide) (by decide)) (d4 70 (by decide) (by decide) (by decide) (by decide) (by decide)) (d4 71 (by decide) (by decide) (by decide) (by decide) (by decide)) (d4 72 (by decide) (by decide) (by decide) (by decide) (by decide)), fun j hj => by rw [d4 73 (by decide) (by decide) (by decide) (by decide) (by decide)]; exact r4 j hj, d1, r6.congr (fun i _ _ => d3 i (by omega) (by omega)) (d4 76 (by decide) (by decide) (by decide) (by decide) (by decide)), r7.congr (d4 77 (by decide) (by decide) (by decide) (by decide) (by decide)) (d4 78 (by decide) (by decide) (by decide) (by decide) (by decide)), r8.congr (fun q _ _ => d4 q (by omega) (by omega) (by omega) (by omega) (by omega))⟩⟩
  have := n1 _ hW.2.2.1
  rw [show 40 * (N + 1) = 40 * N + 40 by omega]
  exact this
theorem s_HO {f8 f9 : Mem → Option (Int32 × Mem)} (hW : WInv FU N P ver g T D S) (hC : CInv P ver g T D S pl nm hd I) (hR : RInv P g T D S I) (hk : ∀ J, RInv P g T D S J → HO P ver pl nm hd rd I J (f8 (I, R0 pl nm hd rd)) f9) : Ste FU N pl nm hd rd I f8 f9 := by
  have hT : T.2.1 ≤ 6 := hW.2.2.2.2.1.2.2.1
  have fr : ∀ {hd' : Option Nat} {I' : Nat → Nat → Int32}, HCs P ver hd I hd' I' → ∀ q, q < 31 ∨ 34 < q → I' q = I q := by
    intro hd' I' c
    rcases c with ⟨_, e⟩ | ⟨_, _, _, c⟩
    · intro q _
      rw [e]
    · exact c
  obtain ⟨x0, ⟨I0, p0, a0, c0⟩, _⟩ := hk I hR
  have R0' := hR.congr (J := I0) (fun q hq => fr c0 q (by omega))
  obtain ⟨x, ⟨I1, p1, a1, c1⟩, h9⟩ := hk I0 R0'
  obtain ⟨e1, e2⟩ := inj2 a0 a1
  subst e2
  obtain ⟨J1, b1, d1⟩ := h9 p1
  have c2 := fr c1
  obtain ⟨h1, h2, h3, h4, h5, h6, h7, h8, h9', h10, h11⟩ := hC
  have K3 : K31 P ver p1 I0 := by
    rcases c1 with ⟨z1, z2⟩ | ⟨z1, z2, z3, _⟩
    · rw [z1, z2]
      exact h6
    · exact Or.inr ⟨ver, z2, Nat.le_refl _, fun _ => ⟨z1, z3⟩⟩
  have C1 : CInv P ver g T D S pl nm p1 I0 := ⟨h1.congr (fun q _ _ => c2 q (by omega)), by rw [c2 9 (by decide)]; exact h2, by rw [c2 1 (by decide)]; exact h3, h4.congr (fun q _ _ => c2 q (by omega)), h5.congr (c2 0 (by decide)), K3, h7.congr (c2 28 (by decide)) (c2 29 (by decide)), h8.congr (c2 35 (by decide)) (c2 36 (by decide)) (c2 37 (by decide)), h9'.congr (c2 38 (by decide)) (c2 39 (by decide)), h10.congr hT (fun q _ _ => c2 q (by omega)), h11.congr (fun q _ _ => c2 q (by omega))⟩
  rcases d1 with e | ⟨e1, e2, e3, e4, e5, e6⟩
  · subst e
    exact ⟨x, J1, J1, pl, nm, p1, rd, a1, b1, P, ver, g, T, D, S, hW.up, C1, R0'⟩
  · obtain ⟨r1, r2, r3, r4, r5, r6, r7, r8⟩ := R0'
    have d4 : ∀ q, q < 60 ∨ 60 < q ∧ q < 70 ∨ 73 < q → J1 q = I0 q := fun q hq => e5 q (by omega) (by omega) (by omega) (by omega) (by omega)
    exact ⟨x, I0, J1, pl, nm, p1, rd, a1, b1, P, ver, g, T, D, S, hW.up, C1.congr hT (fun q hq => d4 q (by omega)), ⟨r1.congr (fun i _ => e6 i (by omega)) (fun q _ _ => d4 q (by omega)), r2.congr (e6 9 (by decide)) (d4 66 (by decide)), Or.inr ⟨e1, e2, e3⟩, e4, r5.congr (fun i _ _ => e6 i (by omega)) (d4 74 (by decide)) (d4 75 (by decide)), r6.congr (fun i _ _ => e6 i (by omega)) (d4 76 (by decide)), r7.congr (d4 77 (by decide)) (d4 78 (by decide)), r8.congr (fun q _ _ => d4 q (by omega))⟩⟩
theorem s_NO {f8 f9 : Mem → Option (Int32 × Mem)} (hW : WInv FU N P ver g T D S) (hC : CInv P ver g T D S pl nm hd I) (hR : RInv P g T D S I) (hk : ∀ J, RInv P g T D S J → NO P ver pl nm hd rd I J (f8 (I, R0 pl nm hd rd)) f9) : Ste FU N pl nm hd rd I f8 f9 := by
  have hT : T.2.1 ≤ 6 := hW.2.2.2.2.1.2.2.1
  have fr : ∀ {nm' : Option Nat} {I' : Nat → Nat → Int32}, NCs P ver nm I nm' I' → ∀ q, q < 28 ∨ 30 < q → I' q = I q := by
    intro nm' I' c
    rcases c with ⟨_, e⟩ | ⟨_, _, _, _, c⟩
    · intro q _
      rw [e]
    · exact fun q hq => c q (by omega) (by omega) (by omega)
  obtain ⟨x0, ⟨I0, p0, a0, c0⟩, _⟩ := hk I hR
  have R0' := hR.congr (J := I0) (fun q hq => fr c0 q (by omega))
  obtain ⟨x, ⟨I1, p1, a1, c1⟩, h9⟩ := hk I0 R0'
  obtain ⟨e1, e2⟩ := inj2 a0 a1
  subst e2
  obtain ⟨J1, b1, d1⟩ := h9 p1
  have c2 := fr c1
  obtain ⟨h1, h2, h3, h4, h5, h6, h7, h8, h9', h10, h11⟩ := hC
  have K3 : K28 P ver p1 I0 := by
    rcases c1 with ⟨z1, z2⟩ | ⟨z1, z2, z3, z4, _⟩
    · rw [z1, z2]
      exact h7
    · exact Or.inr ⟨ver, z3, Nat.le_refl _, fun _ => ⟨z1, z2, z4⟩⟩
  have C1 : CInv P ver g T D S pl p1 hd I0 := ⟨h1.congr (fun q _ _ => c2 q (by omega)), by rw [c2 9 (by decide)]; exact h2, by rw [c2 1 (by decide)]; exact h3, h4.congr (fun q _ _ => c2 q (by omega)), h5.congr (c2 0 (by decide)), h6.congr (fun q _ _ => c2 q (by omega)), K3, h8.congr (c2 35 (by decide)) (c2 36 (by decide)) (c2 37 (by decide)), h9'.congr (c2 38 (by decide)) (c2 39 (by decide)), h10.congr hT (fun q _ _ => c2 q (by omega)), h11.congr (fun q _ _ => c2 q (by omega))⟩
  obtain ⟨r1, r2, r3, r4, r5, r6, r7, r8⟩ := R0'
  have d4 : ∀ q, q < 68 ∨ 69 < q → J1 q = I0 q := fun q hq => d1 q (by omega) (by omega)
  have d60 := d4 60 (by decide)
  exact ⟨x, I0, J1, pl, p1, hd, rd, a1, b1, P, ver, g, T, D, S, hW.up, C1.congr hT (fun q hq => d4 q (by omega)), ⟨r1.congr (fun i _ => by rw [d60]) (fun q _ _ => d4 q (by omega)), r2.congr (by rw [d60]) (d4 66 (by decide)), r3.congr (by rw [d60]) (d4 70 (by decide)) (d4 71 (by decide)) (d4 72 (by decide)), fun j hj => by rw [d4 73 (by decide)]; exact r4 j hj, r5.congr (fun i _ _ => by rw [d60]) (d4 74 (by decide)) (d4 75 (by decide)), r6.congr (fun i _ _ => by rw [d60]) (d4 76 (by decide)), r7.congr (d4 77 (by decide)) (d4 78 (by decide)), r8.congr (fun q _ _ => d4 q (by omega))⟩⟩
theorem s_TO {f8 f9 : Mem → Option (Int32 × Mem)} (hW : WInv FU N P ver g T D S) (hC : CInv P ver g T D S pl nm hd I) (hR : RInv P g T D S I) (hk : ∀ J, RInv P g T D S J → TO T I J (R0 pl nm hd rd) (f8 (I, R0 pl nm hd rd)) (f9 (J, R0 pl nm hd rd))) : Ste FU N pl nm hd rd I f8 f9 := by
  have hT : T.2.1 ≤ 6 := hW.2.2.2.2.1.2.2.1
  obtain ⟨x0, T0, _, _, ⟨I0, a0, _, c0⟩, _⟩ := hk I hR
  have R0' := hR.congr (J := I0) (fun q hq => c0 q (by omega) (by omega))
  obtain ⟨x, T1, w1, n1, ⟨I1, a1, q1, c1⟩, J1, b1, d1, d2, d3⟩ := hk I0 R0'
  obtain ⟨e1, e2⟩ := inj2 a0 a1
  subst e2
  have hT1 : T1.2.1 ≤ 6 := by omega
  obtain ⟨h1, h2, h3, h4, h5, h6, h7, h8, h9, h10, h11⟩ := hC
  obtain ⟨r1, r2, r3, r4, r5, r6, r7, r8⟩ := R0'
  have c2 : ∀ q, q < 38 ∨ 39 < q → I0 q = I q := fun q hq => c1 q (by omega) (by omega)
  have C1 : CInv P ver g T1 D S pl nm hd I0 := ⟨h1.congr (fun q _ _ => c2 q (by omega)), by rw [c2 9 (by decide)]; exact h2, by rw [c2 1 (by decide)]; exact h3, h4.congr (fun q _ _ => c2 q (by omega)), h5.congr (c2 0 (by decide)), h6.congr (fun q _ _ => c2 q (by omega)), h7.congr (c2 28 (by decide)) (c2 29 (by decide)), h8.congr (c2 35 (by decide)) (c2 36 (by decide)) (c2 37 (by decide)), q1, by rw [n1]; exact h10.congr hT (fun q _ _ => c2 q (by omega)), h11.congr (fun q _ _ => c2 q (by omega))⟩
  have d4 : ∀ q, q ≠ 60 → q ≠ 76 → J1 q = I0 q := d2
  have u := hW.up
  exact ⟨x, I0, J1, pl, nm, hd, rd, a1, b1, P, ver, g, T1, D, S, ⟨u.1, u.2.1, u.2.2.1, u.2.2.2.1, w1, by rw [n1]; exact u.2.2.2.2.2.1, u.2.2.2.2.2.2⟩, C1.congr hT1 (fun q hq => d4 q (by omega) (by omega)), ⟨r1.congr (fun i _ => d3 i (by omega) (by omega)) (fun q _ _ => d4 q (by omega) (by omega)), r2.congr (d3 9 (by decide) (by decide)) (d4 66 (by decide) (by decide)), r3.congr (d3 15 (by decide) (by decide)) (d4 70 (by decide) (by decide)) (d4 71 (by decide) (by decide)) (d4 72 (by decide) (by decide)), fun j hj => by rw [d4 73 (by decide) (by decide)]; exact r4 j hj, r5.congr (fun i _ _ => d3 i (by omega) (by omega)) (d4 74 (by decide) (by decide)) (d4 75 (by decide) (by decide)), d1, by rw [n1]; exact r7.congr (d4 77 (by decide) (by decide)) (d4 78 (by decide) (by decide)), r8.congr (fun q _ _ => d4 q (by omega) (by omega))⟩⟩
theorem s_SH {f8 f9 : Mem → Option (Int32 × Mem)} (hW : WInv FU N P ver g T D S) (hC : CInv P ver g T D S pl nm hd I) (hR : RInv P g T D S I) (hk : ∀ J, RInv P g T D S J → ∃ r S', WfS S' ∧ (∃ I', f8 (I, R0 pl nm hd rd) = some (r, (I', R0 pl nm hd rd)) ∧ CS S' I' ∧ (∀ k, k < 52 ∨ 59 < k → I' k = I k)) ∧ (∃ J', f9 (J, R0 pl nm hd rd) = some (r, (J', R0 pl nm hd rd)) ∧ RS S' J' ∧ (∀ k, k ≠ 82 → k ≠ 83 → k ≠ 84 → J' k = J k))) : Ste FU N pl nm hd rd I f8 f9 := by
  have hT : T.2.1 ≤ 6 := hW.2.2.2.2.1.2.2.1
  obtain ⟨x0, S0, _, ⟨I0, a0, _, c0⟩, _⟩ := hk I hR
  have R0' := hR.congr (J := I0) (fun q hq => c0 q (by omega))
  obtain ⟨x, S1, w1, ⟨I1, a1, q1, c2⟩, J1, b1, d1, d2⟩ := hk I0 R0'
  obtain ⟨e1, e2⟩ := inj2 a0 a1
  subst e2
  obtain ⟨h1, h2, h3, h4, h5, h6, h7, h8, h9, h10, h11⟩ := hC
  obtain ⟨r1, r2, r3, r4, r5, r6, r7, r8⟩ := R0'
  have C1 : CInv P ver g T D S1 pl nm hd I0 := ⟨h1.congr (fun q _ _ => c2 q (by omega)), by rw [c2 9 (by decide)]; exact h2, by rw [c2 1 (by decide)]; exact h3, h4.congr (fun q _ _ => c2 q (by omega)), h5.congr (c2 0 (by decide)), h6.congr (fun q _ _ => c2 q (by omega)), h7.congr (c2 28 (by decide)) (c2 29 (by decide)), h8.congr (c2 35 (by decide)) (c2 36 (by decide)) (c2 37 (by decide)), h9.congr (c2 38 (by decide)) (c2 39 (by decide)), h10.congr hT (fun q _ _ => c2 q (by omega)), q1⟩
  have d4 : ∀ q, q < 82 ∨ 84 < q → J1 q = I0 q := fun q hq => d2 q (by omega) (by omega) (by omega)
  have d60 := d4 60 (by decide)
  have u := hW.up
  exact ⟨x, I0, J1, pl, nm, hd, rd, a1, b1, P, ver, g, T, D, S1, ⟨u.1, u.2.1, u.2.2.1, u.2.2.2.1, u.2.2.2.2.1, u.2.2.2.2.2.1, w1⟩, C1.congr hT (fun q hq => d4 q (by omega)), ⟨r1.congr (fun i _ => by rw [d60]) (fun q _ _ => d4 q (by omega)), r2.congr (by rw [d60]) (d4 66 (by decide)), r3.congr (by rw [d60]) (d4 70 (by decide)) (d4 71 (by decide)) (d4 72 (by decide)), fun j hj => by rw [d4 73 (by decide)]; exact r4 j hj, r5.congr (fun i _ _ => by rw [d60]) (d4 74 (by decide)) (d4 75 (by decide)), r6.congr (fun i _ _ => by rw [d60]) (d4 76 (by decide)), r7.congr (d4 77 (by decide)) (d4 78 (by decide)), d1⟩⟩
end Steps2
