/-! the law: a call by its kind -/
section Steps
variable {FU ver N : Nat} {P : Pln} {g : Option Gme} {T : Txt} {D : Dtx} {S : Sht} {I J : Nat → Nat → Int32} {pl nm hd rd : Option Nat}
theorem inj2 {α : Type} {o : Option (α × Mem)} {x y : α} {I1 I2 : Nat → Nat → Int32} {R1 R2 : Nat → Nat → Option Nat} (a : o = some (x, (I1, R1))) (b : o = some (y, (I2, R2))) : x = y ∧ I1 = I2 := by
  rw [a] at b
  have e := Option.some.inj b
  exact ⟨congrArg (fun q => q.1) e, congrArg (fun q => q.2.1) e⟩
theorem s_RO {f8 f9 : Mem → Option (Int32 × Mem)} (hW : WInv FU N P ver g T D S) (hC : CInv P ver g T D S pl nm hd I) (hR : RInv P g T D S I) (hk : RO I I (R0 pl nm hd rd) (f8 (I, R0 pl nm hd rd)) (f9 (I, R0 pl nm hd rd))) : Ste FU N pl nm hd rd I f8 f9 := by
  obtain ⟨x, a, b⟩ := hk
  exact ⟨x, I, I, pl, nm, hd, rd, a, b, P, ver, g, T, D, S, hW.up, hC, hR⟩
theorem s_WO {f8 f9 : Mem → Option (Int32 × Mem)} (hW : WInv FU N P ver g T D S) (hC : CInv P ver g T D S pl nm hd I) (hR : RInv P g T D S I) (hk : ∀ J, RInv P g T D S J → WO 13 P I J (R0 pl nm hd rd) (f8 (I, R0 pl nm hd rd)) (f9 (J, R0 pl nm hd rd))) : Ste FU N pl nm hd rd I f8 f9 := by
  have hT : T.2.1 ≤ 6 := hW.2.2.2.2.1.2.2.1
  obtain ⟨x0, h0⟩ := hk I hR
  rcases h0 with ⟨a, b⟩ | ⟨P0, I0, J0, v0, _, _, _, _, a0, c0, _⟩
  · exact ⟨x0, I, I, pl, nm, hd, rd, a, b, P, ver, g, T, D, S, hW.up, hC, hR⟩
  have f0 : ∀ q, 60 ≤ q → I0 q = I q := fun q hq => c0.2.2.2.2 q (by omega) (by omega)
  have R0' := hR.congr f0
  obtain ⟨x, h1⟩ := hk I0 R0'
  rcases h1 with ⟨a, b⟩ | ⟨P1, I1, J1, v, v1, v2, p1, w1, a1, c1, b1, d1⟩
  · obtain ⟨e1, e2⟩ := inj2 a0 a
    subst e2
    exact ⟨x, I0, I0, pl, nm, hd, rd, a, b, P, ver, g, T, D, S, hW.up, hC, hR⟩
  · obtain ⟨e1, e2⟩ := inj2 a0 a1
    subst e2
    refine ⟨x, I0, J1, pl, nm, hd, rd, a1, b1, P1, ver + v, none, T, D, S, ⟨w1, by have := hW.2.1; omega, (fun _ h => by cases h), (fun _ h => by cases h), hW.2.2.2.2⟩, (hC.ch hT v1 p1 c1).congr hT (fun q hq => d1.2.2.2.2.2 q (Or.inl hq)), R0'.ch d1⟩
theorem s_PO {f8 f9 : Mem → Option (Int32 × Mem)} (hW : WInv FU N P ver g T D S) (hC : CInv P ver g T D S pl nm hd I) (hR : RInv P g T D S I) (hk : ∀ J, RInv P g T D S J → PO P I J (R0 pl nm hd rd) (f8 (I, R0 pl nm hd rd)) (f9 (J, R0 pl nm hd rd))) : Ste FU N pl nm hd rd I f8 f9 := by
  refine s_WO hW hC hR fun J hJ => ?_
  obtain ⟨x, h⟩ := hk J hJ
  refine ⟨x, ?_⟩
  rcases h with h | ⟨P1, I1, J1, p1, w1, a1, c1, b1, d1⟩
  · exact Or.inl h
  · exact Or.inr ⟨P1, I1, J1, 1, by decide, by decide, p1, w1, a1, c1, b1, d1⟩
theorem s_GO {f8 f9 : Mem → Option (Int32 × Mem)} (hW : WInv FU N P ver g T D S) (hC : CInv P ver g T D S pl nm hd I) (hR : RInv P g T D S I) (hk : ∀ J, RInv P g T D S J → GO P g I J (R0 pl nm hd rd) (f8 (I, R0 pl nm hd rd)) (f9 (J, R0 pl nm hd rd))) : Ste FU N pl nm hd rd I f8 f9 := by
  have hT : T.2.1 ≤ 6 := hW.2.2.2.2.1.2.2.1
  obtain ⟨x0, g0, _, _, ⟨I0, a0, _, c0⟩, _⟩ := hk I hR
  have R0' := hR.congr (J := I0) (fun q hq => c0 q (by omega))
  obtain ⟨x, g1, w1, n1, ⟨I1, a1, q1, c1⟩, J1, b1, d1, d2, d3⟩ := hk I0 R0'
  obtain ⟨e1, e2⟩ := inj2 a0 a1
  subst e2
  obtain ⟨h1, h2, h3, h4, h5, h6, h7, h8, h9, h10, h11⟩ := hC
  obtain ⟨r1, r2, r3, r4, r5, r6, r7, r8⟩ := R0'
  have C1 : CInv P ver g1 T D S pl nm hd I0 := ⟨h1.congr (fun q _ _ => c1 q (by omega)), by rw [c1 9 (by decide)]; exact h2, by rw [c1 1 (by decide)]; exact h3, h4.congr (fun q _ _ => c1 q (by omega)), h5.congr (c1 0 (by decide)), h6.congr (fun q _ _ => c1 q (by omega)), h7.congr (c1 28 (by decide)) (c1 29 (by decide)), q1, h9.congr (c1 38 (by decide)) (c1 39 (by decide)), h10.congr hT (fun q _ _ => c1 q (by omega)), h11.congr (fun q _ _ => c1 q (by omega))⟩
  refine ⟨x, I0, J1, pl, nm, hd, rd, a1, b1, P, ver, g1, T, D, S, ⟨hW.1, by have := hW.2.1; omega, fun y hy => by have := n1 _ hW.2.2.1 y hy; omega, w1, hW.2.2.2.2⟩, C1.congr hT (fun q hq => d2 q (by omega)), ⟨r1.congr (fun i _ => d3 i (by omega)) (fun q _ _ => d2 q (by omega)), r2.congr (d3 9 (by decide)) (d2 66 (by decide)), r3.congr (d3 15 (by decide)) (d2 70 (by decide)) (d2 71 (by decide)) (d2 72 (by decide)), fun j hj => by rw [d2 73 (by decide)]; exact r4 j hj, d1, r6.congr (fun i _ _ => d3 i (by omega)) (d2 76 (by decide)), r7.congr (d2 77 (by decide)) (d2 78 (by decide)), r8.congr (fun q _ _ => d2 q (by omega))⟩⟩
/-- the class's solved standings, kept -/
theorem CInv.sc {pl' : Option Nat} (hT : T.2.1 ≤ 6) (h : CInv P ver g T D S pl nm hd I) (c : SCs P ver pl I pl' J) : CInv P ver g T D S pl' nm hd J := by
  rcases c with ⟨e1, e2⟩ | ⟨e1, e2, ⟨L, l1, l2⟩, c1⟩
  · subst e1
    subst e2
    exact h
  · subst e1
    obtain ⟨h1, h2, h3, h4, h5, h6, h7, h8, h9, h10, h11⟩ := h
    exact ⟨h1.congr (fun q _ _ => c1 q (by omega)), by rw [c1 9 (by decide)]; exact h2, by rw [c1 1 (by decide)]; exact h3, ⟨rfl, fun _ => Or.inr ⟨ver, e2, Nat.le_refl _, fun _ => ⟨L, l1, l2⟩⟩⟩, h5.congr (c1 0 (by decide)), h6.congr (fun q _ _ => c1 q (by omega)), h7.congr (c1 28 (by decide)) (c1 29 (by decide)), h8.congr (c1 35 (by decide)) (c1 36 (by decide)) (c1 37 (by decide)), h9.congr (c1 38 (by decide)) (c1 39 (by decide)), h10.congr hT (fun q _ _ => c1 q (by omega)), h11.congr (fun q _ _ => c1 q (by omega))⟩
theorem RInv.sr (h : RInv P g T D S I) (c : SRs P I J) : RInv P g T D S J := by
  rcases c with e | ⟨e1, e2, c1, c2⟩
  · subst e
    exact h
  · obtain ⟨r1, r2, r3, r4, r5, r6, r7, r8⟩ := h
    exact ⟨r1.congr (fun i _ => c2 i (by omega)) (fun q _ _ => c1 q (by omega) (by omega) (by omega)), Or.inr ⟨e1, e2⟩, r3.congr (c2 15 (by decide)) (c1 70 (by decide) (by decide) (by decide)) (c1 71 (by decide) (by decide) (by decide)) (c1 72 (by decide) (by decide) (by decide)), fun j hj => by rw [c1 73 (by decide) (by decide) (by decide)]; exact r4 j hj, r5.congr (fun i _ _ => c2 i (by omega)) (c1 74 (by decide) (by decide) (by decide)) (c1 75 (by decide) (by decide) (by decide)), r6.congr (fun i _ _ => c2 i (by omega)) (c1 76 (by decide) (by decide) (by decide)), r7.congr (c1 77 (by decide) (by decide) (by decide)) (c1 78 (by decide) (by decide) (by decide)), r8.congr (fun q _ _ => c1 q (by omega) (by omega) (by omega))⟩
theorem SCs.fr {pl' : Option Nat} (c : SCs P ver pl I pl' J) : ∀ q, 60 ≤ q → J q = I q := by
  rcases c with ⟨_, e2⟩ | ⟨_, _, _, c1⟩
  · intro q _
    rw [e2]
  · exact fun q hq => c1 q (by omega)
theorem SRs.lo (c : SRs P I J) : ∀ q, q < 60 → J q = I q := by
  rcases c with e2 | ⟨_, _, c1, _⟩
  · intro q _
    rw [e2]
  · exact fun q hq => c1 q (by omega) (by omega) (by omega)
theorem s_SO {f8 f9 : Mem → Option (Int32 × Mem)} (hW : WInv FU N P ver g T D S) (hC : CInv P ver g T D S pl nm hd I) (hR : RInv P g T D S I) (hk : ∀ J, RInv P g T D S J → SO P ver pl nm hd rd I J (f8 (I, R0 pl nm hd rd)) f9) : Ste FU N pl nm hd rd I f8 f9 := by
  have hT : T.2.1 ≤ 6 := hW.2.2.2.2.1.2.2.1
  obtain ⟨x0, ⟨I0, p0, a0, c0⟩, _⟩ := hk I hR
  have R0' := hR.congr (J := I0) c0.fr
  obtain ⟨x, ⟨I1, p1, a1, c1⟩, h9⟩ := hk I0 R0'
  obtain ⟨e1, e2⟩ := inj2 a0 a1
  subst e2
  obtain ⟨J1, b1, d1⟩ := h9 p1
  exact ⟨x, I0, J1, p1, nm, hd, rd, a1, b1, P, ver, g, T, D, S, hW.up, (hC.sc hT c1).congr hT d1.lo, R0'.sr d1⟩
end Steps
