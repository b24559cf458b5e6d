/-! calls: says -/
section Says3
variable {FU ver : Nat} {P : Pln} {I J : Nat → Nat → Int32} {pl nm hd rd : Option Nat} {L : Sd → Option Nat}
def YC (P : Pln) (ver t : Nat) (pl nm rd : Option Nat) (I : Nat → Nat → Int32) (pl' nm' rd' : Option Nat) (I' : Nat → Nat → Int32) : Prop := (pl' = pl ∧ nm' = nm ∧ rd' = rd ∧ I' = I) ∨ (pl' = some 1 ∧ nm' = some 1 ∧ rd' = some (41 + t) ∧ I' 17 1 = nI ver ∧ (∃ L, SolC P L I' ∧ LoneOK P L I') ∧ CJ P (Pn P) I' ∧ I' 28 1 = nI ver ∧ I' 28 2 = nI (nTur P) ∧ ∀ q, q < 17 ∨ 30 < q → q ≠ 48 → q ≠ 49 → I' q = I q)
def YO (P : Pln) (ver t : Nat) (pl nm hd rd : Option Nat) (I J : Nat → Nat → Int32) (o8 : Option (Int64 × Mem)) (o9 : Mem → Option (Int64 × Mem)) : Prop := ∃ x, (∃ I' pl' nm' rd', o8 = some (x, (I', R0 pl' nm' hd rd')) ∧ YC P ver t pl nm rd I pl' nm' rd' I') ∧ ∀ pz nz hz dz, ∃ J', o9 (J, R0 pz nz hz dz) = some (x, (J', R0 pz nz hz dz)) ∧ NR P J J'
theorem LoneOK.congr {I' : Nat → Nat → Int32} (h : LoneOK P L I) (h17 : I' 17 18 = I 17 18) (h27 : I' 27 = I 27) : LoneOK P L I' := by
  unfold LoneOK at h ⊢
  rw [h17, h27]
  exact h
/-- the six names' values, put down -/
def nm6 (I : Nat → Nat → Int32) (a b c : Int32) : Nat → Nat → Int32 := up2 (up2 (up2 I 49 0 a) 49 1 b) 49 2 c
theorem nm6_ne {I : Nat → Nat → Int32} {a b c : Int32} {q : Nat} (h : q ≠ 49) : nm6 I a b c q = I q := by
  unfold nm6
  rw [up2_ne h, up2_ne h, up2_ne h]
theorem c_says (hF : 99999999 ≤ FU) (hC : PlC 1 P I) (hW : WfP P) (hv : I 1 12 = nI ver) (hver : ver < 2 ^ 30) (hK : K17 P ver pl I) (hN : K28 P ver nm I) {T : Txt} {D : Dtx} (hWT : WT T) (hCT : CT T I) (hWD : WDx FU T.2.1 D) (hCD : CDx T.2.1 D I) {k : Nat} (hk : k < 2) : ∃ I' L x, fX8_says FU 0 (nI k) (I, R0 pl nm hd rd) = some (x.toInt64, (I', R0 (some 1) (some 1) hd (some (41 + T.2.2.1)))) ∧ YC P ver T.2.2.1 pl nm rd I (some 1) (some 1) (some (41 + T.2.2.1)) I' ∧ SolC P L I' ∧ cdV (fun i => nI (nmd P L i)) (if k = 0 then (D T.2.2.1).2.2.1 else (D T.2.2.1).2.2.2) x := by
  obtain ⟨t1, t2, t3, t4⟩ := hCT
  obtain ⟨w1, w2, w3, w4, w5⟩ := hWT
  have rc8 : rc 8 (some 0) = some 0 := rfl
  have rc6 : rc 6 (some 17) = some 17 := rfl
  have rc2 : rc 2 (some 28) = some 28 := rfl
  have rc4 : rc 4 (some 48) = some 48 := rfl
  obtain ⟨I1, L, s1, s2, s3, s4, s5⟩ := c_solvedSt (nm := nm) (hd := hd) (rd := rd) hF hC hW hv hver hK
  have e2 : ∃ I2, I2 = nm6 I1 (I1 17 2) (I1 17 3) (I1 17 4) := ⟨_, rfl⟩
  obtain ⟨I2, e2⟩ := e2
  have f2 : ∀ q, q ≠ 49 → I2 q = I1 q := fun q hq => by rw [e2, nm6_ne hq]
  have C2 : PlC 1 P I2 := hC.congr (fun q q1 q2 => by rw [f2 q (by omega), s5 q (by omega)])
  have S2 : SolC P L I2 := s2.congr (f2 18 (by decide)) (f2 25 (by decide)) (by rw [f2 17 (by decide)]) (by rw [f2 17 (by decide)]) (by rw [f2 17 (by decide)])
  have O2 : LoneOK P L I2 := s3.congr (by rw [f2 17 (by decide)]) (f2 27 (by decide))
  obtain ⟨I3, p1, p2, p3, p4, p5⟩ := c_allPuzzles (nm := nm) (hd := hd) (rd := rd) hF (Or.inl rfl) C2 hW S2 O2
  have e4 : ∃ I4, I4 = up2 (up2 I3 49 3 (nI (cnt (loneB P L) 512))) 49 4 (nI (Pn P)) := ⟨_, rfl⟩
  obtain ⟨I4, e4⟩ := e4
  have f4 : ∀ q, q ≠ 49 → I4 q = I3 q := fun q hq => by rw [e4, up2_ne hq, up2_ne hq]
  have old : ∀ q, q < 17 ∨ 27 < q → q ≠ 49 → I4 q = I q := fun q h1 h2 => by rw [f4 q h2, p4 q (by omega) (by omega), f2 q h2, s5 q h1]
  have C4 : PlC 1 P I4 := hC.congr (fun q q1 q2 => old q (by omega) (by omega))
  have v4 : I4 1 12 = nI ver := by rw [old 1 (by decide) (by decide), hv]
  have N4 : K28 P ver nm I4 := by
    have a28 := old 28 (by decide) (by decide)
    have a29 := old 29 (by decide) (by decide)
    unfold K28 CJ at hN ⊢
    rw [a28, a29]
    exact hN
  obtain ⟨I5, n1, n2, n3, n4, n5⟩ := c_countOf (pl := some 1) (hd := hd) (rd := rd) hF C4 hW v4 hver N4
  have e6 : ∃ I6, I6 = up2 I5 49 5 (nI (nTur P)) := ⟨_, rfl⟩
  obtain ⟨I6, e6⟩ := e6
  have f6 : ∀ q, q ≠ 49 → I6 q = I5 q := fun q hq => by rw [e6, up2_ne hq]
  have old6 : ∀ q, q < 17 ∨ 30 < q → q ≠ 49 → I6 q = I q := fun q h1 h2 => by rw [f6 q h2, n5 q (by omega) (by omega) (by omega), old q (by omega) h2]
  have i17 : ∀ q, 17 ≤ q → q ≤ 27 → I6 q = I3 q := fun q h1 h2 => by rw [f6 q (by omega), n5 q (by omega) (by omega) (by omega), f4 q (by omega)]
  have S6 : SolC P L I6 := p2.congr (i17 18 (by decide) (by decide)) (i17 25 (by decide) (by decide)) (by rw [i17 17 (by decide) (by decide)]) (by rw [i17 17 (by decide) (by decide)]) (by rw [i17 17 (by decide) (by decide)])
  have ht6 : T.2.2.1 < 6 := by omega
  obtain ⟨d1, d2⟩ := hCD T.2.2.1 w4
  obtain ⟨g1, g2⟩ := hWD T.2.2.1 w4
  have names : ∀ j, j < 6 → I6 49 j = nI (nmd P L j) := by
    intro j hj
    have b3 : I5 49 = I4 49 := n5 49 (by decide) (by decide) (by decide)
    have b2 : I3 49 = I2 49 := p4 49 (by decide) (by decide)
    have c1 : I1 17 2 = nI (wonP P L 512) := s2.2.2.2.2.2.1
    have c2 : I1 17 3 = nI (allP P 512) := s2.2.2.2.2.2.2.1
    have c3 : I1 17 4 = nI (lngP P L 512) := s2.2.2.2.2.2.2.2
    obtain z | z | z | z | z | z : j = 0 ∨ j = 1 ∨ j = 2 ∨ j = 3 ∨ j = 4 ∨ j = 5 := by omega
    · subst z
      rw [e6, up2_i (by decide), b3, e4, up2_i (by decide), up2_i (by decide), b2, e2]
      unfold nm6
      rw [up2_i (by decide), up2_i (by decide), up2_s, c1]
      rfl
    · subst z
      rw [e6, up2_i (by decide), b3, e4, up2_i (by decide), up2_i (by decide), b2, e2]
      unfold nm6
      rw [up2_i (by decide), up2_s, c2]
      rfl
    · subst z
      rw [e6, up2_i (by decide), b3, e4, up2_i (by decide), up2_i (by decide), b2, e2]
      unfold nm6
      rw [up2_s, c3]
      rfl
    · subst z
      rw [e6, up2_i (by decide), b3, e4, up2_i (by decide), up2_s]
      rfl
    · subst z
      rw [e6, up2_i (by decide), b3, e4, up2_s]
      rfl
    · subst z
      rw [e6, up2_s]
      rfl
  obtain ⟨I7, x1, x2, r1, r2, r3, r4, r5, r6⟩ := g2 (fun i => nI (nmd P L i)) (some 1) (some 1) hd rd (41 + T.2.2.1) I6 (br_4 ht6) (by omega) (al_4 ht6) (fun j hj => by rw [old6 (41 + T.2.2.1) (by omega) (by omega)]; exact d2 j hj) names
  have k17 : ∀ q, 17 ≤ q → q ≤ 27 → I7 q = I3 q := fun q h1 h2 => by rw [r2 q (by omega), i17 q h1 h2]
  have S7 : SolC P L I7 := p2.congr (k17 18 (by decide) (by decide)) (k17 25 (by decide) (by decide)) (by rw [k17 17 (by decide) (by decide)]) (by rw [k17 17 (by decide) (by decide)]) (by rw [k17 17 (by decide) (by decide)])
  have O7 : LoneOK P L I7 := p3.congr (by rw [k17 17 (by decide) (by decide)]) (k17 27 (by decide) (by decide))
  have Y7 : YC P ver T.2.2.1 pl nm rd I (some 1) (some 1) (some (41 + T.2.2.1)) I7 := by
    refine Or.inr ⟨rfl, rfl, rfl, ?_, ⟨L, S7, O7⟩, ?_, ?_, ?_, fun q h1 h2 h3 => by rw [r2 q h2, old6 q h1 h3]⟩
    · rw [k17 17 (by decide) (by decide), p5 1 (by decide), f2 17 (by decide), s4]
    · have a29 : I7 29 = I5 29 := by rw [r2 29 (by decide), f6 29 (by decide)]
      unfold CJ at n2 ⊢
      rw [a29]
      exact n2
    · rw [r2 28 (by decide), f6 28 (by decide), n3]
    · rw [r2 28 (by decide), f6 28 (by decide), n4]
  have run : fX8_says FU 0 (nI k) (I, R0 pl nm hd rd) = if ¬ nI k = 0 then some (x2.toInt64, (I7, R0 (some 1) (some 1) hd (some (41 + T.2.2.1)))) else some (x1.toInt64, (I7, R0 (some 1) (some 1) hd (some (41 + T.2.2.1)))) := by
    unfold fX8_says
    have fr7 : ∀ {M : Nat → Nat → Int32} {a b c d : Option Nat} {β : Type} (f : Option Nat → Option β), (fR 7 (M, R0 a b c d) (some 38) 6).bind f = f (some 48) := fun f => rfl
    have s49_0 : ∀ {M : Nat → Nat → Int32} {R : Nat → Nat → Option Nat} {x : Int32} {β : Type} (f : Mem → Option β), (sI 0 (M, R) (some 49) (0 : Int32) x).bind f = f (up2 M 49 0 x, R) := fun f => sIb_49 (by decide)
    have s49_1 : ∀ {M : Nat → Nat → Int32} {R : Nat → Nat → Option Nat} {x : Int32} {β : Type} (f : Mem → Option β), (sI 0 (M, R) (some 49) (1 : Int32) x).bind f = f (up2 M 49 1 x, R) := fun f => sIb_49 (by decide)
    have s49_2 : ∀ {M : Nat → Nat → Int32} {R : Nat → Nat → Option Nat} {x : Int32} {β : Type} (f : Mem → Option β), (sI 0 (M, R) (some 49) (2 : Int32) x).bind f = f (up2 M 49 2 x, R) := fun f => sIb_49 (by decide)
    have s49_3 : ∀ {M : Nat → Nat → Int32} {R : Nat → Nat → Option Nat} {x : Int32} {β : Type} (f : Mem → Option β), (sI 0 (M, R) (some 49) (3 : Int32) x).bind f = f (up2 M 49 3 x, R) := fun f => sIb_49 (by decide)
    have s49_4 : ∀ {M : Nat → Nat → Int32} {R : Nat → Nat → Option Nat} {x : Int32} {β : Type} (f : Mem → Option β), (sI 0 (M, R) (some 49) (4 : Int32) x).bind f = f (up2 M 49 4 x, R) := fun f => sIb_49 (by decide)
    have s49_5 : ∀ {M : Nat → Nat → Int32} {R : Nat → Nat → Option Nat} {x : Int32} {β : Type} (f : Mem → Option β), (sI 0 (M, R) (some 49) (5 : Int32) x).bind f = f (up2 M 49 5 x, R) := fun f => sIb_49 (by decide)
    rw [if_neg (by rw [li_0, w_lt (by omega) (by decide)]; omega), if_pos (by rw [li_1, w_le (by omega) (by decide)]; omega), fRb_0_6, fr7, rc8, w_bind, dn s1, fRb_48_0, fIb_17, s49_0, fRb_48_0, fIb_17, s49_1, fRb_48_0, fIb_17, s49_2, fRb_48_0, rc6, w_bind]
    have p1' : fX6_allPuzzles FU 17 (up2 (up2 (up2 I1 49 0 (I1 17 2)) 49 1 (up2 I1 49 0 (I1 17 2) 17 3)) 49 2 (up2 (up2 I1 49 0 (I1 17 2)) 49 1 (up2 I1 49 0 (I1 17 2) 17 3) 17 4), R0 (some 1) nm hd rd) = some (nI (cnt (loneB P L) 512), (I3, R0 (some 1) nm hd rd)) := by
      rw [up2_k (by decide), up2_k (by decide), up2_k (by decide)]
      have := p1
      rw [e2] at this
      exact this
    have pn : I3 1 8 = nI (Pn P) := by rw [p4 1 (by decide) (by decide)]; exact C2.2.1
    rw [dn p1', s49_3, fRb_48_0, fRb_0_0, fIb_1, up2_k (by decide), pn, s49_4, fRb_48_0, fRb_0_3, fRb_0_0, rc2, w_bind, ← e4, dn n1, s49_5, ← e6, fRb_0_6, fRb_38_2, fRb_0_6, fIb_38, old6 38 (by decide) (by decide), t3, aR_40 ht6, w_bind, r0_40t ht6, fRb_0_6, fRb_38_3, fRb_0_6, fIb_38, old6 38 (by decide) (by decide), t3, aIb_47 ht6, old6 47 (by decide) (by decide), d1, rc4, w_bind, dn1 r1]
    by_cases z : nI k = 0
    · have nz : ¬ ¬ nI k = 0 := fun h => h z
      rw [if_neg nz, if_neg nz, fIb_48, r3]
    · rw [if_pos z, if_pos z, fIb_48, r4]
  obtain rfl | rfl : k = 0 ∨ k = 1 := by omega
  · exact ⟨I7, L, x1, by rw [run, if_neg (fun h => h rfl)], Y7, S7, by rw [if_pos rfl]; exact r5⟩
  · exact ⟨I7, L, x2, by rw [run, if_pos (by decide)], Y7, S7, by rw [if_neg (by decide)]; exact r6⟩
theorem k_says (hF : 99999999 ≤ FU) (h : HS P ver pl I J) (hN : K28 P ver nm I) {T : Txt} {D : Dtx} (hWT : WT T) (hCT : CT T I) (hRT : RT T J) (hWD : WDx FU T.2.1 D) (hCD : CDx T.2.1 D I) (hRD : RDx T.2.1 D J) (x1 : Int32) : YO P ver T.2.2.1 pl nm hd rd I J (fX8_says FU 0 x1 (I, R0 pl nm hd rd)) (fX9_says FU 60 x1) := by
  obtain ⟨hC, hR, hW, hv, hver, hK, hK'⟩ := h
  have rc9 : rc 9 (some 60) = some 60 := rfl
  by_cases ok : x1 = nI 0 ∨ x1 = nI 1
  · obtain ⟨k, hk, ek⟩ : ∃ k, k < 2 ∧ x1 = nI k := by
      rcases ok with e | e
      · exact ⟨0, by decide, e⟩
      · exact ⟨1, by decide, e⟩
    subst ek
    obtain ⟨I', L, x, a1, a2, a3, a4⟩ := c_says (rd := rd) (hd := hd) hF hC hW hv hver hK hN hWT hCT hWD hCD hk
    refine ⟨x.toInt64, ⟨I', some 1, some 1, some (41 + T.2.2.1), a1, a2⟩, fun pz nz hz dz => ?_⟩
    obtain ⟨w1, w2, w3, w4, w5⟩ := hWT
    obtain ⟨u1, u2, u3, u4⟩ := hRT
    obtain ⟨q1, q2⟩ := hRD T.2.2.1 w4
    have cd : CdA J (2 * T.2.2.1 + k) (if k = 0 then (D T.2.2.1).2.2.1 else (D T.2.2.1).2.2.2) := by
      obtain rfl | rfl : k = 0 ∨ k = 1 := by omega
      · rw [if_pos rfl]; exact q1
      · rw [if_neg (by decide)]; exact q2
    have ev := r_eval (pl := pz) (nm := nz) (hd := hz) (rd := dz) hF hW a3 (spot := 2 * T.2.2.1 + k) (by omega) (x := x) _ 0 [] J FU hR hK' (fun j hj => by rw [Nat.zero_add]; exact cd.2.2 j hj) (by rw [Nat.zero_add]; exact cd.1) (by rw [Nat.zero_add]; exact cd.2.1) (Nat.le_refl 0) (fun j hj => absurd hj (Nat.not_lt_zero j)) (a4 []) (by have := cd.2.1; omega)
    obtain ⟨J', b1, b2⟩ := ev
    refine ⟨J', ?_, b2⟩
    have inn : fX9_in FU 60 (nI k) 0 1 (J, R0 pz nz hz dz) = some (1, (J, R0 pz nz hz dz)) := by
      unfold fX9_in
      rw [if_neg (by rw [li_0, w_lt (by omega) (by decide)]; omega), if_neg (by rw [li_1, w_lt (by decide) (by omega)]; omega)]
    unfold fX9_says
    rw [rc9, w_bind, dn inn, if_pos (by decide), fIb_60, u3, li_2, pk_mul, nI_add]
    exact b1
  · have cl : fX8_says FU 0 x1 (I, R0 pl nm hd rd) = some (-4611686018427387904, (I, R0 pl nm hd rd)) := by
      unfold fX8_says
      by_cases z : x1 < 0
      · rw [if_pos z]
      · rw [if_neg z, if_neg]
        intro h1
        apply ok
        rcases i32c x1 with ⟨m, hm, e⟩ | ⟨m, h0, hm, e⟩
        · rw [e, li_1, w_le (by omega) (by decide)] at h1
          rw [e]
          obtain rfl | rfl : m = 0 ∨ m = 1 := by omega
          · exact Or.inl rfl
          · exact Or.inr rfl
        · exact absurd (by rw [e, li_0, w_mlt (by omega) (by omega)]; omega) z
    refine ⟨-4611686018427387904, ⟨I, pl, nm, rd, cl, Or.inl ⟨rfl, rfl, rfl, rfl⟩⟩, fun pz nz hz dz => ⟨J, ?_, hR, hK', fun _ _ _ _ _ _ _ => rfl, fun _ _ => rfl⟩⟩
    have inn : fX9_in FU 60 x1 0 1 (J, R0 pz nz hz dz) = some (0, (J, R0 pz nz hz dz)) := by
      unfold fX9_in
      by_cases z : x1 < 0
      · rw [if_pos z]
      · rw [if_neg z, if_pos]
        rcases i32c x1 with ⟨m, hm, e⟩ | ⟨m, h0, hm, e⟩
        · rw [e] at ok ⊢
          rw [li_1, w_lt (by decide) (by omega)]
          rcases Nat.lt_or_ge 1 m with q | q
          · exact q
          · exfalso
            apply ok
            obtain rfl | rfl : m = 0 ∨ m = 1 := by omega
            · exact Or.inl rfl
            · exact Or.inr rfl
        · exact absurd (by rw [e, li_0, w_mlt (by omega) (by omega)]; omega) z
    unfold fX9_says
    rw [rc9, w_bind, dn inn, if_neg (fun h => h rfl)]
end Says3
