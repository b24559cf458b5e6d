/-! the start: the invariant -/
section Start0
variable {FU p : Nat} {I : Nat → Nat → Int32} {nm hd rd : Option Nat}
def P0 (p : Nat) : Pln := (p, 0, 1, 1, fun _ => 0, fun _ => 0, fun _ => 0, fun _ => 0)
/-- memory behind both constructors, the class's rows -/
def St8 (p : Nat) (I : Nat → Nat → Int32) : Prop := (I 1 0 = nI p ∧ I 1 8 = nI 0 ∧ I 1 9 = nI 0 ∧ I 1 10 = nI 1 ∧ I 1 11 = nI 1 ∧ I 1 12 = nI 0) ∧ (∀ x, x < 8 → I 7 x = nI 0) ∧ (∀ x, x < 8 → I 8 x = nI 0) ∧ I 9 0 = nI p ∧ I 17 1 = mI 1 ∧ I 0 9 = mI 1 ∧ I 31 0 = mI 1 ∧ I 28 1 = mI 1 ∧ I 35 0 = nI 0 ∧ (I 38 1 = nI 0 ∧ I 38 4 = nI 1 ∧ I 38 5 = nI 0) ∧ (I 47 0 = nI 51 ∧ ∀ j, j < 51 → I 41 j = b0 j) ∧ ∀ s, s < 4 → I (52 + 2 * s) 0 = mI 1 ∧ I (52 + 2 * s) 1 = nI 0 ∧ ∀ k, k < 40 → I (53 + 2 * s) k = nI 0
/-- and the reference's -/
def St9 (p : Nat) (J : Nat → Nat → Int32) : Prop := (J 60 0 = nI p ∧ J 60 1 = nI 0 ∧ J 60 2 = nI 1 ∧ J 60 3 = nI 1) ∧ (∀ x, x < 8 → J 64 x = nI 0) ∧ (∀ x, x < 8 → J 65 x = nI 0) ∧ J 60 9 = nI 0 ∧ J 60 15 = nI 0 ∧ (∀ j, j < 4096 → J 73 j = nI 0) ∧ J 60 19 = nI 0 ∧ (J 60 27 = nI 0 ∧ J 60 28 = nI 1 ∧ J 60 29 = nI 0) ∧ (J 77 0 = nI 5 ∧ J 77 1 = nI 5 ∧ ∀ j, j < 5 → J 78 j = cd1.getD j 0 ∧ J 78 (120 + j) = cd2.getD j 0) ∧ ∀ s, s < 4 → J 82 s = mI 1 ∧ J 83 s = nI 0 ∧ ∀ k, k < 40 → J 84 (40 * s + k) = nI 0
theorem near_0 (p x : Nat) : nearM (P0 p) x = 0 := by
  show mk (bsd (P0 p) x) 8 = 0
  have e : ∀ y, bsd (P0 p) x y = false := fun y => rfl
  have e2 : bsd (P0 p) x = fun _ => false := funext e
  rw [e2]
  decide
theorem inv_0 (hF : 99999999 ≤ FU) (h3 : 3 ≤ p) (h8 : p ≤ 8) (hC : St8 p I) (hR : St9 p I) : INV FU 0 none nm hd rd I := by
  obtain ⟨⟨a1, a2, a3, a4, a5, a6⟩, a7, a8, a9, a10, a11, a12, a13, a14, ⟨a15, a16, a17⟩, ⟨a18, a19⟩, a20⟩ := hC
  obtain ⟨⟨b1, b2, b3, b4⟩, b5, b6, b7, b8, b9, b10, ⟨b11, b12, b13⟩, ⟨b14, b15, b16⟩, b17⟩ := hR
  refine ⟨P0 p, 0, none, (0, 1, 0, fun _ => 0), fun _ => (51, b0, cd1, cd2), (fun _ => none, fun _ => 0, fun _ _ => 0), ⟨⟨h3, h8, Nat.zero_le 16, Or.inl rfl, (by decide : (1 : Nat) ≤ 3), fun w hw => absurd hw (Nat.not_lt_zero w), fun x _ => (by decide : (0 : Nat) < 4), Nat.zero_le 2⟩, Nat.le_refl 0, (fun _ h => by cases h), (fun _ h => by cases h), ⟨Nat.zero_le _, Nat.le_refl 1, by decide, by decide, fun k hk => absurd hk (Nat.not_lt_zero k)⟩, fun t _ => ⟨(by decide : (51 : Nat) ≤ 120), rdg_0 hF⟩, fun s _ => ⟨Nat.zero_le 40, fun t h => by cases h⟩⟩, ⟨⟨a1, a2, a3, a4, a5, fun w hw => absurd hw (Nat.not_lt_zero w), fun w hw => absurd hw (Nat.not_lt_zero w), fun w hw => absurd hw (Nat.not_lt_zero w), fun w hw => absurd hw (Nat.not_lt_zero w), fun w k hw => absurd hw (Nat.not_lt_zero w), fun x hx => a7 x (Nat.lt_of_lt_of_le hx h8), fun x hx => by rw [near_0]; exact a8 x (Nat.lt_of_lt_of_le hx h8)⟩, a9, a6, ⟨rfl, fun h => absurd h (by decide)⟩, Or.inl a11, Or.inl a12, Or.inl a13, a14, ⟨a15, a16, a17, fun k hk => absurd hk (Nat.not_lt_zero k)⟩, ?_, ?_⟩, ⟨⟨b1, b2, b3, b4, fun w hw => absurd hw (Nat.not_lt_zero w), fun w hw => absurd hw (Nat.not_lt_zero w), fun w hw => absurd hw (Nat.not_lt_zero w), fun x hx => ?_, fun x hx => ?_⟩, Or.inl b7, Or.inl b8, b9, b10, ⟨b11, b12, b13, fun k hk => absurd hk (Nat.not_lt_zero k)⟩, ?_, ?_⟩⟩
  · intro t ht
    have ht : t < 1 := ht
    obtain rfl : t = 0 := by omega
    exact ⟨a18, a19⟩
  · intro s hs
    obtain ⟨s1, s2, s3⟩ := a20 s hs
    exact ⟨s1, s2, s3⟩
  · rw [b5 x (Nat.lt_of_lt_of_le hx h8)]
    rfl
  · rw [b6 x (Nat.lt_of_lt_of_le hx h8)]
    rfl
  · intro t ht
    have ht : t < 1 := ht
    obtain rfl : t = 0 := by omega
    refine ⟨⟨b14, by decide, fun j hj => ?_⟩, ⟨b15, by decide, fun j hj => ?_⟩⟩
    · rw [show 120 * (2 * 0) + j = j by omega]
      exact (b16 j hj).1
    · rw [show 120 * (2 * 0 + 1) + j = 120 + j by omega]
      exact (b16 j hj).2
  · intro s hs
    obtain ⟨s1, s2, s3⟩ := b17 s hs
    exact ⟨s1, s2, s3⟩
/-- the pure theorem, from the start on -/
theorem law_start (hF : 99999999 ≤ FU) (h3 : 3 ≤ p) (h8 : p ≤ 8) (hC : St8 p I) (hR : St9 p I) {L : Nat} {xs : Nat → Int32} (hL : L ≤ 3073) : ∃ M, fL_law_L28 FU L xs FU (nI 1) (I, R0 none nm hd rd) = some (1, M) := law_all hF hL (inv_0 hF h3 h8 hC hR)
end Start0
