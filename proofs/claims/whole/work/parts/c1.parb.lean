/-! texts: both read a whole text alike -/
section ParB
variable {FU : Nat} {I J : Nat → Nat → Int32} {pl nm hd pz nz hz dz : Option Nat} {b : Nat → Int32} {n r : Nat} {v : Nat → Int32}
def rE (FU : Nat) (f : Nat) (k : Mem → Option Mem) (M : Mem) : Option Mem := bd2 (qX4_readE FU 10 48 M) fun x M => (pI 4 M (some 48) f x).bind k
def rX (FU : Nat) (c : Nat) (k : Mem → Option Mem) (M : Mem) : Option Mem := (fX4_expect FU 48 (nI c) M).bind k
def Fz (I I' : Nat → Nat → Int32) : Prop := ∀ q, q ≠ 48 → I' q = I q
theorem Fz.trans {I1 I2 : Nat → Nat → Int32} (a : Fz I I1) (c : Fz I1 I2) : Fz I I2 := fun q hq => (c q hq).trans (a q hq)
theorem CSt.put {i o : Nat} (h : CSt b n r i o v I) {f : Nat} (hf : f = 1 ∨ f = 2) (x : Int32) : CSt b n r i o v (up2 I 48 f x) := by
  have e : ∀ j, j ≠ f → up2 I 48 f x 48 j = I 48 j := fun j hj => up2_i hj
  exact ⟨⟨h.1.1.keep (fun q hq => up2_ne hq) (e 5 (by omega)) (by rw [e 6 (by omega)]; exact h.1.1.2.2.2.2.2.1) h.1.1.2.2.2.2.2.2, by rw [e 7 (by omega), h.1.2.1], by rw [e 8 (by omega), h.1.2.2.1], fun q => by rw [e 9 (by omega)]; exact h.1.2.2.2 q⟩, by rw [e 10 (by omega), h.2.1], by rw [e 3 (by omega), h.2.2.1], fun k hk => by rw [up2_k (by decide)]; exact h.2.2.2 k hk⟩
theorem CFt.put {j : Nat} (h : CFt b n r j I) {f : Nat} (hf : f = 1 ∨ f = 2) (x : Int32) : CFt b n r j (up2 I 48 f x) := by
  have e : ∀ j, j ≠ f → up2 I 48 f x 48 j = I 48 j := fun j hj => up2_i hj
  obtain ⟨⟨k, hk⟩, h3⟩ := h
  exact ⟨⟨k, hk.keep (fun q hq => up2_ne hq) (e 5 (by omega)) (by rw [e 6 (by omega)]; exact hk.2.2.2.2.2.1) hk.2.2.2.2.2.2⟩, by rw [e 3 (by omega), h3]⟩
theorem fz_E (hF : 99999999 ≤ FU) {j f : Nat} {k : Mem → Option Mem} (hf : f = 1 ∨ f = 2) (h : CFt b n r j I) : ∃ I', rE FU f k (I, R0 pl nm hd (some r)) = k (I', R0 pl nm hd (some r)) ∧ CFt b n r j I' ∧ Fz I I' := ⟨up2 I 48 f (nI 0), by unfold rE; rw [dn (cf_E hF h)]; rfl, h.put hf _, fun q hq => up2_ne hq⟩
theorem fz_X (hF : 99999999 ≤ FU) {j c : Nat} {k : Mem → Option Mem} (h : CFt b n r j I) : ∃ I', rX FU c k (I, R0 pl nm hd (some r)) = k (I', R0 pl nm hd (some r)) ∧ CFt b n r j I' ∧ Fz I I' := by
  obtain ⟨I', a1, a2, a3⟩ := c_expectF (FU := FU) (pl := pl) (nm := nm) (hd := hd) hF (x := nI c) h
  exact ⟨I', by unfold rX; rw [dn1 a1], a2, a3.1⟩
/-- the class's reading, from its first token on -/
theorem c_read0 (hF : 99999999 ≤ FU) {rd : Option Nat} (hB : BR r) (h48 : r ≠ 48) (hL : aL2 (some r) = some (nI 120)) (hn : n ≤ 120) (hb : ∀ j, j < n → I r j = b j) (hv : ∀ k, k < 6 → I 49 k = v k) : ∃ I1, fX4_read FU 48 (some r) (nI n) (I, R0 pl nm hd rd) = rX FU 6 (rE FU 1 (rX FU 59 (rX FU 7 (rE FU 2 (rX FU 59 (rX FU 12 some)))))) (I1, R0 pl nm hd (some r)) ∧ CSt b n r 0 0 v I1 ∧ Fz I I1 := by
  have rc4 : rc 4 (some 48) = some 48 := rfl
  have I5 : ∃ I5, I5 = up2 (up2 (up2 (up2 I 48 5 (nI n)) 48 6 (nI 0)) 48 10 (nI 0)) 48 3 (mI 1) := ⟨_, rfl⟩
  obtain ⟨I5, e5⟩ := I5
  have z : Fz I I5 := by
    intro q hq
    rw [e5, up2_ne hq, up2_ne hq, up2_ne hq, up2_ne hq]
  have R5 : RdC b n r 0 I5 := by
    refine ⟨hB, h48, hn, ?_, fun j hj => by rw [z r h48]; exact hb j hj, ?_, Nat.zero_le n⟩
    · rw [e5, up2_i (by decide), up2_i (by decide), up2_i (by decide), up2_s]
    · rw [e5, up2_i (by decide), up2_i (by decide), up2_s]
  obtain ⟨I1, a1, a2, a3, a4, a5, a6, a7⟩ := c_next (FU := FU) (pl := pl) (nm := nm) (hd := hd) hF R5
  refine ⟨I1, ?_, ⟨⟨a2, a3, a4, a5⟩, ?_, ?_, fun k hk => ?_⟩, fun q hq => (a6 q hq).trans (z q hq)⟩
  · unfold fX4_read
    rw [pR_48, w_bind, r0_set_rd, hL, w_bind, show (if nI 120 < nI n then nI 120 else nI n) = nI n by rw [if_neg (by rw [w_lt (by decide) (by omega)]; omega)], pIb_48, pIb_48, pIb_48, pIb_48, rc4, w_bind, show up2 (up2 (up2 (up2 I 48 5 (nI n)) 48 6 0) 48 10 0) 48 3 (-1) = I5 from e5.symm, dn1 a1]
    rfl
  · rw [a7 10 (by decide) (by decide) (by decide) (by decide), e5, up2_i (by decide), up2_s]
  · rw [a7 3 (by decide) (by decide) (by decide) (by decide), e5, up2_s]
  · rw [a6 49 (by decide), z 49 (by decide)]
    exact hv k hk
/-- what one part of a text leaves alone in the reference -/
def FS (spot : Nat) (J J' : Nat → Nat → Int32) : Prop := (∀ q, q ≠ 60 → q ≠ 77 → q ≠ 78 → q ≠ 79 → q ≠ 80 → J' q = J q) ∧ (∀ j, j ≠ spot → J' 77 j = J 77 j) ∧ (∀ j, j < 120 * spot ∨ 120 * spot + 120 ≤ j → J' 78 j = J 78 j) ∧ (∀ j, j < 32 ∨ 41 < j → J' 60 j = J 60 j)
theorem FS.trans {spot : Nat} {J1 J2 : Nat → Nat → Int32} (a : FS spot J J1) (c : FS spot J1 J2) : FS spot J J2 := ⟨fun q q1 q2 q3 q4 q5 => (c.1 q q1 q2 q3 q4 q5).trans (a.1 q q1 q2 q3 q4 q5), fun j hj => (c.2.1 j hj).trans (a.2.1 j hj), fun j hj => (c.2.2.1 j hj).trans (a.2.2.1 j hj), fun j hj => (c.2.2.2 j hj).trans (a.2.2.2 j hj)⟩
theorem FM.fs {k spot : Nat} {J' : Nat → Nat → Int32} (a : FM k spot J J') : FS spot J J' := ⟨a.1, a.2.1, a.2.2.1, fun j hj => a.2.2.2.2.1 j (by omega)⟩
theorem fs_60 {spot : Nat} {J' : Nat → Nat → Int32} (h1 : ∀ q, q ≠ 60 → J' q = J q) (h2 : ∀ j, j < 32 ∨ 41 < j → J' 60 j = J 60 j) : FS spot J J' := ⟨fun q q1 _ _ _ _ => h1 q q1, fun j _ => by rw [h1 77 (by decide)], fun j _ => by rw [h1 78 (by decide)], h2⟩
/-- a code that lies at a spot -/
def CdA (J : Nat → Nat → Int32) (spot : Nat) (c : List Int32) : Prop := J 77 spot = nI c.length ∧ c.length < 120 ∧ ∀ j, j < c.length → J 78 (120 * spot + j) = c.getD j 0
theorem CdA.keep {spot spot' : Nat} {J' : Nat → Nat → Int32} {c : List Int32} (h : CdA J spot c) (f : FS spot' J J') (hs : spot ≠ spot') : CdA J' spot c := ⟨by rw [f.2.1 spot hs]; exact h.1, h.2.1, fun j hj => by rw [f.2.2.1 _ (by have := h.2.1; omega)]; exact h.2.2 j hj⟩
theorem r_part0 {i spot : Nat} (hs : spot < 16) (hT : TkJ b n i J) (h41 : J 60 41 = nI spot) : ∃ J', fX9_part FU 60 (J, R0 pz nz hz dz) = fX9_part_L36 FU 60 FU (nI 1) (nI 1) (J', R0 pz nz hz dz) ∧ MS b n i 0 [] [] 0 spot false J' ∧ FS spot J J' := by
  have J1 : ∃ J1, J1 = up2 (up2 (up2 (up2 (up2 J 60 38 (nI 0)) 60 39 (nI 0)) 60 40 (nI 0)) 77 spot (nI 0)) 80 0 (nI 0) := ⟨_, rfl⟩
  obtain ⟨J1, e1⟩ := J1
  have f60 : ∀ j, j ≠ 38 → j ≠ 39 → j ≠ 40 → J1 60 j = J 60 j := by
    intro j h1 h2 h3
    rw [e1, up2_k (by decide), up2_k (by decide), up2_i h3, up2_i h2, up2_i h1]
  have fq : ∀ q, q ≠ 60 → q ≠ 77 → q ≠ 80 → J1 q = J q := by
    intro q h1 h2 h3
    rw [e1, up2_ne h3, up2_ne h2, up2_ne h1, up2_ne h1, up2_ne h1]
  refine ⟨J1, ?_, ⟨hT.keep (fq 76 (by decide) (by decide) (by decide)) (fun j hj => f60 j (by omega) (by omega) (by omega)), ⟨?_, fun j hj => absurd hj (Nat.not_lt_zero j)⟩, ?_, ?_, ?_, ?_, ⟨?_, fun j hj => absurd hj (Nat.not_lt_zero j)⟩, Nat.zero_le _, hs, by decide, by decide⟩, ⟨fun q q1 q2 _ _ q5 => fq q q1 q2 q5, fun j hj => ?_, fun j _ => by rw [fq 78 (by decide) (by decide) (by decide)], fun j hj => f60 j (by omega) (by omega) (by omega)⟩⟩
  · unfold fX9_part
    rw [pIb_60, pIb_60, pIb_60, fRb_60_30, fIb_60, up2_i (by decide), up2_i (by decide), up2_i (by decide), h41, sIb_77 hs]
    have s80 := sIb_80 (I := up2 (up2 (up2 (up2 J 60 38 (nI 0)) 60 39 (nI 0)) 60 40 (nI 0)) 77 spot (nI 0)) (R := R0 pz nz hz dz) (j := 0) (x := 0) (f4 := fun M31 => fX9_part_L36 FU 60 FU (nI 1) (nI 1) M31) (by decide)
    rw [e1]
    exact s80
  · rw [e1, up2_k (by decide), up2_k (by decide), up2_i (by decide), up2_i (by decide), up2_s]
    rfl
  · rw [e1, up2_k (by decide), up2_k (by decide), up2_i (by decide), up2_s]
  · rw [e1, up2_k (by decide), up2_k (by decide), up2_s]
  · rw [e1, up2_s]
    rfl
  · rw [f60 41 (by decide) (by decide) (by decide), h41]
  · rw [e1, up2_k (by decide), up2_s]
    rfl
  · rw [e1, up2_k (by decide), up2_i hj, up2_k (by decide), up2_k (by decide), up2_k (by decide)]
end ParB
