/-! the law: what holds between two calls -/
section Inv
variable {FU ver : Nat} {P : Pln} {g : Option Gme} {T : Txt} {D : Dtx} {S : Sht} {I J : Nat → Nat → Int32} {pl nm hd rd : Option Nat}
theorem K17.congr (h : K17 P ver pl I) (e : ∀ q, 17 ≤ q → q ≤ 27 → J q = I q) : K17 P ver pl J := by
  refine ⟨h.1, fun hp => ?_⟩
  rw [e 17 (by decide) (by decide)]
  rcases h.2 hp with z | ⟨v, z1, z2, z3⟩
  · exact Or.inl z
  · refine Or.inr ⟨v, z1, z2, fun hv => ?_⟩
    obtain ⟨L, l1, l2⟩ := z3 hv
    exact ⟨L, l1.congr (e 18 (by decide) (by decide)) (e 25 (by decide) (by decide)) (by rw [e 17 (by decide) (by decide)]) (by rw [e 17 (by decide) (by decide)]) (by rw [e 17 (by decide) (by decide)]), l2.congr (by rw [e 17 (by decide) (by decide)]) (e 27 (by decide) (by decide))⟩
theorem K0.congr (h : K0 P ver I) (e : J 0 = I 0) : K0 P ver J := by
  unfold K0 at h ⊢
  rw [e]
  exact h
theorem HidC.congr (h : HidC P I) (e : ∀ q, 31 ≤ q → q ≤ 34 → J q = I q) : HidC P J := by
  unfold HidC HL HB HM at h ⊢
  rw [e 32 (by decide) (by decide), e 33 (by decide) (by decide)]
  exact h
theorem K31.congr (h : K31 P ver hd I) (e : ∀ q, 31 ≤ q → q ≤ 34 → J q = I q) : K31 P ver hd J := by
  unfold K31 at h ⊢
  rw [e 31 (by decide) (by decide)]
  rcases h with z | ⟨v, z1, z2, z3⟩
  · exact Or.inl z
  · exact Or.inr ⟨v, z1, z2, fun hv => ⟨(z3 hv).1, (z3 hv).2.congr e⟩⟩
theorem K28.congr (h : K28 P ver nm I) (e28 : J 28 = I 28) (e29 : J 29 = I 29) : K28 P ver nm J := by
  unfold K28 CJ at h ⊢
  rw [e28, e29]
  exact h
theorem CT.congr (h : CT T I) (e38 : J 38 = I 38) (e39 : J 39 = I 39) : CT T J := by
  unfold CT at h ⊢
  rw [e38, e39]
  exact h
theorem CDx.congr {m : Nat} (hm : m ≤ 6) (h : CDx m D I) (e : ∀ q, 41 ≤ q → q ≤ 47 → J q = I q) : CDx m D J := fun t ht => ⟨by rw [e 47 (by decide) (by decide)]; exact (h t ht).1, fun j hj => by rw [e (41 + t) (by omega) (by omega)]; exact (h t ht).2 j hj⟩
theorem RDx.congr {m : Nat} (h : RDx m D I) (e77 : J 77 = I 77) (e78 : J 78 = I 78) : RDx m D J := by
  unfold RDx CdA at h ⊢
  rw [e77, e78]
  exact h
theorem K60.congr (h : K60 P I) (e9 : J 60 9 = I 60 9) (e66 : J 66 = I 66) : K60 P J := by
  unfold K60 SolR at h ⊢
  rw [e9, e66]
  exact h
theorem K15.congr (h : K15 P I) (e15 : J 60 15 = I 60 15) (e70 : J 70 = I 70) (e71 : J 71 = I 71) (e72 : J 72 = I 72) : K15 P J := by
  unfold K15 at h ⊢
  rw [e15]
  rcases h with z | ⟨z1, z2, z3⟩
  · exact Or.inl z
  · exact Or.inr ⟨z1, z2.congr e71 e72, z3.congr e70⟩
theorem RT.congr (h : RT T I) (e : ∀ i, 27 ≤ i → i ≤ 29 → J 60 i = I 60 i) (e76 : J 76 = I 76) : RT T J := by
  unfold RT at h ⊢
  rw [e 27 (by decide) (by decide), e 28 (by decide) (by decide), e 29 (by decide) (by decide), e76]
  exact h
/-- the class's side -/
def CInv (P : Pln) (ver : Nat) (g : Option Gme) (T : Txt) (D : Dtx) (S : Sht) (pl nm hd : Option Nat) (I : Nat → Nat → Int32) : Prop := PlC 1 P I ∧ I 9 0 = nI (Pp P) ∧ I 1 12 = nI ver ∧ K17 P ver pl I ∧ K0 P ver I ∧ K31 P ver hd I ∧ K28 P ver nm I ∧ CG g I ∧ CT T I ∧ CDx T.2.1 D I ∧ CS S I
/-- the reference's side -/
def RInv (P : Pln) (g : Option Gme) (T : Txt) (D : Dtx) (S : Sht) (J : Nat → Nat → Int32) : Prop := PlR P J ∧ K60 P J ∧ K15 P J ∧ (∀ j, j < 4096 → J 73 j = nI 0) ∧ RG g J ∧ RT T J ∧ RDx T.2.1 D J ∧ RS S J
def WInv (FU N : Nat) (P : Pln) (ver : Nat) (g : Option Gme) (T : Txt) (D : Dtx) (S : Sht) : Prop := WfP P ∧ ver ≤ 13 * N ∧ GN (40 * N) g ∧ WGo P g ∧ WT T ∧ WDx FU T.2.1 D ∧ WfS S
theorem CInv.congr (hT : T.2.1 ≤ 6) (h : CInv P ver g T D S pl nm hd I) (e : ∀ q, q < 60 → J q = I q) : CInv P ver g T D S pl nm hd J := by
  obtain ⟨a1, a2, a3, a4, a5, a6, a7, a8, a9, a10, a11⟩ := h
  exact ⟨a1.congr (fun q _ _ => e q (by omega)), by rw [e 9 (by decide)]; exact a2, by rw [e 1 (by decide)]; exact a3, a4.congr (fun q _ _ => e q (by omega)), a5.congr (e 0 (by decide)), a6.congr (fun q _ _ => e q (by omega)), a7.congr (e 28 (by decide)) (e 29 (by decide)), a8.congr (e 35 (by decide)) (e 36 (by decide)) (e 37 (by decide)), a9.congr (e 38 (by decide)) (e 39 (by decide)), a10.congr hT (fun q _ _ => e q (by omega)), a11.congr (fun q _ _ => e q (by omega))⟩
theorem RInv.congr (h : RInv P g T D S I) (e : ∀ q, 60 ≤ q → J q = I q) : RInv P g T D S J := by
  obtain ⟨a1, a2, a3, a4, a5, a6, a7, a8⟩ := h
  have e60 := e 60 (by decide)
  exact ⟨a1.congr (fun i _ => by rw [e60]) (fun q _ _ => e q (by omega)), a2.congr (by rw [e60]) (e 66 (by decide)), a3.congr (by rw [e60]) (e 70 (by decide)) (e 71 (by decide)) (e 72 (by decide)), fun j hj => by rw [e 73 (by decide)]; exact a4 j hj, a5.congr (fun i _ _ => by rw [e60]) (e 74 (by decide)) (e 75 (by decide)), a6.congr (fun i _ _ => by rw [e60]) (e 76 (by decide)), a7.congr (e 77 (by decide)) (e 78 (by decide)), a8.congr (fun q _ _ => e q (by omega))⟩
/-- what holds after N calls -/
def INV (FU N : Nat) (pl nm hd rd : Option Nat) (I : Nat → Nat → Int32) : Prop := ∃ P ver g T D S, WInv FU N P ver g T D S ∧ CInv P ver g T D S pl nm hd I ∧ RInv P g T D S I
/-- both answer alike -/
def Ste {α : Type} (FU N : Nat) (pl nm hd rd : Option Nat) (I : Nat → Nat → Int32) (f8 f9 : Mem → Option (α × Mem)) : Prop := ∃ x I' J' pl' nm' hd' rd', f8 (I, R0 pl nm hd rd) = some (x, (I', R0 pl' nm' hd' rd')) ∧ f9 (I', R0 pl' nm' hd' rd') = some (x, (J', R0 pl' nm' hd' rd')) ∧ INV FU (N + 1) pl' nm' hd' rd' J'
theorem WInv.up {N : Nat} (h : WInv FU N P ver g T D S) : WInv FU (N + 1) P ver g T D S := ⟨h.1, by have := h.2.1; omega, fun x hx => by have := h.2.2.1 x hx; omega, h.2.2.2⟩
/-- a change of the plan -/
theorem CInv.ch {P' : Pln} {v : Nat} (hT : T.2.1 ≤ 6) (hv : 1 ≤ v) (hp : Pp P' = Pp P) (h : CInv P ver g T D S pl nm hd I) (c : ChV v P' I J) : CInv P' (ver + v) none T D S pl nm hd J := by
  obtain ⟨a1, a2, a3, a4, a5, a6, a7, a8, a9, a10, a11⟩ := h
  obtain ⟨c1, c2, c3, c4, c5⟩ := c
  have e : ∀ q, q = 0 ∨ 9 ≤ q → q ≠ 35 → J q = I q := c5
  refine ⟨c1, by rw [e 9 (by decide) (by decide), hp]; exact a2, by rw [c2, a3, nI_add], ⟨a4.1, fun hp => ?_⟩, ?_, ?_, ?_, c3, a9.congr (e 38 (by decide) (by decide)) (e 39 (by decide) (by decide)), a10.congr hT (fun q _ _ => e q (by omega) (by omega)), a11.congr (fun q _ _ => e q (by omega) (by omega))⟩
  · rw [e 17 (by decide) (by decide)]
    rcases a4.2 hp with z | ⟨w, z1, z2, _⟩
    · exact Or.inl z
    · exact Or.inr ⟨w, z1, by omega, fun q => by omega⟩
  · unfold K0
    rw [e 0 (by decide) (by decide)]
    rcases a5 with z | ⟨w, z1, z2, _⟩
    · exact Or.inl z
    · exact Or.inr ⟨w, z1, by omega, fun q => by omega⟩
  · unfold K31
    rw [e 31 (by decide) (by decide)]
    rcases a6 with z | ⟨w, z1, z2, _⟩
    · exact Or.inl z
    · exact Or.inr ⟨w, z1, by omega, fun q => by omega⟩
  · unfold K28
    rw [e 28 (by decide) (by decide)]
    rcases a7 with z | ⟨w, z1, z2, _⟩
    · exact Or.inl z
    · exact Or.inr ⟨w, z1, by omega, fun q => by omega⟩
theorem RInv.ch {P' : Pln} (h : RInv P g T D S I) (c : ChR P' I J) : RInv P' none T D S J := by
  obtain ⟨a1, a2, a3, a4, a5, a6, a7, a8⟩ := h
  obtain ⟨c1, c2, c3, c4, c5, c6⟩ := c
  exact ⟨c1, Or.inl c2, Or.inl c3, fun j hj => by rw [c6 73 (by decide)]; exact a4 j hj, c4, a6.congr (fun i _ _ => c5 i (by omega) (by omega) (by omega) (by omega)) (c6 76 (by decide)), a7.congr (c6 77 (by decide)) (c6 78 (by decide)), a8.congr (fun q _ _ => c6 q (by omega))⟩
end Inv
