/-! fairer: plans changed by one way, the class's variant -/
section Fair1
variable {FU ver : Nat} {P : Pln} {I J : Nat → Nat → Int32} {pl nm hd rd : Option Nat}
def empW (P : Pln) : Pln := (Pp P, 0, Ph P, Ps P, Pk P, Pa P, Pb P, Pg P)
/-- the first n ways of a plan, but way x -/
def woP (P : Pln) (x : Nat) : Nat → Pln
  | 0 => empW P
  | w + 1 => if w = x then woP P x w else addW (woP P x w) (Pk P w) (Pa P w) (Pb P w)
theorem woP_x (P : Pln) {x n : Nat} (h : n = x) : woP P x (n + 1) = woP P x n := by
  show (if n = x then woP P x n else _) = _
  rw [if_pos h]
theorem woP_s (P : Pln) {x n : Nat} (h : n ≠ x) : woP P x (n + 1) = addW (woP P x n) (Pk P n) (Pa P n) (Pb P n) := by
  show (if n = x then woP P x n else _) = _
  rw [if_neg h]
theorem woP_p (P : Pln) (x n : Nat) : Pp (woP P x n) = Pp P ∧ Ph (woP P x n) = Ph P ∧ Ps (woP P x n) = Ps P ∧ Pg (woP P x n) = Pg P := by
  induction n with
  | zero => exact ⟨rfl, rfl, rfl, rfl⟩
  | succ n ih =>
    by_cases h : n = x
    · rw [woP_x P h]; exact ih
    · rw [woP_s P h]; exact ih
theorem woP_n (P : Pln) (x n : Nat) : Pn (woP P x n) = if x < n then n - 1 else n := by
  induction n with
  | zero => rfl
  | succ n ih =>
    by_cases h : n = x
    · rw [woP_x P h, ih, if_neg (by omega), if_pos (by omega)]; omega
    · rw [woP_s P h]
      show Pn (woP P x n) + 1 = _
      rw [ih]
      by_cases z : x < n
      · rw [if_pos z, if_pos (by omega)]; omega
      · rw [if_neg z, if_neg (by omega)]
theorem woP_k (P : Pln) (x n : Nat) : ∀ j, j < Pn (woP P x n) → Pk (woP P x n) j = Pk P (if j < x then j else j + 1) ∧ Pa (woP P x n) j = Pa P (if j < x then j else j + 1) ∧ Pb (woP P x n) j = Pb P (if j < x then j else j + 1) := by
  induction n with
  | zero => intro j hj; exact absurd hj (Nat.not_lt_zero j)
  | succ n ih =>
    by_cases h : n = x
    · rw [woP_x P h]; exact ih
    · rw [woP_s P h]
      intro j hj
      have hj : j < Pn (woP P x n) + 1 := hj
      have hn := woP_n P x n
      show va_up (Pk (woP P x n)) (Pn (woP P x n)) (Pk P n) j = _ ∧ va_up (Pa (woP P x n)) (Pn (woP P x n)) (Pa P n) j = _ ∧ va_up (Pb (woP P x n)) (Pn (woP P x n)) (Pb P n) j = _
      by_cases z : j = Pn (woP P x n)
      · rw [z, va_1, va_1, va_1]
        have e : (if Pn (woP P x n) < x then Pn (woP P x n) else Pn (woP P x n) + 1) = n := by
          rw [hn]
          by_cases y : x < n
          · rw [if_pos y, if_neg (by omega)]; omega
          · rw [if_neg y, if_pos (by omega)]
        rw [e]
        exact ⟨rfl, rfl, rfl⟩
      · rw [va_o z, va_o z, va_o z]
        exact ih j (by omega)
theorem noSh (h0 : shN P (Pn P) = 0) {w : Nat} (hw : w < Pn P) : ¬ isSh (Pk P w) = true := by
  intro h
  have := shN_lt (P := P) hw h
  omega
theorem woP_wf (hW : WfP P) (h0 : shN P (Pn P) = 0) (x : Nat) : ∀ n, n ≤ Pn P → WfP (woP P x n) ∧ shN (woP P x n) (Pn (woP P x n)) = 0 := by
  intro n
  induction n with
  | zero =>
    intro _
    refine ⟨⟨hW.1, hW.2.1, Nat.zero_le 16, hW.2.2.2.1, hW.2.2.2.2.1, fun w hw => absurd hw (Nat.not_lt_zero w), hW.2.2.2.2.2.2.1, ?_⟩, rfl⟩
    show shN (empW P) 0 ≤ 2
    exact Nat.zero_le 2
  | succ n ih =>
    intro hn
    obtain ⟨i1, i2⟩ := ih (by omega)
    by_cases h : n = x
    · rw [woP_x P h]; exact ⟨i1, i2⟩
    · rw [woP_s P h]
      have hw := wf_w hW (w := n) (by omega)
      have hp := woP_p P x n
      have hl := woP_n P x n
      have hn16 := wf_n hW
      have hs := noSh h0 (w := n) (by omega)
      refine ⟨wf_add i1 hw.1 (by rw [hp.1]; exact hw.2.1) (by rw [hp.1]; exact hw.2.2.1) hw.2.2.2 ?_ (fun y => absurd y hs), ?_⟩
      · rw [hl]
        split <;> omega
      · show shN (addW (woP P x n) (Pk P n) (Pa P n) (Pb P n)) (Pn (woP P x n) + 1) = 0
        rw [shN_addN, if_neg hs, i2]
theorem c_bec28 (hF : 99999999 ≤ FU) {X : Int32} {p : Nat} (p8 : p ≤ 8) : ∀ d k I F, d + k = p → d < F → I 9 0 = nI p → ∃ I', fX3_becomes_L28 FU 9 (some 1) X F (nI k) (I, R0 pl nm hd rd) = fX3_becomes_L63 FU 9 (some 1) X FU (nI 0) (I', R0 pl nm hd rd) ∧ (∀ j, k ≤ j → j < p → I' 16 j = nI 0 ∧ I' 15 j = I 7 j) ∧ (∀ j, j < k → I' 16 j = I 16 j ∧ I' 15 j = I 15 j) ∧ (∀ q, q ≠ 15 → q ≠ 16 → I' q = I q) := by
  intro d
  induction d with
  | zero =>
    intro k I F h1 h2 h3
    obtain ⟨G, rfl⟩ : ∃ G, F = G + 1 := ⟨F - 1, by omega⟩
    refine ⟨I, ?_, fun j j1 j2 => by omega, fun _ _ => ⟨rfl, rfl⟩, fun _ _ _ => rfl⟩
    rw [fX3_becomes_L28, fIb_9, h3, if_pos (by rw [w_le (by omega) (by omega)]; omega), li_0]
  | succ d ih =>
    intro k I F h1 h2 h3
    obtain ⟨G, rfl⟩ : ∃ G, F = G + 1 := ⟨F - 1, by omega⟩
    have f0 : ¬ nI p ≤ nI k := by rw [w_le (by omega) (by omega)]; omega
    obtain ⟨I', e1, e2, e3, e4⟩ := ih (k + 1) (up2 (up2 I 16 k (nI 0)) 15 k (I 7 k)) G (by omega) (by omega) (by rw [up2_k (by decide), up2_k (by decide), h3])
    refine ⟨I', ?_, fun j j1 j2 => ?_, fun j hj => ?_, fun q q1 q2 => ?_⟩
    · rw [fX3_becomes_L28, fIb_9, h3, if_neg f0, fRb_9_7, li_0, sIb_16 (by omega), fRb_9_6, fRb_1_6, aIb_7 (by omega), up2_k (by decide), sIb_15 (by omega), li_1, nI_add]
      exact e1
    · by_cases z : j = k
      · subst z
        have := e3 j (by omega)
        rw [this.1, this.2, up2_k (by decide), up2_s, up2_s]
        exact ⟨rfl, rfl⟩
      · have := e2 j (by omega) j2
        rw [this.1, this.2, up2_k (by decide), up2_k (by decide)]
        exact ⟨rfl, rfl⟩
    · have := e3 j (by omega)
      rw [this.1, this.2, up2_k (by decide), up2_i (by omega), up2_i (by omega), up2_k (by decide)]
      exact ⟨rfl, rfl⟩
    · rw [e4 q q1 q2, up2_ne q1, up2_ne q2]
theorem c_bec63 (hF : 99999999 ≤ FU) (hW : WfP P) (h0 : shN P (Pn P) = 0) {X : Int32} {x : Nat} (hX : ∀ w, w < 16 → ((nI w = X) = (w = x))) : ∀ d w I F, d + w = Pn P → d < F → PlC 1 P I → PlC 9 (woP P x w) I → ∃ I', fX3_becomes_L63 FU 9 (some 1) X F (nI w) (I, R0 pl nm hd rd) = some (I', R0 pl nm hd rd) ∧ PlC 9 (woP P x (Pn P)) I' ∧ (∀ k, k < 9 ∨ 16 < k → I' k = I k) := by
  have hn := wf_n hW
  intro d
  induction d with
  | zero =>
    intro w I F h1 h2 hC h9
    obtain ⟨G, rfl⟩ : ∃ G, F = G + 1 := ⟨F - 1, by omega⟩
    have e : w = Pn P := by omega
    subst e
    refine ⟨I, ?_, h9, fun _ _ => rfl⟩
    rw [fX3_becomes_L63, fIb_1, hC.2.1, if_pos (by rw [w_le (by omega) (by omega)]; omega)]
  | succ d ih =>
    intro w I F h1 h2 hC h9
    obtain ⟨G, rfl⟩ : ∃ G, F = G + 1 := ⟨F - 1, by omega⟩
    have f0 : ¬ nI (Pn P) ≤ nI w := by rw [w_le (by omega) (by omega)]; omega
    rw [fX3_becomes_L63, fIb_1, hC.2.1, if_neg f0]
    by_cases z : w = x
    · rw [if_pos (by rw [hX w (by omega)]; exact z)]
      unfold fX3_becomes_b99
      rw [li_1, nI_add]
      exact ih (w + 1) I G (by omega) (by omega) hC (by rw [woP_x P z]; exact h9)
    · rw [if_neg (by rw [hX w (by omega)]; exact z)]
      have wf := woP_wf hW h0 x w (by omega)
      have hw := wf_w hW (w := w) (by omega)
      have hp := woP_p P x w
      have hl := woP_n P x w
      have hs := noSh h0 (w := w) (by omega)
      have l16 : Pn (woP P x w) < 16 := by
        rw [hl]
        split <;> omega
      obtain ⟨T, t1, t2, t3, t4⟩ := c_put (FU := FU) (pl := pl) (nm := nm) (hd := hd) (rd := rd) (c := 9) (Or.inr rfl) h9 wf.1 hw.1 (by rw [hp.1]; exact hw.2.1) (by rw [hp.1]; exact hw.2.2.1) hw.2.2.2 l16 (fun y => absurd y hs)
      have hC2 : PlC 1 P T := hC.congr (fun k _ _ => t4 k (by omega))
      obtain ⟨I', e1, e2, e3⟩ := ih (w + 1) T G (by omega) (by omega) hC2 (by rw [woP_s P z]; exact t2)
      refine ⟨I', ?_, e2, fun k hk => (e3 k hk).trans (t4 k (by omega))⟩
      unfold fX3_becomes_b99
      rw [fRb_1_1, aIb_2 (by omega), hC.2.2.2.2.2.1 w (by omega), fRb_1_2, aIb_3 (by omega), hC.2.2.2.2.2.2.1 w (by omega), fRb_1_3, aIb_4 (by omega), hC.2.2.2.2.2.2.2.1 w (by omega), show rc 3 (some 9) = some 9 from rfl, w_bind, dn t1, li_1, nI_add]
      exact e1
theorem c_becomes (hF : 99999999 ≤ FU) (hC : PlC 1 P I) (hW : WfP P) (h0 : shN P (Pn P) = 0) (h9 : I 9 0 = nI (Pp P)) {X : Int32} {x : Nat} (hX : ∀ w, w < 16 → ((nI w = X) = (w = x))) : ∃ I', fX3_becomes FU 9 (some 1) X (I, R0 pl nm hd rd) = some (I', R0 pl nm hd rd) ∧ PlC 9 (woP P x (Pn P)) I' ∧ (∀ k, k < 9 ∨ 16 < k → I' k = I k) := by
  have hp := wf_p hW
  have hn := wf_n hW
  generalize hT : up2 (up2 (up2 (up2 I 9 8 (nI 0)) 9 9 (nI 0)) 9 10 (I 1 10)) 9 11 (I 1 11) = T
  have tk : ∀ k, k ≠ 9 → T k = I k := fun k hk => by rw [← hT, up2_ne hk, up2_ne hk, up2_ne hk, up2_ne hk]
  have t0 : T 9 0 = nI (Pp P) := by rw [← hT, up2_i (by decide), up2_i (by decide), up2_i (by decide), up2_i (by decide), h9]
  obtain ⟨I1, e1, e2, e3, e4⟩ := c_bec28 (FU := FU) (pl := pl) (nm := nm) (hd := hd) (rd := rd) (X := X) hF hp.2 (Pp P) 0 T FU (by omega) (by omega) t0
  have hC1 : PlC 1 P I1 := hC.congr (fun k _ _ => by rw [e4 k (by omega) (by omega), tk k (by omega)])
  have h91 : PlC 9 (woP P x 0) I1 := by
    refine ⟨?_, ?_, ?_, ?_, ?_, fun w hw => absurd hw (Nat.not_lt_zero w), fun w hw => absurd hw (Nat.not_lt_zero w), fun w hw => absurd hw (Nat.not_lt_zero w), fun w hw => absurd hw (Nat.not_lt_zero w), fun w k hw => absurd hw (Nat.not_lt_zero w), fun y hy => ?_, fun y hy => ?_⟩
    · rw [e4 9 (by decide) (by decide), t0]; rfl
    · rw [e4 9 (by decide) (by decide), ← hT, up2_i (by decide), up2_i (by decide), up2_i (by decide), up2_s]; rfl
    · rw [e4 9 (by decide) (by decide), ← hT, up2_i (by decide), up2_i (by decide), up2_s]; rfl
    · rw [e4 9 (by decide) (by decide), ← hT, up2_i (by decide), up2_s, hC.2.2.2.1]; rfl
    · rw [e4 9 (by decide) (by decide), ← hT, up2_s, hC.2.2.2.2.1]; rfl
    · have hy : y < Pp P := hy
      show I1 15 y = nI (Pg P y)
      rw [(e2 y (by omega) hy).2, tk 7 (by decide), hC.2.2.2.2.2.2.2.2.2.2.1 y hy]
    · have hy : y < Pp P := hy
      show I1 16 y = nI (nearM (empW P) y)
      rw [(e2 y (by omega) hy).1]
      congr 1
      symm
      apply Nat.eq_of_testBit_eq
      intro b
      rw [tb_near, Nat.zero_testBit]
      unfold bsd
      show (decide (b < 8) && anyB _ 0) = false
      simp [anyB]
  obtain ⟨I2, f1, f2, f3⟩ := c_bec63 (FU := FU) (pl := pl) (nm := nm) (hd := hd) (rd := rd) hF hW h0 hX (Pn P) 0 I1 FU (by omega) (by omega) hC1 h91
  refine ⟨I2, ?_, f2, fun k hk => by rw [f3 k hk, e4 k (by omega) (by omega), tk k (by omega)]⟩
  unfold fX3_becomes
  have u1 : up2 (up2 I 9 8 (nI 0)) 9 9 (nI 0) 1 10 = I 1 10 := by rw [up2_k (by decide), up2_k (by decide)]
  have u2 : up2 (up2 (up2 I 9 8 (nI 0)) 9 9 (nI 0)) 9 10 (I 1 10) 1 11 = I 1 11 := by rw [up2_k (by decide), up2_k (by decide), up2_k (by decide)]
  rw [li_0, pIb_9, pIb_9, fIb_1, u1, pIb_9, fIb_1, u2, pIb_9, hT, e1, f1]
end Fair1
