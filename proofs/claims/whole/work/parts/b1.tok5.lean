/-! texts: tokens, the reference's next -/
section Tok5
variable {FU : Nat} {I J : Nat → Nat → Int32} {pl nm hd rd : Option Nat} {b : Nat → Int32} {n : Nat}
theorem r_word0 : ∀ d k J F, k + d = n → d < F → RdR b n k J → ∃ J', fX9_wordToken_L0 FU 60 F (J, R0 pl nm hd rd) = fX9_wordToken_b40 FU 60 (J', R0 pl nm hd rd) ∧ J' 60 32 = nI (rn (fun k => isL (b k)) d k) ∧ (∀ q, q ≠ 60 → J' q = J q) ∧ (∀ j, j ≠ 32 → J' 60 j = J 60 j) := by
  intro d
  induction d with
  | zero =>
    intro k J F h1 h2 h
    obtain ⟨G, rfl⟩ : ∃ G, F = G + 1 := ⟨F - 1, by omega⟩
    have n120 := h.1
    refine ⟨J, ?_, h.2.2.2.1, fun _ _ => rfl, fun _ _ => rfl⟩
    rw [fX9_wordToken_L0, fIb_60, h.2.2.2.1, fIb_60, h.2.1, if_pos (by rw [w_le (by omega) (by omega)]; omega)]
  | succ d ih =>
    intro k J F h1 h2 h
    obtain ⟨G, rfl⟩ : ∃ G, F = G + 1 := ⟨F - 1, by omega⟩
    have n120 := h.1
    have st : rn (fun k => isL (b k)) (d + 1) k = if isL (b k) = true then rn (fun k => isL (b k)) d (k + 1) else k := rfl
    rw [fX9_wordToken_L0, fIb_60, h.2.2.2.1, fIb_60, h.2.1, if_neg (by rw [w_le (by omega) (by omega)]; omega), fRb_60_26, fIb_60, h.2.2.2.1, aIb_76 (by omega), h.2.2.1 k (by omega), show rc 9 (some 60) = some 60 from rfl, w_bind, dn (r_letter _ _), st]
    by_cases z : isL (b k) = true
    · obtain ⟨J', a1, a2, a3, a4⟩ := ih (k + 1) (up2 J 60 32 (nI (k + 1))) G (by omega) (by omega) (h.keep (up2_ne (by decide)) (up2_i (by decide)) (by rw [up2_s]) (by omega))
      refine ⟨J', ?_, by rw [if_pos z]; exact a2, fun q hq => by rw [a3 q hq, up2_ne hq], fun j hj => by rw [a4 j hj, up2_i hj]⟩
      rw [b01_pos z, if_neg (by decide), fIb_60, h.2.2.2.1, li_1, nI_add, pIb_60]
      exact a1
    · refine ⟨J, ?_, by rw [if_neg z]; exact h.2.2.2.1, fun _ _ => rfl, fun _ _ => rfl⟩
      rw [b01_neg z, if_pos (by decide)]
theorem i32_num (a x : Int32) : nI 10 * a + x - nI 48 = a * nI 10 + (x - nI 48) := by
  rw [Int32.mul_comm (nI 10) a]
  generalize a * nI 10 = y
  apply Int32.toBitVec_inj.1
  simp only [Int32.toBitVec_sub, Int32.toBitVec_add]
  generalize y.toBitVec = p
  generalize x.toBitVec = q
  generalize (nI 48).toBitVec = r
  bv_omega
theorem r_num113 {s : Nat} : ∀ d k J F, k + d = n → d < F → s ≤ k → RdR b n k J → J 60 35 = nI s → (k - s ≤ 4 → J 60 34 = nmV b s (k - s)) → ∃ J', fX9_next_L113 FU 60 F (J, R0 pl nm hd rd) = fX9_next_b197 FU 60 (J', R0 pl nm hd rd) ∧ J' 60 32 = nI (rn (fun k => isD (b k)) d k) ∧ (rn (fun k => isD (b k)) d k - s ≤ 4 → J' 60 34 = nmV b s (rn (fun k => isD (b k)) d k - s)) ∧ (∀ q, q ≠ 60 → J' q = J q) ∧ (∀ j, j ≠ 32 → j ≠ 34 → J' 60 j = J 60 j) := by
  intro d
  induction d with
  | zero =>
    intro k J F h1 h2 sk h hs h9
    obtain ⟨G, rfl⟩ : ∃ G, F = G + 1 := ⟨F - 1, by omega⟩
    have n120 := h.1
    refine ⟨J, ?_, h.2.2.2.1, h9, fun _ _ => rfl, fun _ _ _ => rfl⟩
    rw [fX9_next_L113, fIb_60, h.2.2.2.1, fIb_60, h.2.1, if_pos (by rw [w_le (by omega) (by omega)]; omega)]
  | succ d ih =>
    intro k J F h1 h2 sk h hs h9
    obtain ⟨G, rfl⟩ : ∃ G, F = G + 1 := ⟨F - 1, by omega⟩
    have n120 := h.1
    have st : rn (fun k => isD (b k)) (d + 1) k = if isD (b k) = true then rn (fun k => isD (b k)) d (k + 1) else k := rfl
    rw [fX9_next_L113, fIb_60, h.2.2.2.1, fIb_60, h.2.1, if_neg (by rw [w_le (by omega) (by omega)]; omega), fRb_60_26, fIb_60, h.2.2.2.1, aIb_76 (by omega), h.2.2.1 k (by omega), show rc 9 (some 60) = some 60 from rfl, w_bind, dn (r_digit _ _), st]
    by_cases z : isD (b k) = true
    · have go : ∀ v : Int32, (k + 1 - s ≤ 4 → v = nmV b s (k + 1 - s)) → ∃ J', fX9_next_b181 FU (fX9_next_L113 FU 60 G) 60 (some 60) v (J, R0 pl nm hd rd) = fX9_next_b197 FU 60 (J', R0 pl nm hd rd) ∧ J' 60 32 = nI (rn (fun k => isD (b k)) d (k + 1)) ∧ (rn (fun k => isD (b k)) d (k + 1) - s ≤ 4 → J' 60 34 = nmV b s (rn (fun k => isD (b k)) d (k + 1) - s)) ∧ (∀ q, q ≠ 60 → J' q = J q) ∧ (∀ j, j ≠ 32 → j ≠ 34 → J' 60 j = J 60 j) := by
        intro v hv
        generalize hT : up2 (up2 J 60 34 v) 60 32 (nI (k + 1)) = T
        have tq : ∀ q, q ≠ 60 → T q = J q := fun q hq => by rw [← hT, up2_ne hq, up2_ne hq]
        have tj : ∀ j, j ≠ 32 → j ≠ 34 → T 60 j = J 60 j := fun j j1 j2 => by rw [← hT, up2_i j1, up2_i j2]
        obtain ⟨J', a1, a2, a3, a4, a5⟩ := ih (k + 1) T G (by omega) (by omega) (by omega) (h.keep (tq 76 (by decide)) (tj 27 (by decide) (by decide)) (by rw [← hT, up2_s]) (by omega)) (by rw [tj 35 (by decide) (by decide), hs]) (fun q => by rw [← hT, up2_i (by decide), up2_s]; exact hv q)
        refine ⟨J', ?_, a2, a3, fun q hq => (a4 q hq).trans (tq q hq), fun j j1 j2 => (a5 j j1 j2).trans (tj j j1 j2)⟩
        unfold fX9_next_b181
        have x6 : up2 J 60 34 v 60 32 = nI k := by rw [up2_i (by decide), h.2.2.2.1]
        rw [pIb_60, fIb_60, x6, li_1, nI_add, pIb_60, hT]
        exact a1
      rw [b01_pos z, if_neg (by decide), if_pos z, fIb_60, h.2.2.2.1, fIb_60, hs, w_sub (by omega)]
      by_cases y : 4 ≤ k - s
      · rw [if_pos (by rw [li_4, w_le (by omega) (by omega)]; exact y), fIb_60]
        exact go _ (fun q => by omega)
      · rw [if_neg (by rw [li_4, w_le (by omega) (by omega)]; exact y), fIb_60, fRb_60_26, fIb_60, h.2.2.2.1, aIb_76 (by omega), h.2.2.1 k (by omega), h9 (by omega), li_10, li_48, i32_num]
        exact go _ (fun _ => by
          rw [show k + 1 - s = (k - s) + 1 by omega]
          show _ = nmV b s (k - s) * nI 10 + (b (s + (k - s)) - nI 48)
          rw [show s + (k - s) = k by omega])
    · rw [if_neg z]
      refine ⟨J, ?_, h.2.2.2.1, h9, fun _ _ => rfl, fun _ _ _ => rfl⟩
      rw [b01_neg z, if_pos (by decide)]
theorem r_next0 : ∀ d k J F, k + d = n → d < F → RdR b n k J → ∃ J', fX9_next_L0 FU 60 F (J, R0 pl nm hd rd) = fX9_next_b52 FU 60 (J', R0 pl nm hd rd) ∧ J' 60 32 = nI (rn (fun k => isB (b k)) d k) ∧ (∀ q, q ≠ 60 → J' q = J q) ∧ (∀ j, j ≠ 32 → J' 60 j = J 60 j) := by
  intro d
  induction d with
  | zero =>
    intro k J F h1 h2 h
    obtain ⟨G, rfl⟩ : ∃ G, F = G + 1 := ⟨F - 1, by omega⟩
    have n120 := h.1
    refine ⟨J, ?_, h.2.2.2.1, fun _ _ => rfl, fun _ _ => rfl⟩
    rw [fX9_next_L0, fIb_60, h.2.2.2.1, fIb_60, h.2.1, if_pos (by rw [w_le (by omega) (by omega)]; omega)]
  | succ d ih =>
    intro k J F h1 h2 h
    obtain ⟨G, rfl⟩ : ∃ G, F = G + 1 := ⟨F - 1, by omega⟩
    have n120 := h.1
    have st : rn (fun k => isB (b k)) (d + 1) k = if isB (b k) = true then rn (fun k => isB (b k)) d (k + 1) else k := rfl
    have go : isB (b k) = true → ∃ J', fX9_next_b39 FU (fX9_next_L0 FU 60 G) 60 (J, R0 pl nm hd rd) = fX9_next_b52 FU 60 (J', R0 pl nm hd rd) ∧ J' 60 32 = nI (rn (fun k => isB (b k)) (d + 1) k) ∧ (∀ q, q ≠ 60 → J' q = J q) ∧ (∀ j, j ≠ 32 → J' 60 j = J 60 j) := by
      intro z
      obtain ⟨J', a1, a2, a3, a4⟩ := ih (k + 1) (up2 J 60 32 (nI (k + 1))) G (by omega) (by omega) (h.keep (up2_ne (by decide)) (up2_i (by decide)) (by rw [up2_s]) (by omega))
      refine ⟨J', ?_, by rw [st, if_pos z]; exact a2, fun q hq => by rw [a3 q hq, up2_ne hq], fun j hj => by rw [a4 j hj, up2_i hj]⟩
      unfold fX9_next_b39
      rw [fIb_60, h.2.2.2.1, li_1, nI_add, pIb_60]
      exact a1
    rw [fX9_next_L0, fIb_60, h.2.2.2.1, fIb_60, h.2.1, if_neg (by rw [w_le (by omega) (by omega)]; omega), fRb_60_26, fIb_60, h.2.2.2.1, aIb_76 (by omega), h.2.2.1 k (by omega)]
    by_cases z1 : b k = 32
    · rw [if_pos z1]
      exact go (by unfold isB; simp [z1])
    · rw [if_neg z1, fRb_60_26, fIb_60, h.2.2.2.1, aIb_76 (by omega), h.2.2.1 k (by omega)]
      by_cases z2 : b k = 10
      · rw [if_neg (fun q => q z2)]
        exact go (by unfold isB; simp [z2])
      · rw [if_pos z2, st, if_neg (by unfold isB; simp [z1, z2])]
        exact ⟨J, rfl, h.2.2.2.1, fun _ _ => rfl, fun _ _ => rfl⟩
theorem r_next (hF : 99999999 ≤ FU) {k : Nat} (h : RdR b n k J) : ∃ J', fX9_next FU 60 (J, R0 pl nm hd rd) = some (J', R0 pl nm hd rd) ∧ RdR b n (tkE0 b n (tkS b n k)) J' ∧ TkR (tkC0 b n (tkS b n k)) (nmV b (tkS b n k) (tkE0 b n (tkS b n k) - tkS b n k)) (J' 60 33) (J' 60 34) ∧ J' 60 35 = nI (tkS b n k) ∧ (∀ q, q ≠ 60 → J' q = J q) ∧ (∀ j, j ≠ 32 → j ≠ 33 → j ≠ 34 → j ≠ 35 → J' 60 j = J 60 j) := by
  have n120 := h.1
  have hkn := h.2.2.2.2
  have rl := rn_le (fun k => isB (b k)) (n - k) k
  obtain ⟨J1, a1, a2, a3, a4⟩ := r_next0 (FU := FU) (pl := pl) (nm := nm) (hd := hd) (rd := rd) (n - k) k J FU (by omega) (by omega) h
  have eS : rn (fun k => isB (b k)) (n - k) k = tkS b n k := rfl
  rw [eS] at a2 rl
  generalize tkS b n k = s at a2 rl ⊢
  generalize hT : up2 (up2 J1 60 35 (nI s)) 60 33 (nI 0) = T
  have tq : ∀ q, q ≠ 60 → T q = J q := fun q hq => by rw [← hT, up2_ne hq, up2_ne hq, a3 q hq]
  have tj : ∀ j, j ≠ 32 → j ≠ 33 → j ≠ 35 → T 60 j = J 60 j := fun j j1 j2 j3 => by rw [← hT, up2_i j2, up2_i j3, a4 j j1]
  have t32 : T 60 32 = nI s := by rw [← hT, up2_i (by decide), up2_i (by decide), a2]
  have t35 : T 60 35 = nI s := by rw [← hT, up2_i (by decide), up2_s]
  have t33 : T 60 33 = nI 0 := by rw [← hT, up2_s]
  have hT' : RdR b n s T := h.keep (tq 76 (by decide)) (tj 27 (by decide) (by decide) (by decide)) t32 (by omega)
  have t27 := hT'.2.1
  have st : fX9_next FU 60 (J, R0 pl nm hd rd) = fX9_next_b52 FU 60 (J1, R0 pl nm hd rd) := a1
  rw [st]
  unfold fX9_next_b52 tkE0 tkC0
  rw [fIb_60, a2, pIb_60, li_0, pIb_60, hT, fIb_60, t32, fIb_60, t27]
  by_cases z : n ≤ s
  · have e : s = n := by omega
    rw [if_pos z, if_pos z]
    refine ⟨T, ?_, hT', Or.inl ⟨rfl, t33⟩, t35, tq, fun j j1 j2 _ j4 => tj j j1 j2 j4⟩
    rw [if_neg (fun q => q (by rw [e]))]
  · rw [if_neg z, if_neg z, if_pos (by rw [w_eq (by omega) (by omega)]; omega), fRb_60_26, fIb_60, t32, aIb_76 (by omega), hT'.2.2.1 s (by omega), show rc 9 (some 60) = some 60 from rfl, w_bind, dn (r_letter _ _)]
    by_cases l : isL (b s) = true
    · have rL := rn_le (fun k => isL (b k)) (n - s) s
      have eL : rn (fun k => isL (b k)) (n - s) s = tkL b n s := rfl
      obtain ⟨J2, c1, c2, c3, c4⟩ := r_word0 (FU := FU) (pl := pl) (nm := nm) (hd := hd) (rd := rd) (n - s) s T FU (by omega) (by omega) hT'
      rw [eL] at rL c2
      have hJ2 : RdR b n (s + (tkL b n s - s)) J2 := hT'.keep (c3 76 (by decide)) (c4 27 (by decide)) (by rw [c2, show s + (tkL b n s - s) = tkL b n s by omega]) (by omega)
      obtain ⟨J3, e1, e2, e3, e4⟩ := r_word40 (FU := FU) (pl := pl) (nm := nm) (hd := hd) (rd := rd) hF hJ2 (by rw [c4 35 (by decide), t35])
      rw [if_pos l, if_pos l]
      refine ⟨J3, ?_, hT'.keep (by rw [e3 76 (by decide), c3 76 (by decide)]) (by rw [e4 27 (by decide) (by decide), c4 27 (by decide)]) (by rw [e4 32 (by decide) (by decide), c2]) (by omega), e2 _, by rw [e4 35 (by decide) (by decide), c4 35 (by decide), t35], fun q hq => by rw [e3 q hq, c3 q hq, tq q hq], fun j j1 j2 j3 j4 => by rw [e4 j j2 j3, c4 j j1, tj j j1 j2 j4]⟩
      have c1 : fX9_wordToken FU 60 (T, R0 pl nm hd rd) = _ := c1
      rw [b01_pos l, if_neg (by decide), w_bind, c1, e1]
      rfl
    · rw [if_neg l, if_neg l, b01_neg l, if_pos rfl, w_bind, dn (r_digit _ _)]
      by_cases d : isD (b s) = true
      · have rL := rn_le (fun k => isD (b k)) (n - s) s
        have eL : rn (fun k => isD (b k)) (n - s) s = tkD b n s := rfl
        generalize hU : up2 T 60 34 (nI 0) = U
        have uq : ∀ q, q ≠ 60 → U q = T q := fun q hq => by rw [← hU, up2_ne hq]
        have uj : ∀ j, j ≠ 34 → U 60 j = T 60 j := fun j hj => by rw [← hU, up2_i hj]
        obtain ⟨J2, c1, c2, c3, c4, c5⟩ := r_num113 (FU := FU) (pl := pl) (nm := nm) (hd := hd) (rd := rd) (s := s) (n - s) s U FU (by omega) (by omega) (Nat.le_refl s) (hT'.keep (uq 76 (by decide)) (uj 27 (by decide)) (by rw [uj 32 (by decide), t32]) (by omega)) (by rw [uj 35 (by decide), t35]) (fun _ => by rw [← hU, up2_s, Nat.sub_self]; rfl)
        rw [eL] at rL c2 c3
        have j35 : J2 60 35 = nI s := by rw [c5 35 (by decide) (by decide), uj 35 (by decide), t35]
        rw [if_pos d, if_pos d]
        have fin : ∀ v : Int32, (if tkD b n s - s ≤ 4 then v = nI 1 else v = nI 5) → ∃ J', (some (up2 J2 60 33 v, R0 pl nm hd rd) : Option Mem) = some (J', R0 pl nm hd rd) ∧ RdR b n (tkD b n s) J' ∧ TkR (if tkD b n s - s ≤ 4 then nI 11 else nI 13) (nmV b s (tkD b n s - s)) (J' 60 33) (J' 60 34) ∧ J' 60 35 = nI s ∧ (∀ q, q ≠ 60 → J' q = J q) ∧ (∀ j, j ≠ 32 → j ≠ 33 → j ≠ 34 → j ≠ 35 → J' 60 j = J 60 j) := by
          intro v hv
          refine ⟨_, rfl, hT'.keep (by rw [up2_ne (by decide), c4 76 (by decide), uq 76 (by decide)]) (by rw [up2_i (by decide), c5 27 (by decide) (by decide), uj 27 (by decide)]) (by rw [up2_i (by decide), c2]) (by omega), ?_, by rw [up2_i (by decide), j35], fun q hq => by rw [up2_ne hq, c4 q hq, uq q hq, tq q hq], fun j j1 j2 j3 j4 => by rw [up2_i j2, c5 j j1 j3, uj j j3, tj j j1 j2 j4]⟩
          by_cases y : tkD b n s - s ≤ 4
          · rw [if_pos y] at hv ⊢
            exact Or.inr (Or.inl ⟨rfl, by rw [up2_s, hv], by rw [up2_i (by decide), c3 y]⟩)
          · rw [if_neg y] at hv ⊢
            exact Or.inr (Or.inr (Or.inr (Or.inr (Or.inr ⟨rfl, by rw [up2_s, hv]⟩))))
        rw [b01_pos d, if_neg (by decide), pIb_60, hU, c1]
        unfold fX9_next_b197
        rw [fIb_60, c2, fIb_60, j35, w_sub (by omega)]
        by_cases y : tkD b n s - s ≤ 4
        · rw [if_pos (by rw [li_4, w_le (by omega) (by omega)]; exact y), pIb_60]
          exact fin _ (by rw [if_pos y]; rfl)
        · rw [if_neg (by rw [li_4, w_le (by omega) (by omega)]; exact y), pIb_60]
          exact fin _ (by rw [if_neg y]; rfl)
      · rw [if_neg d, if_neg d, b01_neg d, if_pos rfl, fIb_60, t32, li_1, nI_add, pIb_60, pIb_60]
        generalize hU : up2 (up2 T 60 32 (nI (s + 1))) 60 34 (b s) = U
        have fin : ∀ c v : Int32, TkR c (nmV b s (s + 1 - s)) v (b s) → ∃ J', (some (up2 U 60 33 v, R0 pl nm hd rd) : Option Mem) = some (J', R0 pl nm hd rd) ∧ RdR b n (s + 1) J' ∧ TkR c (nmV b s (s + 1 - s)) (J' 60 33) (J' 60 34) ∧ J' 60 35 = nI s ∧ (∀ q, q ≠ 60 → J' q = J q) ∧ (∀ j, j ≠ 32 → j ≠ 33 → j ≠ 34 → j ≠ 35 → J' 60 j = J 60 j) := by
          intro c v hv
          have u34 : U 60 34 = b s := by rw [← hU, up2_s]
          refine ⟨_, rfl, hT'.keep (by rw [up2_ne (by decide), ← hU, up2_ne (by decide), up2_ne (by decide)]) (by rw [up2_i (by decide), ← hU, up2_i (by decide), up2_i (by decide)]) (by rw [up2_i (by decide), ← hU, up2_i (by decide), up2_s]) (by omega), by rw [up2_s, up2_i (by decide), u34]; exact hv, by rw [up2_i (by decide), ← hU, up2_i (by decide), up2_i (by decide), t35], fun q hq => by rw [up2_ne hq, ← hU, up2_ne hq, up2_ne hq, tq q hq], fun j j1 j2 j3 j4 => by rw [up2_i j2, ← hU, up2_i j3, up2_i j1, tj j j1 j2 j4]⟩
        have yes : isS (b s) = true → fX9_next_b284 FU (some 60) (U, R0 pl nm hd rd) = some (up2 U 60 33 (nI 4), R0 pl nm hd rd) := by
          intro _
          unfold fX9_next_b284
          rw [pIb_60]
          rfl
        by_cases g : isS (b s) = true
        · rw [if_pos g]
          have e : (if b s = (40 : Int32) then (fX9_next_b284 FU (some 60) (U, R0 pl nm hd rd)) else (if b s = (41 : Int32) then (fX9_next_b284 FU (some 60) (U, R0 pl nm hd rd)) else (if b s = (59 : Int32) then (fX9_next_b284 FU (some 60) (U, R0 pl nm hd rd)) else (if b s = (43 : Int32) then (fX9_next_b284 FU (some 60) (U, R0 pl nm hd rd)) else (if b s = (45 : Int32) then (fX9_next_b284 FU (some 60) (U, R0 pl nm hd rd)) else (if b s = (42 : Int32) then (fX9_next_b284 FU (some 60) (U, R0 pl nm hd rd)) else (if b s = (60 : Int32) then (fX9_next_b284 FU (some 60) (U, R0 pl nm hd rd)) else (if ¬ b s = (61 : Int32) then ((pI 9 (U, R0 pl nm hd rd) (some 60) 33 (5 : Int32)).bind fun M289 => some M289) else (fX9_next_b284 FU (some 60) (U, R0 pl nm hd rd)))))))))) = some (up2 U 60 33 (nI 4), R0 pl nm hd rd) := by
            rw [yes g]
            have g' := g
            unfold isS at g'
            rw [decide_eq_true_eq] at g'
            by_cases y1 : b s = 40
            · rw [if_pos y1]
            · rw [if_neg y1]
              by_cases y2 : b s = 41
              · rw [if_pos y2]
              · rw [if_neg y2]
                by_cases y3 : b s = 59
                · rw [if_pos y3]
                · rw [if_neg y3]
                  by_cases y4 : b s = 43
                  · rw [if_pos y4]
                  · rw [if_neg y4]
                    by_cases y5 : b s = 45
                    · rw [if_pos y5]
                    · rw [if_neg y5]
                      by_cases y6 : b s = 42
                      · rw [if_pos y6]
                      · rw [if_neg y6]
                        by_cases y7 : b s = 60
                        · rw [if_pos y7]
                        · rw [if_neg y7]
                          have y8 : b s = 61 := by
                            rcases g' with q | q | q | q | q | q | q | q
                            · exact absurd q y1
                            · exact absurd q y2
                            · exact absurd q y3
                            · exact absurd q y4
                            · exact absurd q y5
                            · exact absurd q y6
                            · exact absurd q y7
                            · exact q
                          rw [if_neg (fun q => q y8)]
          rw [e]
          exact fin (b s) (nI 4) (Or.inr (Or.inr (Or.inr (Or.inr (Or.inl ⟨g, rfl, rfl⟩)))))
        · have g' := g
          unfold isS at g'
          rw [decide_eq_true_eq] at g'
          rw [if_neg g, if_neg (fun q => g' (Or.inl q)), if_neg (fun q => g' (Or.inr (Or.inl q))), if_neg (fun q => g' (Or.inr (Or.inr (Or.inl q)))), if_neg (fun q => g' (Or.inr (Or.inr (Or.inr (Or.inl q))))), if_neg (fun q => g' (Or.inr (Or.inr (Or.inr (Or.inr (Or.inl q)))))), if_neg (fun q => g' (Or.inr (Or.inr (Or.inr (Or.inr (Or.inr (Or.inl q))))))), if_neg (fun q => g' (Or.inr (Or.inr (Or.inr (Or.inr (Or.inr (Or.inr (Or.inl q)))))))), if_pos (fun q => g' (Or.inr (Or.inr (Or.inr (Or.inr (Or.inr (Or.inr (Or.inr q)))))))), pIb_60]
          exact fin (nI 13) (nI 5) (Or.inr (Or.inr (Or.inr (Or.inr (Or.inr ⟨rfl, rfl⟩)))))
end Tok5
