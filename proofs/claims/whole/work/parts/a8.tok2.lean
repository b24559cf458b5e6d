/-! texts: tokens, the class's next -/
section Tok2
variable {FU : Nat} {I J : Nat → Nat → Int32} {pl nm hd rd : Option Nat} {b : Nat → Int32} {n : Nat}
def wCost : List (List Nat) → Nat
  | [] => 0
  | l :: ls => l.length + 1 + wCost ls
def WOK : List (List Nat) → Nat → Prop
  | [], _ => True
  | l :: ls, kk => (kk + l.length < 60 ∧ l.length ≤ 8 ∧ (∀ j, j < l.length → txA 0 (nI (kk + j)) = some (nI (l.getD j 0)) ∧ l.getD j 0 ≠ 32 ∧ l.getD j 0 < 200) ∧ txA 0 (nI (kk + l.length)) = some 32) ∧ WOK ls (kk + l.length + 1)
theorem wok : WOK wds 0 := by
  refine ⟨?_, ?_, ?_, ?_, ?_, ?_, ?_, ?_, ?_, ?_, ?_, trivial⟩
  · decide +kernel
  · decide +kernel
  · decide +kernel
  · decide +kernel
  · decide +kernel
  · decide +kernel
  · decide +kernel
  · decide +kernel
  · decide +kernel
  · decide +kernel
  · decide +kernel
theorem c_wordsL {r k s L : Nat} (hL : s + L ≤ n) : ∀ (ls : List (List Nat)) i kk I t F, WOK ls kk → i + ls.length < 20 → RdC b n r k I → I 48 8 = nI s → I 48 7 = nI t → ∃ I', fX4_readWord_L64 FU 48 (nI L) (F + wCost ls) (nI i) (nI 0) (nI 1) (nI kk) (I, R0 pl nm hd (some r)) = fX4_readWord_L64 FU 48 (nI L) F (nI (i + ls.length)) (nI 0) (nI 1) (nI (kk + wCost ls)) (I', R0 pl nm hd (some r)) ∧ I' 48 7 = nI (wdF b s L ls i t) ∧ (∀ q, q ≠ 48 → I' q = I q) ∧ (∀ j, j ≠ 7 → I' 48 j = I 48 j) := by
  intro ls
  induction ls with
  | nil =>
    intro i kk I t F hw hi h hs ht
    exact ⟨I, rfl, ht, fun _ _ => rfl, fun _ _ => rfl⟩
  | cons l ls ih =>
    intro i kk I t F hw hi h hs ht
    obtain ⟨⟨w1, w2, w3, w4⟩, w5⟩ := hw
    have il : i + (ls.length + 1) < 20 := hi
    have one := c_oneWord (FU := FU) (pl := pl) (nm := nm) (hd := hd) (i := i) h hs hL w1 w2 (by omega) w3 w4 (F + wCost ls)
    generalize hT : (if wIs b s L l = true then up2 I 48 7 (nI i) else I) = T at one
    have tq : ∀ q, q ≠ 48 → T q = I q := by
      intro q hq
      rw [← hT]
      split
      · rw [up2_ne hq]
      · rfl
    have tj : ∀ j, j ≠ 7 → T 48 j = I 48 j := by
      intro j hj
      rw [← hT]
      split
      · rw [up2_i hj]
      · rfl
    have t7 : T 48 7 = nI (if wIs b s L l = true then i else t) := by
      rw [← hT]
      split
      · rw [up2_s]
      · exact ht
    have hT' : RdC b n r k T := h.keep tq (tj 5 (by decide)) (by rw [tj 6 (by decide), h.2.2.2.2.2.1]) h.2.2.2.2.2.2
    obtain ⟨I', a1, a2, a3, a4⟩ := ih (i + 1) (kk + l.length + 1) T (if wIs b s L l = true then i else t) F w5 (by omega) hT' (by rw [tj 8 (by decide), hs]) t7
    refine ⟨I', ?_, a2, fun q hq => (a3 q hq).trans (tq q hq), fun j hj => (a4 j hj).trans (tj j hj)⟩
    show fX4_readWord_L64 FU 48 (nI L) (F + (l.length + 1 + wCost ls)) _ _ _ _ _ = fX4_readWord_L64 FU 48 (nI L) F (nI (i + (ls.length + 1))) _ _ (nI (kk + (l.length + 1 + wCost ls))) _
    rw [show F + (l.length + 1 + wCost ls) = F + wCost ls + l.length + 1 by omega, one, a1, show i + 1 + ls.length = i + (ls.length + 1) by omega, show kk + l.length + 1 + wCost ls = kk + (l.length + 1 + wCost ls) by omega]
theorem c_readWord (hF : 99999999 ≤ FU) {r s : Nat} (h : RdC b n r s I) (hs : I 48 8 = nI s) : ∃ I', fX4_readWord FU 48 (I, R0 pl nm hd (some r)) = some (I', R0 pl nm hd (some r)) ∧ I' 48 6 = nI (tkL b n s) ∧ I' 48 7 = nI (wdF b s (tkL b n s - s) wds 0 13) ∧ (∀ q, q ≠ 48 → I' q = I q) ∧ (∀ j, j ≠ 6 → j ≠ 7 → I' 48 j = I 48 j) := by
  have n120 := h.2.2.1
  have hsn := h.2.2.2.2.2.2
  have rl := rn_le (fun k => isL (b k)) (n - s) s
  have w0 := c_word0 (FU := FU) (pl := pl) (nm := nm) (hd := hd) (n - s) s I FU (by omega) (by omega) h
  have eL : rn (fun k => isL (b k)) (n - s) s = tkL b n s := rfl
  rw [eL] at w0 rl
  generalize tkL b n s = e at w0 rl ⊢
  generalize hT : up2 (up2 I 48 6 (nI e)) 48 7 (nI 13) = T
  have tq : ∀ q, q ≠ 48 → T q = I q := fun q hq => by rw [← hT, up2_ne hq, up2_ne hq]
  have tj : ∀ j, j ≠ 6 → j ≠ 7 → T 48 j = I 48 j := fun j j1 j2 => by rw [← hT, up2_i j2, up2_i j1]
  have t6 : T 48 6 = nI e := by rw [← hT, up2_i (by decide), up2_s]
  have t7 : T 48 7 = nI 13 := by rw [← hT, up2_s]
  have hT' : RdC b n r e T := h.keep tq (tj 5 (by decide) (by decide)) t6 (by omega)
  obtain ⟨G, hG⟩ : ∃ G, FU = (G + 1) + wCost wds := ⟨FU - 61, by
    show FU = FU - 61 + 1 + 60
    omega⟩
  obtain ⟨I', a1, a2, a3, a4⟩ := c_wordsL (FU := FU) (pl := pl) (nm := nm) (hd := hd) (s := s) (L := e - s) (by omega) wds 0 0 T 13 (G + 1) wok (by decide) hT' (by rw [tj 8 (by decide) (by decide), hs]) t7
  refine ⟨I', ?_, by rw [a4 6 (by decide), t6], a2, fun q hq => (a3 q hq).trans (tq q hq), fun j j1 j2 => (a4 j j2).trans (tj j j1 j2)⟩
  have w0 : fX4_readWord FU 48 (I, R0 pl nm hd (some r)) = _ := w0
  rw [w0]
  unfold fX4_readWord_b38
  have x8 : up2 I 48 6 (nI e) 48 8 = nI s := by rw [up2_i (by decide), hs]
  rw [fIb_48, up2_s, fIb_48, x8, w_sub (by omega), li_13, pIb_48, hT]
  have a1 : fX4_readWord_L64 FU 48 (nI (e - s)) (G + 1 + wCost wds) (0 : Int32) (0 : Int32) (1 : Int32) (0 : Int32) (T, R0 pl nm hd (some r)) = _ := a1
  rw [← hG] at a1
  rw [a1, fX4_readWord_L64]
  show (if (60 : Int32) ≤ nI (0 + 60) then _ else _) = _
  rw [if_pos (by decide)]
theorem c_num5 {r s : Nat} : ∀ d k I F, k + d = n → d < F → s ≤ k → RdC b n r k I → I 48 8 = nI s → I 48 9 = nmV b s (k - s) → ∃ I', fX4_readNumber_L5 FU 48 F (I, R0 pl nm hd (some r)) = fX4_readNumber_b66 FU 48 (I', R0 pl nm hd (some r)) ∧ I' 48 6 = nI (rn (fun k => isD (b k)) d k) ∧ I' 48 9 = nmV b s (rn (fun k => isD (b k)) d k - s) ∧ (∀ q, q ≠ 48 → I' q = I q) ∧ (∀ j, j ≠ 6 → j ≠ 9 → I' 48 j = I 48 j) := by
  intro d
  induction d with
  | zero =>
    intro k I F h1 h2 sk h hs h9
    obtain ⟨G, rfl⟩ : ∃ G, F = G + 1 := ⟨F - 1, by omega⟩
    have n120 := h.2.2.1
    refine ⟨I, ?_, h.2.2.2.2.2.1, h9, fun _ _ => rfl, fun _ _ _ => rfl⟩
    rw [fX4_readNumber_L5, fIb_48, h.2.2.2.2.2.1, fIb_48, h.2.2.2.1, if_pos (by rw [w_le (by omega) (by omega)]; omega)]
  | succ d ih =>
    intro k I F h1 h2 sk h hs h9
    obtain ⟨G, rfl⟩ : ∃ G, F = G + 1 := ⟨F - 1, by omega⟩
    have n120 := h.2.2.1
    have db := c_byteAt (FU := FU) (pl := pl) (nm := nm) (hd := hd) h (j := k) (by omega)
    rw [fX4_readNumber_L5, fIb_48, h.2.2.2.2.2.1, fIb_48, h.2.2.2.1, if_neg (by rw [w_le (by omega) (by omega)]; omega), fIb_48, h.2.2.2.2.2.1, show rc 4 (some 48) = some 48 from rfl, w_bind, dn db, dn (c_digit _ _)]
    have st : rn (fun k => isD (b k)) (d + 1) k = if isD (b k) = true then rn (fun k => isD (b k)) d (k + 1) else k := rfl
    rw [st]
    by_cases z : isD (b k) = true
    · generalize hT : up2 (up2 I 48 9 (nmV b s (k - s) * nI 10 + (b k - nI 48))) 48 6 (nI (k + 1)) = T
      have tq : ∀ q, q ≠ 48 → T q = I q := fun q hq => by rw [← hT, up2_ne hq, up2_ne hq]
      have tj : ∀ j, j ≠ 6 → j ≠ 9 → T 48 j = I 48 j := fun j j1 j2 => by rw [← hT, up2_i j1, up2_i j2]
      have t9 : T 48 9 = nmV b s (k + 1 - s) := by
        rw [← hT, up2_i (by decide), up2_s, show k + 1 - s = (k - s) + 1 by omega]
        show _ = nmV b s (k - s) * nI 10 + (b (s + (k - s)) - nI 48)
        rw [show s + (k - s) = k by omega]
      obtain ⟨I', a1, a2, a3, a4, a5⟩ := ih (k + 1) T G (by omega) (by omega) (by omega) (h.keep tq (tj 5 (by decide) (by decide)) (by rw [← hT, up2_s]) (by omega)) (by rw [tj 8 (by decide) (by decide), hs]) t9
      refine ⟨I', ?_, by rw [if_pos z]; exact a2, by rw [if_pos z]; exact a3, fun q hq => (a4 q hq).trans (tq q hq), fun j j1 j2 => (a5 j j1 j2).trans (tj j j1 j2)⟩
      have x6 : up2 I 48 9 (nmV b s (k - s) * nI 10 + (b k - nI 48)) 48 6 = nI k := by rw [up2_i (by decide), h.2.2.2.2.2.1]
      rw [b01_pos z, if_neg (by decide), fIb_48, h9, fIb_48, h.2.2.2.2.2.1, w_bind, dn db, li_10, li_48, pIb_48, fIb_48, x6, li_1, nI_add, pIb_48, hT]
      exact a1
    · refine ⟨I, ?_, by rw [if_neg z]; exact h.2.2.2.2.2.1, by rw [if_neg z]; exact h9, fun _ _ => rfl, fun _ _ _ => rfl⟩
      rw [b01_neg z, if_pos (by decide)]
theorem c_readNumber (hF : 99999999 ≤ FU) {r s : Nat} (h : RdC b n r s I) (hs : I 48 8 = nI s) : ∃ I', fX4_readNumber FU 48 (I, R0 pl nm hd (some r)) = some (I', R0 pl nm hd (some r)) ∧ I' 48 6 = nI (tkD b n s) ∧ I' 48 7 = (if tkD b n s - s ≤ 4 then nI 11 else nI 13) ∧ I' 48 9 = nmV b s (tkD b n s - s) ∧ (∀ q, q ≠ 48 → I' q = I q) ∧ (∀ j, j ≠ 6 → j ≠ 7 → j ≠ 9 → I' 48 j = I 48 j) := by
  have n120 := h.2.2.1
  have hsn := h.2.2.2.2.2.2
  have rl := rn_le (fun k => isD (b k)) (n - s) s
  generalize hT : up2 I 48 9 (nI 0) = T
  have tq : ∀ q, q ≠ 48 → T q = I q := fun q hq => by rw [← hT, up2_ne hq]
  have tj : ∀ j, j ≠ 9 → T 48 j = I 48 j := fun j hj => by rw [← hT, up2_i hj]
  obtain ⟨I1, a1, a2, a3, a4, a5⟩ := c_num5 (FU := FU) (pl := pl) (nm := nm) (hd := hd) (b := b) (n := n) (r := r) (s := s) (n - s) s T FU (by omega) (by omega) (Nat.le_refl s) (h.keep tq (tj 5 (by decide)) (by rw [tj 6 (by decide), h.2.2.2.2.2.1]) hsn) (by rw [tj 8 (by decide), hs]) (by rw [← hT, up2_s, Nat.sub_self]; rfl)
  have eD : rn (fun k => isD (b k)) (n - s) s = tkD b n s := rfl
  rw [eD] at a2 a3 rl
  generalize tkD b n s = e at a2 a3 rl ⊢
  have b8 : I1 48 8 = nI s := by rw [a5 8 (by decide) (by decide), tj 8 (by decide), hs]
  refine ⟨up2 I1 48 7 (if e - s ≤ 4 then nI 11 else nI 13), ?_, by rw [up2_i (by decide), a2], by rw [up2_s], by rw [up2_i (by decide), a3], fun q hq => by rw [up2_ne hq, a4 q hq, tq q hq], fun j j1 j2 j3 => by rw [up2_i j2, a5 j j1 j3, tj j j3]⟩
  unfold fX4_readNumber
  rw [li_0, pIb_48, hT, a1]
  unfold fX4_readNumber_b66
  rw [fIb_48, a2, fIb_48, b8, w_sub (by omega)]
  by_cases z : e - s ≤ 4
  · rw [if_neg (by rw [li_4, w_lt (by omega) (by omega)]; omega), if_pos z, li_11, pIb_48]
  · rw [if_pos (by rw [li_4, w_lt (by omega) (by omega)]; omega), if_neg z, li_13, pIb_48]
theorem c_next0 {r : Nat} : ∀ d k I F, k + d = n → d < F → RdC b n r k I → ∃ I', fX4_next_L0 FU 48 F (I, R0 pl nm hd (some r)) = fX4_next_b52 FU 48 (I', R0 pl nm hd (some r)) ∧ I' 48 6 = nI (rn (fun k => isB (b k)) d k) ∧ (∀ q, q ≠ 48 → I' q = I q) ∧ (∀ j, j ≠ 6 → I' 48 j = I 48 j) := by
  intro d
  induction d with
  | zero =>
    intro k I F h1 h2 h
    obtain ⟨G, rfl⟩ : ∃ G, F = G + 1 := ⟨F - 1, by omega⟩
    have n120 := h.2.2.1
    refine ⟨I, ?_, h.2.2.2.2.2.1, fun _ _ => rfl, fun _ _ => rfl⟩
    rw [fX4_next_L0, fIb_48, h.2.2.2.2.2.1, fIb_48, h.2.2.2.1, if_pos (by rw [w_le (by omega) (by omega)]; omega)]
  | succ d ih =>
    intro k I F h1 h2 h
    obtain ⟨G, rfl⟩ : ∃ G, F = G + 1 := ⟨F - 1, by omega⟩
    have n120 := h.2.2.1
    have st : rn (fun k => isB (b k)) (d + 1) k = if isB (b k) = true then rn (fun k => isB (b k)) d (k + 1) else k := rfl
    have go : isB (b k) = true → ∃ I', fX4_next_b39 FU (fX4_next_L0 FU 48 G) 48 (I, R0 pl nm hd (some r)) = fX4_next_b52 FU 48 (I', R0 pl nm hd (some r)) ∧ I' 48 6 = nI (rn (fun k => isB (b k)) (d + 1) k) ∧ (∀ q, q ≠ 48 → I' q = I q) ∧ (∀ j, j ≠ 6 → I' 48 j = I 48 j) := by
      intro z
      obtain ⟨I', a1, a2, a3, a4⟩ := ih (k + 1) (up2 I 48 6 (nI (k + 1))) G (by omega) (by omega) (h.move (by omega))
      refine ⟨I', ?_, by rw [st, if_pos z]; exact a2, fun q hq => by rw [a3 q hq, up2_ne hq], fun j hj => by rw [a4 j hj, up2_i hj]⟩
      unfold fX4_next_b39
      rw [fIb_48, h.2.2.2.2.2.1, li_1, nI_add, pIb_48]
      exact a1
    rw [fX4_next_L0, fIb_48, h.2.2.2.2.2.1, fIb_48, h.2.2.2.1, if_neg (by rw [w_le (by omega) (by omega)]; omega), fRb_48_4, fIb_48, h.2.2.2.2.2.1, h.1 _ _ _ (by omega), w_bind, h.2.2.2.2.1 k (by omega)]
    by_cases z1 : b k = 32
    · rw [if_pos z1]
      exact go (by unfold isB; simp [z1])
    · rw [if_neg z1, fRb_48_4, fIb_48, h.2.2.2.2.2.1, h.1 _ _ _ (by omega), w_bind, h.2.2.2.2.1 k (by omega)]
      by_cases z2 : b k = 10
      · rw [if_neg (fun q => q z2)]
        exact go (by unfold isB; simp [z2])
      · rw [if_pos z2, st, if_neg (by unfold isB; simp [z1, z2])]
        exact ⟨I, rfl, h.2.2.2.2.2.1, fun _ _ => rfl, fun _ _ => rfl⟩
theorem c_next (hF : 99999999 ≤ FU) {r k : Nat} (h : RdC b n r k I) : ∃ I', fX4_next FU 48 (I, R0 pl nm hd (some r)) = some (I', R0 pl nm hd (some r)) ∧ RdC b n r (tkE0 b n (tkS b n k)) I' ∧ I' 48 7 = tkC0 b n (tkS b n k) ∧ I' 48 8 = nI (tkS b n k) ∧ (tkC0 b n (tkS b n k) = nI 11 → I' 48 9 = nmV b (tkS b n k) (tkE0 b n (tkS b n k) - tkS b n k)) ∧ (∀ q, q ≠ 48 → I' q = I q) ∧ (∀ j, j ≠ 6 → j ≠ 7 → j ≠ 8 → j ≠ 9 → I' 48 j = I 48 j) := by
  have n120 := h.2.2.1
  have hkn := h.2.2.2.2.2.2
  have rl := rn_le (fun k => isB (b k)) (n - k) k
  obtain ⟨I1, a1, a2, a3, a4⟩ := c_next0 (FU := FU) (pl := pl) (nm := nm) (hd := hd) (n - k) k I FU (by omega) (by omega) h
  have eS : rn (fun k => isB (b k)) (n - k) k = tkS b n k := rfl
  rw [eS] at a2 rl
  generalize tkS b n k = s at a2 rl ⊢
  generalize hT : up2 I1 48 8 (nI s) = T
  have tq : ∀ q, q ≠ 48 → T q = I q := fun q hq => by rw [← hT, up2_ne hq, a3 q hq]
  have tj : ∀ j, j ≠ 6 → j ≠ 8 → T 48 j = I 48 j := fun j j1 j2 => by rw [← hT, up2_i j2, a4 j j1]
  have t6 : T 48 6 = nI s := by rw [← hT, up2_i (by decide), a2]
  have t8 : T 48 8 = nI s := by rw [← hT, up2_s]
  have hT' : RdC b n r s T := h.keep tq (tj 5 (by decide) (by decide)) t6 (by omega)
  have t5 := hT'.2.2.2.1
  have st : fX4_next FU 48 (I, R0 pl nm hd (some r)) = fX4_next_b52 FU 48 (I1, R0 pl nm hd (some r)) := a1
  rw [st]
  unfold fX4_next_b52 tkE0 tkC0
  rw [fIb_48, a2, pIb_48, hT, fIb_48, t6, show rc 4 (some 48) = some 48 from rfl, w_bind]
  by_cases z : n ≤ s
  · have e : s = n := by omega
    have db : fX4_byteAt FU 48 (nI s) (T, R0 pl nm hd (some r)) = some (-1, (T, R0 pl nm hd (some r))) := by
      unfold fX4_byteAt
      rw [fIb_48, t5, if_pos (by rw [w_le (by omega) (by omega)]; omega)]
    rw [if_pos z, if_pos z]
    refine ⟨up2 T 48 7 (nI 12), ?_, hT'.keep (fun q hq => up2_ne hq) (up2_i (by decide)) (by rw [up2_i (by decide), t6]) (by omega), by rw [up2_s], by rw [up2_i (by decide), t8], fun q => absurd q (by decide), fun q hq => by rw [up2_ne hq, tq q hq], fun j j1 j2 j3 _ => by rw [up2_i j2, tj j j1 j3]⟩
    rw [dn db, fIb_48, t6, fIb_48, t5, if_neg (by rw [w_lt (by omega) (by omega)]; omega), li_12, pIb_48]
  · have db := c_byteAt (FU := FU) (pl := pl) (nm := nm) (hd := hd) hT' (j := s) (by omega)
    rw [if_neg z, if_neg z, dn db, fIb_48, t6, fIb_48, t5, if_pos (by rw [w_lt (by omega) (by omega)]; omega), dn (c_letter _ _)]
    by_cases l : isL (b s) = true
    · obtain ⟨I', c1, c2, c3, c4, c5⟩ := c_readWord (FU := FU) (pl := pl) (nm := nm) (hd := hd) hF hT' t8
      have rL := rn_le (fun k => isL (b k)) (n - s) s
      have eL : rn (fun k => isL (b k)) (n - s) s = tkL b n s := rfl
      rw [eL] at rL
      rw [if_pos l, if_pos l]
      refine ⟨I', ?_, hT'.keep c4 (c5 5 (by decide) (by decide)) c2 (by omega), c3, by rw [c5 8 (by decide) (by decide), t8], fun q => ?_, fun q hq => (c4 q hq).trans (tq q hq), fun j j1 j2 j3 _ => (c5 j j1 j2).trans (tj j j1 j3)⟩
      · rw [b01_pos l, if_neg (by decide), w_bind, dn1 c1]
      · -- a word's code is no number's
        exfalso
        have wl : ∀ (ls : List (List Nat)) i t, (t < 11 ∨ t = 13) → i + ls.length ≤ 11 → wdF b s (tkL b n s - s) ls i t ≠ 11 ∧ wdF b s (tkL b n s - s) ls i t < 14 := by
          intro ls
          induction ls with
          | nil => intro i t ht _; exact ⟨by show t ≠ 11; omega, by show t < 14; omega⟩
          | cons w ws ih =>
            intro i t ht hi
            have hi : i + (ws.length + 1) ≤ 11 := hi
            show wdF b s (tkL b n s - s) ws (i + 1) (if wIs b s (tkL b n s - s) w = true then i else t) ≠ 11 ∧ _
            refine ih (i + 1) _ ?_ (by omega)
            split <;> omega
        have w1 := wl wds 0 13 (Or.inr rfl) (by decide)
        have := (nI_eq (by omega) (by decide)).mp q
        exact w1.1 this
    · rw [if_neg l, if_neg l, b01_neg l, if_pos (by decide), dn (c_digit _ _)]
      by_cases d : isD (b s) = true
      · obtain ⟨I', c1, c2, c3, c4, c5, c6⟩ := c_readNumber (FU := FU) (pl := pl) (nm := nm) (hd := hd) hF hT' t8
        have rL := rn_le (fun k => isD (b k)) (n - s) s
        have eL : rn (fun k => isD (b k)) (n - s) s = tkD b n s := rfl
        rw [eL] at rL
        rw [if_pos d, if_pos d]
        refine ⟨I', ?_, hT'.keep c5 (c6 5 (by decide) (by decide) (by decide)) c2 (by omega), c3, by rw [c6 8 (by decide) (by decide) (by decide), t8], fun _ => c4, fun q hq => (c5 q hq).trans (tq q hq), fun j j1 j2 j3 j4 => (c6 j j1 j2 j4).trans (tj j j1 j3)⟩
        rw [b01_pos d, if_neg (by decide), w_bind, dn1 c1]
      · rw [if_neg d, if_neg d, b01_neg d, if_pos (by decide), fIb_48, t6, li_1, nI_add, pIb_48, dn (c_sign _ _)]
        have fin : ∀ v : Int32, v ≠ nI 11 → ∃ I', (some (up2 (up2 T 48 6 (nI (s + 1))) 48 7 v, R0 pl nm hd (some r)) : Option Mem) = some (I', R0 pl nm hd (some r)) ∧ RdC b n r (s + 1) I' ∧ I' 48 7 = v ∧ I' 48 8 = nI s ∧ (v = nI 11 → I' 48 9 = nmV b s (s + 1 - s)) ∧ (∀ q, q ≠ 48 → I' q = I q) ∧ (∀ j, j ≠ 6 → j ≠ 7 → j ≠ 8 → j ≠ 9 → I' 48 j = I 48 j) := by
          intro v hv
          exact ⟨_, rfl, hT'.keep (fun q hq => by rw [up2_ne hq, up2_ne hq]) (by rw [up2_i (by decide), up2_i (by decide)]) (by rw [up2_i (by decide), up2_s]) (by omega), by rw [up2_s], by rw [up2_i (by decide), up2_i (by decide), t8], fun q => absurd q hv, fun q hq => by rw [up2_ne hq, up2_ne hq, tq q hq], fun j j1 j2 j3 _ => by rw [up2_i j2, up2_i j1, tj j j1 j3]⟩
        by_cases g : isS (b s) = true
        · rw [b01_pos g, if_neg (by decide), if_pos g, pIb_48]
          apply fin
          intro q
          rw [q] at g
          exact absurd g (by decide)
        · rw [b01_neg g, if_pos (by decide), if_neg g, li_13, pIb_48]
          exact fin (nI 13) (by decide)
end Tok2
