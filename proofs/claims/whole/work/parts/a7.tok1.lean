/-! texts: tokens, the class -/
section Tok1
variable {FU : Nat} {I J : Nat → Nat → Int32} {pl nm hd rd : Option Nat} {b : Nat → Int32} {n : Nat}
/-- as far as all are so -/
def rn (p : Nat → Bool) : Nat → Nat → Nat
  | 0, k => k
  | f + 1, k => if p k = true then rn p f (k + 1) else k
theorem rn_le (p : Nat → Bool) : ∀ f k, k ≤ rn p f k ∧ rn p f k ≤ k + f := by
  intro f
  induction f with
  | zero => exact fun k => ⟨Nat.le_refl k, Nat.le_refl k⟩
  | succ f ih =>
    intro k
    show k ≤ (if p k = true then rn p f (k + 1) else k) ∧ (if p k = true then rn p f (k + 1) else k) ≤ k + (f + 1)
    have := ih (k + 1)
    split <;> omega
def isB (c : Int32) : Bool := decide (c = 32 ∨ c = 10)
def isL (c : Int32) : Bool := decide (¬ c < 97 ∧ ¬ 122 < c)
def isD (c : Int32) : Bool := decide (¬ c < 48 ∧ ¬ 57 < c)
def isS (c : Int32) : Bool := decide (c = 40 ∨ c = 41 ∨ c = 59 ∨ c = 43 ∨ c = 45 ∨ c = 42 ∨ c = 60 ∨ c = 61)
/-- where the token begins -/
def tkS (b : Nat → Int32) (n k : Nat) : Nat := rn (fun k => isB (b k)) (n - k) k
def wds : List (List Nat) := [[119, 111, 110], [97, 108, 108], [108, 111, 110, 103, 101, 115, 116], [112, 117, 122, 122, 108, 101, 115], [119, 97, 121, 115], [116, 117, 114, 110, 105, 110, 103, 115], [103, 114, 97, 100, 101], [102, 97, 105, 114], [111, 114], [97, 110, 100], [110, 111, 116]]
/-- the first m letters of a word stand at s -/
def mch (b : Nat → Int32) (s : Nat) (l : List Nat) : Nat → Bool
  | 0 => true
  | m + 1 => mch b s l m && decide (b (s + m) = nI (l.getD m 0))
def wIs (b : Nat → Int32) (s L : Nat) (l : List Nat) : Bool := decide (L = l.length) && mch b s l l.length
/-- which word, from i on -/
def wdF (b : Nat → Int32) (s L : Nat) : List (List Nat) → Nat → Nat → Nat
  | [], _, t => t
  | l :: ls, i, t => wdF b s L ls (i + 1) (if wIs b s L l = true then i else t)
def tkL (b : Nat → Int32) (n s : Nat) : Nat := rn (fun k => isL (b k)) (n - s) s
def tkD (b : Nat → Int32) (n s : Nat) : Nat := rn (fun k => isD (b k)) (n - s) s
/-- behind the token that begins at s -/
def tkE0 (b : Nat → Int32) (n s : Nat) : Nat := if n ≤ s then s else if isL (b s) = true then tkL b n s else if isD (b s) = true then tkD b n s else s + 1
/-- its code -/
def tkC0 (b : Nat → Int32) (n s : Nat) : Int32 := if n ≤ s then nI 12 else if isL (b s) = true then nI (wdF b s (tkL b n s - s) wds 0 13) else if isD (b s) = true then (if tkD b n s - s ≤ 4 then nI 11 else nI 13) else if isS (b s) = true then b s else nI 13
/-- a number's value, of d digits -/
def nmV (b : Nat → Int32) (s : Nat) : Nat → Int32
  | 0 => nI 0
  | d + 1 => nmV b s d * nI 10 + (b (s + d) - nI 48)
/-- a row of bytes that may be read -/
def BR (r : Nat) : Prop := ∀ (I : Nat → Nat → Int32) (R : Nat → Nat → Option Nat) (j : Nat), j < 120 → aI 2 (I, R) (some r) (nI j) = some (I r j)
theorem br_39 : BR 39 := fun _ _ _ h => aI_39 h
theorem br_4 {t : Nat} (ht : t < 6) : BR (41 + t) := by
  intro I R j h
  obtain z | z | z | z | z | z : t = 0 ∨ t = 1 ∨ t = 2 ∨ t = 3 ∨ t = 4 ∨ t = 5 := by omega
  · subst z; exact aI_41 h
  · subst z; exact aI_42 h
  · subst z; exact aI_43 h
  · subst z; exact aI_44 h
  · subst z; exact aI_45 h
  · subst z; exact aI_46 h
/-- the class's reader over a row of bytes, at k -/
def RdC (b : Nat → Int32) (n r k : Nat) (I : Nat → Nat → Int32) : Prop := BR r ∧ r ≠ 48 ∧ n ≤ 120 ∧ I 48 5 = nI n ∧ (∀ j, j < n → I r j = b j) ∧ I 48 6 = nI k ∧ k ≤ n
theorem c_letter (c : Int32) (M : Mem) : fX4_isLetter FU c M = some (b01 (isL c = true), M) := by
  unfold fX4_isLetter isL
  by_cases z : c < 97
  · rw [if_pos z, b01_neg (by simp [z])]; rfl
  · rw [if_neg z]
    by_cases y : 122 < c
    · rw [if_pos y, b01_neg (by simp [y])]; rfl
    · rw [if_neg y, b01_pos (by simp [z, y])]; rfl
theorem c_digit (c : Int32) (M : Mem) : fX4_isDigit FU c M = some (b01 (isD c = true), M) := by
  unfold fX4_isDigit isD
  by_cases z : c < 48
  · rw [if_pos z, b01_neg (by simp [z])]; rfl
  · rw [if_neg z]
    by_cases y : 57 < c
    · rw [if_pos y, b01_neg (by simp [y])]; rfl
    · rw [if_neg y, b01_pos (by simp [z, y])]; rfl
theorem c_sign (c : Int32) (M : Mem) : fX4_isSign FU c M = some (b01 (isS c = true), M) := by
  unfold fX4_isSign isS fX4_isSign_b48
  by_cases z1 : c = 40
  · subst z1; rfl
  · rw [if_neg z1]
    by_cases z2 : c = 41
    · subst z2; rfl
    · rw [if_neg z2]
      by_cases z3 : c = 59
      · subst z3; rfl
      · rw [if_neg z3]
        by_cases z4 : c = 43
        · subst z4; rfl
        · rw [if_neg z4]
          by_cases z5 : c = 45
          · subst z5; rfl
          · rw [if_neg z5]
            by_cases z6 : c = 42
            · subst z6; rfl
            · rw [if_neg z6]
              by_cases z7 : c = 60
              · subst z7; rfl
              · rw [if_neg z7]
                by_cases z8 : c = 61
                · subst z8; rfl
                · rw [if_pos z8, b01_neg (by simp [z1, z2, z3, z4, z5, z6, z7, z8])]; rfl
theorem c_byteAt {r k j : Nat} (h : RdC b n r k I) (hj : j < n) : fX4_byteAt FU 48 (nI j) (I, R0 pl nm hd (some r)) = some (b j, (I, R0 pl nm hd (some r))) := by
  obtain ⟨h1, h2, h3, h4, h5, h6, h7⟩ := h
  unfold fX4_byteAt
  rw [fIb_48, h4, if_neg (by rw [w_le (by omega) (by omega)]; omega), fRb_48_4, h1 _ _ _ (by omega), w_bind, h5 j hj]
theorem RdC.move {r k k' : Nat} (h : RdC b n r k I) (hk : k' ≤ n) : RdC b n r k' (up2 I 48 6 (nI k')) := by
  obtain ⟨h1, h2, h3, h4, h5, h6, h7⟩ := h
  exact ⟨h1, h2, h3, by rw [up2_i (by decide), h4], fun j hj => by rw [up2_k h2]; exact h5 j hj, by rw [up2_s], hk⟩
theorem RdC.keep {r k : Nat} {I' : Nat → Nat → Int32} (h : RdC b n r k I) (h1 : ∀ q, q ≠ 48 → I' q = I q) (h5 : I' 48 5 = I 48 5) {k' : Nat} (h6 : I' 48 6 = nI k') (hk : k' ≤ n) : RdC b n r k' I' := ⟨h.1, h.2.1, h.2.2.1, by rw [h5, h.2.2.2.1], fun j hj => by rw [h1 r h.2.1]; exact h.2.2.2.2.1 j hj, h6, hk⟩
/-- letters read -/
theorem c_word0 {r : Nat} : ∀ d k I F, k + d = n → d < F → RdC b n r k I → fX4_readWord_L0 FU 48 F (I, R0 pl nm hd (some r)) = fX4_readWord_b38 FU 48 (up2 I 48 6 (nI (rn (fun k => isL (b k)) d k)), R0 pl nm hd (some r)) := by
  intro d
  induction d with
  | zero =>
    intro k I F h1 h2 h
    obtain ⟨G, rfl⟩ : ∃ G, F = G + 1 := ⟨F - 1, by omega⟩
    have n120 := h.2.2.1
    have e : up2 I 48 6 (nI k) = I := by
      funext q
      by_cases z : q = 48
      · subst z
        rw [up2_eq]
        funext j
        unfold va_up
        by_cases y : j = 6
        · rw [if_pos y, y, h.2.2.2.2.2.1]
        · rw [if_neg y]
      · rw [up2_ne z]
    show _ = fX4_readWord_b38 FU 48 (up2 I 48 6 (nI k), _)
    rw [e, fX4_readWord_L0, fIb_48, h.2.2.2.2.2.1, fIb_48, h.2.2.2.1, if_pos (by rw [w_le (by omega) (by omega)]; omega)]
  | succ d ih =>
    intro k I F h1 h2 h
    obtain ⟨G, rfl⟩ : ∃ G, F = G + 1 := ⟨F - 1, by omega⟩
    have n120 := h.2.2.1
    have db := c_byteAt (FU := FU) (pl := pl) (nm := nm) (hd := hd) h (j := k) (by omega)
    have e : up2 I 48 6 (nI k) = I := by
      funext q
      by_cases z : q = 48
      · subst z
        rw [up2_eq]
        funext j
        unfold va_up
        by_cases y : j = 6
        · rw [if_pos y, y, h.2.2.2.2.2.1]
        · rw [if_neg y]
      · rw [up2_ne z]
    rw [fX4_readWord_L0, fIb_48, h.2.2.2.2.2.1, fIb_48, h.2.2.2.1, if_neg (by rw [w_le (by omega) (by omega)]; omega), fIb_48, h.2.2.2.2.2.1, show rc 4 (some 48) = some 48 from rfl, w_bind, dn db, dn (c_letter _ _)]
    show _ = fX4_readWord_b38 FU 48 (up2 I 48 6 (nI (if isL (b k) = true then rn (fun k => isL (b k)) d (k + 1) else k)), _)
    by_cases z : isL (b k) = true
    · rw [b01_pos z, if_neg (by decide), fIb_48, h.2.2.2.2.2.1, li_1, nI_add, pIb_48, if_pos z, ih (k + 1) (up2 I 48 6 (nI (k + 1))) G (by omega) (by omega) (h.move (by omega))]
      have e2 : ∀ x y : Int32, up2 (up2 I 48 6 x) 48 6 y = up2 I 48 6 y := by
        intro x y
        funext q
        by_cases z : q = 48
        · subst z
          rw [up2_eq, up2_eq, up2_eq]
          funext j
          unfold va_up
          split <;> rfl
        · rw [up2_ne z, up2_ne z, up2_ne z]
      rw [e2]
    · rw [b01_neg z, if_pos (by decide), if_neg z, e]
/-- one word of the list held against the letters -/
theorem c_oneWord {r k s L i kk : Nat} {l : List Nat} (h : RdC b n r k I) (hs : I 48 8 = nI s) (hL : s + L ≤ n) (hkk : kk + l.length < 60) (hl : l.length ≤ 8) (hi : i < 20) (hw : ∀ j, j < l.length → txA 0 (nI (kk + j)) = some (nI (l.getD j 0)) ∧ l.getD j 0 ≠ 32 ∧ l.getD j 0 < 200) (hw2 : txA 0 (nI (kk + l.length)) = some 32) : ∀ F, fX4_readWord_L64 FU 48 (nI L) (F + l.length + 1) (nI i) (nI 0) (nI 1) (nI kk) (I, R0 pl nm hd (some r)) = fX4_readWord_L64 FU 48 (nI L) F (nI (i + 1)) (nI 0) (nI 1) (nI (kk + l.length + 1)) (if wIs b s L l = true then up2 I 48 7 (nI i) else I, R0 pl nm hd (some r)) := by
  have n120 := h.2.2.1
  have lp : ∀ d m F, m + d = l.length → fX4_readWord_L64 FU 48 (nI L) (F + d) (nI i) (nI m) (b01 ((mch b s l m && decide (m ≤ L)) = true)) (nI (kk + m)) (I, R0 pl nm hd (some r)) = fX4_readWord_L64 FU 48 (nI L) F (nI i) (nI l.length) (b01 ((mch b s l l.length && decide (l.length ≤ L)) = true)) (nI (kk + l.length)) (I, R0 pl nm hd (some r)) := by
    intro d
    induction d with
    | zero =>
      intro m F hm
      have e : m = l.length := by omega
      subst e
      rfl
    | succ d ih =>
      intro m F hm
      obtain ⟨w1, w2, w3⟩ := hw m (by omega)
      rw [show F + (d + 1) = (F + d) + 1 by omega, fX4_readWord_L64, if_neg (by
        show ¬ (60 : Int32) ≤ nI (kk + m)
        rw [li_60, w_le (by omega) (by omega)]; omega), w1, w_bind, if_neg (by rw [li_32, w_eq (by omega) (by omega)]; exact w2)]
      rw [← ih (m + 1) F (by omega)]
      unfold fX4_readWord_b119 fX4_readWord_b120 fX4_readWord_b151
      rw [li_1, nI_add, nI_add, ← li_1]
      have st : mch b s l (m + 1) = (mch b s l m && decide (b (s + m) = nI (l.getD m 0))) := rfl
      by_cases z : mch b s l m = true
      · by_cases y : m < L
        · have c1 : (mch b s l m && decide (m ≤ L)) = true := by simp [z]; omega
          have db := c_byteAt (FU := FU) (pl := pl) (nm := nm) (hd := hd) h (j := s + m) (by omega)
          rw [b01_pos c1, if_neg (by decide), if_neg (by rw [w_le (by omega) (by omega)]; omega), fIb_48, hs, nI_add, show rc 4 (some 48) = some 48 from rfl, w_bind, dn db]
          by_cases x : b (s + m) = nI (l.getD m 0)
          · have c2 : (mch b s l (m + 1) && decide (m + 1 ≤ L)) = true := by rw [st]; simp [z, x]; omega
            rw [if_neg (fun q => q x), b01_pos c2]
            rfl
          · have c2 : ¬ (mch b s l (m + 1) && decide (m + 1 ≤ L)) = true := by
              rw [st, decide_eq_false x, Bool.and_false, Bool.false_and]
              exact Bool.false_ne_true
            rw [if_pos x, b01_neg c2]
            rfl
        · have c2 : ¬ (mch b s l (m + 1) && decide (m + 1 ≤ L)) = true := by simp; omega
          rw [b01_neg c2]
          by_cases w : m ≤ L
          · have c1 : (mch b s l m && decide (m ≤ L)) = true := by simp [z, w]
            rw [b01_pos c1, if_neg (by decide), if_pos (by rw [w_le (by omega) (by omega)]; omega)]
            rfl
          · have c1 : ¬ (mch b s l m && decide (m ≤ L)) = true := by simp [w]
            rw [b01_neg c1, if_pos (by decide)]
            rfl
      · have c1 : ¬ (mch b s l m && decide (m ≤ L)) = true := by simp [z]
        have c2 : ¬ (mch b s l (m + 1) && decide (m + 1 ≤ L)) = true := by rw [st]; simp [z]
        rw [b01_neg c1, b01_neg c2, if_pos (by decide)]
        rfl
  intro F
  have l0 := lp l.length 0 (F + 1) (by omega)
  have e0 : b01 ((mch b s l 0 && decide (0 ≤ L)) = true) = nI 1 := by
    show b01 ((true && decide (0 ≤ L)) = true) = nI 1
    rw [b01_pos (by simp)]
  rw [e0] at l0
  rw [show F + l.length + 1 = F + 1 + l.length by omega]
  have l0 : fX4_readWord_L64 FU 48 (nI L) (F + 1 + l.length) (nI i) (nI 0) (nI 1) (nI kk) (I, R0 pl nm hd (some r)) = _ := l0
  rw [l0, fX4_readWord_L64, if_neg (by
    show ¬ (60 : Int32) ≤ nI (kk + l.length)
    rw [li_60, w_le (by omega) (by omega)]; omega), hw2, w_bind, if_pos rfl]
  unfold fX4_readWord_b143 fX4_readWord_b151
  rw [li_1, nI_add, nI_add, li_0]
  by_cases z : (mch b s l l.length && decide (l.length ≤ L)) = true
  · rw [b01_pos z, if_neg (by decide)]
    by_cases y : L = l.length
    · have c : wIs b s L l = true := by
        unfold wIs
        simp at z
        simp [y, z.1]
      rw [if_neg (fun q => q (by rw [y])), pIb_48, if_pos c]
    · have c : ¬ wIs b s L l = true := by
        unfold wIs
        simp [y]
      rw [if_pos (by rw [w_eq (by omega) (by omega)]; omega), if_neg c]
  · have c : ¬ wIs b s L l = true := by
      unfold wIs
      intro q
      simp at q
      exact z (by simp [q.2, q.1])
    rw [b01_neg z, if_pos (by decide), if_neg c]
end Tok1
