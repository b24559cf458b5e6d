/-! texts: the stream of tokens; what the reference does with one -/
section Par1
variable {FU : Nat} {I J : Nat → Nat → Int32} {pl nm hd rd : Option Nat} {b : Nat → Int32} {n : Nat}
def ps (b : Nat → Int32) (n : Nat) : Nat → Nat
  | 0 => 0
  | i + 1 => tkE0 b n (tkS b n (ps b n i))
def sS (b : Nat → Int32) (n i : Nat) : Nat := tkS b n (ps b n i)
def cT (b : Nat → Int32) (n i : Nat) : Int32 := tkC0 b n (sS b n i)
def vT (b : Nat → Int32) (n i : Nat) : Int32 := nmV b (sS b n i) (ps b n (i + 1) - sS b n i)
theorem tkS_le {k : Nat} (h : k ≤ n) : k ≤ tkS b n k ∧ tkS b n k ≤ n := by
  have := rn_le (fun k => isB (b k)) (n - k) k
  unfold tkS
  omega
theorem tkE_le {s : Nat} (h : s ≤ n) : s ≤ tkE0 b n s ∧ tkE0 b n s ≤ n := by
  have h1 := rn_le (fun k => isL (b k)) (n - s) s
  have h2 := rn_le (fun k => isD (b k)) (n - s) s
  unfold tkE0 tkL tkD
  split
  · omega
  · split
    · omega
    · split <;> omega
theorem ps_le (i : Nat) : ps b n i ≤ n := by
  induction i with
  | zero => exact Nat.zero_le n
  | succ i ih => exact (tkE_le (tkS_le ih).2).2
theorem wd_code (b : Nat → Int32) (s L : Nat) : wdF b s L wds 0 13 < 11 ∨ wdF b s L wds 0 13 = 13 := by
  rcases wd_cases b s L with ⟨i, hi, e, _, _⟩ | ⟨e, _⟩
  · exact Or.inl (by omega)
  · exact Or.inr e
theorem isS_iff {c : Int32} : isS c = true ↔ (c = 40 ∨ c = 41 ∨ c = 59 ∨ c = 43 ∨ c = 45 ∨ c = 42 ∨ c = 60 ∨ c = 61) := by
  unfold isS
  exact decide_eq_true_iff
theorem isS_ge {c : Int32} (h : isS c = true) : ∃ k, c = nI k ∧ 40 ≤ k ∧ k ≤ 61 := by
  rcases isS_iff.mp h with e | e | e | e | e | e | e | e
  · exact ⟨40, e, by decide, by decide⟩
  · exact ⟨41, e, by decide, by decide⟩
  · exact ⟨59, e, by decide, by decide⟩
  · exact ⟨43, e, by decide, by decide⟩
  · exact ⟨45, e, by decide, by decide⟩
  · exact ⟨42, e, by decide, by decide⟩
  · exact ⟨60, e, by decide, by decide⟩
  · exact ⟨61, e, by decide, by decide⟩
/-- every code is small -/
theorem tkC_lt (s : Nat) : ∃ k, tkC0 b n s = nI k ∧ k < 62 ∧ (k = 12 ↔ n ≤ s) := by
  unfold tkC0
  by_cases z : n ≤ s
  · rw [if_pos z]
    exact ⟨12, rfl, by decide, ⟨fun _ => z, fun _ => rfl⟩⟩
  · rw [if_neg z]
    by_cases l : isL (b s) = true
    · rw [if_pos l]
      have := wd_code b s (tkL b n s - s)
      exact ⟨_, rfl, by omega, ⟨fun h => by omega, fun h => absurd h z⟩⟩
    · rw [if_neg l]
      by_cases d : isD (b s) = true
      · rw [if_pos d]
        split
        · exact ⟨11, rfl, by decide, ⟨fun h => absurd h (by decide), fun h => absurd h z⟩⟩
        · exact ⟨13, rfl, by decide, ⟨fun h => absurd h (by decide), fun h => absurd h z⟩⟩
      · rw [if_neg d]
        by_cases g : isS (b s) = true
        · rw [if_pos g]
          obtain ⟨k, e, k1, k2⟩ := isS_ge g
          exact ⟨k, e, by omega, ⟨fun h => by omega, fun h => absurd h z⟩⟩
        · rw [if_neg g]
          exact ⟨13, rfl, by decide, ⟨fun h => absurd h (by decide), fun h => absurd h z⟩⟩
theorem cT_end {i : Nat} : cT b n i = nI 12 ↔ n ≤ sS b n i := by
  obtain ⟨k, e, k1, k2⟩ := tkC_lt (b := b) (n := n) (sS b n i)
  unfold cT
  rw [e, nI_eq (by omega) (by decide)]
  exact k2
theorem ps_grow {i : Nat} (h : cT b n i ≠ nI 12) : ps b n i < ps b n (i + 1) := by
  have h1 : ¬ n ≤ sS b n i := fun e => h (cT_end.mpr e)
  have h2 := (tkS_le (b := b) (ps_le (b := b) (n := n) i)).1
  have h2 : ps b n i ≤ sS b n i := h2
  show ps b n i < tkE0 b n (sS b n i)
  generalize sS b n i = s at h1 h2
  have st : ∀ p : Nat → Bool, p s = true → s + 1 ≤ rn p (n - s) s := by
    intro p hp
    obtain ⟨d, hd'⟩ : ∃ d, n - s = d + 1 := ⟨n - s - 1, by omega⟩
    rw [hd']
    show s + 1 ≤ (if p s = true then rn p d (s + 1) else s)
    rw [if_pos hp]
    exact (rn_le p d (s + 1)).1
  unfold tkE0
  rw [if_neg h1]
  by_cases l : isL (b s) = true
  · rw [if_pos l]
    have := st (fun k => isL (b k)) l
    unfold tkL
    omega
  · rw [if_neg l]
    by_cases d : isD (b s) = true
    · rw [if_pos d]
      have := st (fun k => isD (b k)) d
      unfold tkD
      omega
    · rw [if_neg d]
      omega
theorem end_stay {i : Nat} (h : cT b n i = nI 12) : cT b n (i + 1) = nI 12 := by
  rw [cT_end] at h ⊢
  have h1 : sS b n i ≤ tkE0 b n (sS b n i) := (tkE_le (tkS_le (ps_le i)).2).1
  have h2 := (tkS_le (b := b) (ps_le (b := b) (n := n) (i + 1))).1
  have h2 : ps b n (i + 1) ≤ sS b n (i + 1) := h2
  have h3 : ps b n (i + 1) = tkE0 b n (sS b n i) := rfl
  omega
theorem tok_lt {i : Nat} (h : cT b n i ≠ nI 12) : i < n := by
  have all : ∀ d i, cT b n (i + d) ≠ nI 12 → cT b n i ≠ nI 12 := by
    intro d
    induction d with
    | zero => exact fun _ h => h
    | succ d ih => exact fun i h => ih i (fun e => h (end_stay e))
  have gr : ∀ j, j ≤ i + 1 → j ≤ ps b n j := by
    intro j
    induction j with
    | zero => exact fun _ => Nat.zero_le _
    | succ j ih =>
      intro hj
      have q := ih (by omega)
      have := ps_grow (all (i - j) j (by rw [show j + (i - j) = i by omega]; exact h))
      omega
  have := gr (i + 1) (Nat.le_refl _)
  have := ps_le (b := b) (n := n) (i + 1)
  omega
/-- the reference at token i -/
def TkJ (b : Nat → Int32) (n i : Nat) (J : Nat → Nat → Int32) : Prop := RdR b n (ps b n (i + 1)) J ∧ TkR (cT b n i) (vT b n i) (J 60 33) (J 60 34) ∧ J 60 35 = nI (sS b n i)
theorem r_tok (hF : 99999999 ≤ FU) {i : Nat} (h : TkJ b n i J) : ∃ J', fX9_next FU 60 (J, R0 pl nm hd rd) = some (J', R0 pl nm hd rd) ∧ TkJ b n (i + 1) J' ∧ (∀ q, q ≠ 60 → J' q = J q) ∧ (∀ j, j ≠ 32 → j ≠ 33 → j ≠ 34 → j ≠ 35 → J' 60 j = J 60 j) := by
  obtain ⟨J', a1, a2, a3, a4, a5, a6⟩ := r_next (FU := FU) (pl := pl) (nm := nm) (hd := hd) (rd := rd) hF h.1
  exact ⟨J', a1, ⟨a2, a3, a4⟩, a5, a6⟩
/-- the class at token i -/
def TkI (b : Nat → Int32) (n r i : Nat) (I : Nat → Nat → Int32) : Prop := RdC b n r (ps b n (i + 1)) I ∧ I 48 7 = cT b n i ∧ I 48 8 = nI (sS b n i) ∧ (cT b n i = nI 11 → I 48 9 = vT b n i)
theorem c_tok (hF : 99999999 ≤ FU) {r i : Nat} (h : TkI b n r i I) : ∃ I', fX4_next FU 48 (I, R0 pl nm hd (some r)) = some (I', R0 pl nm hd (some r)) ∧ TkI b n r (i + 1) I' ∧ (∀ q, q ≠ 48 → I' q = I q) ∧ (∀ j, j ≠ 6 → j ≠ 7 → j ≠ 8 → j ≠ 9 → I' 48 j = I 48 j) := by
  obtain ⟨I', a1, a2, a3, a4, a5, a6, a7⟩ := c_next (FU := FU) (pl := pl) (nm := nm) (hd := hd) hF h.1
  exact ⟨I', a1, ⟨a2, a3, a4, a5⟩, a6, a7⟩
theorem r_isKey {i k : Nat} (hk : k < 5) (h : TkJ b n i J) : fX9_isKey FU 60 (nI k) (J, R0 pl nm hd rd) = some (b01 (cT b n i = nI (6 + k)), (J, R0 pl nm hd rd)) := by
  obtain ⟨_, h, _⟩ := h
  unfold fX9_isKey
  rw [fIb_60]
  rcases h with ⟨e, t⟩ | ⟨e, t, w⟩ | ⟨m, hm, e, t, w⟩ | ⟨m, hm, e, t, w⟩ | ⟨g, t, w⟩ | ⟨e, t⟩
  · rw [t, if_pos (by decide), e, b01_neg (by rw [nI_eq (by omega) (by omega)]; omega)]; rfl
  · rw [t, if_pos (by decide), e, b01_neg (by rw [nI_eq (by omega) (by omega)]; omega)]; rfl
  · rw [t, if_pos (by decide), e, b01_neg (by rw [nI_eq (by omega) (by omega)]; omega)]; rfl
  · rw [t, if_neg (fun q => q rfl), fIb_60, w, e]
    by_cases z : m = k
    · rw [z, if_neg (fun q => q rfl), b01_pos rfl]; rfl
    · rw [if_pos (by rw [w_eq (by omega) (by omega)]; exact z), b01_neg (by rw [nI_eq (by omega) (by omega)]; omega)]; rfl
  · obtain ⟨m, e, m1, m2⟩ := isS_ge g
    rw [t, if_pos (by decide), e, b01_neg (by rw [nI_eq (by omega) (by omega)]; omega)]; rfl
  · rw [t, if_pos (by decide), e, b01_neg (by rw [nI_eq (by omega) (by omega)]; omega)]; rfl
theorem r_isSign {i k : Nat} (hk : 40 ≤ k) (hk2 : k ≤ 61) (h : TkJ b n i J) : fX9_isSign FU 60 (nI k) (J, R0 pl nm hd rd) = some (b01 (cT b n i = nI k), (J, R0 pl nm hd rd)) := by
  obtain ⟨_, h, _⟩ := h
  unfold fX9_isSign
  rw [fIb_60]
  rcases h with ⟨e, t⟩ | ⟨e, t, w⟩ | ⟨m, hm, e, t, w⟩ | ⟨m, hm, e, t, w⟩ | ⟨g, t, w⟩ | ⟨e, t⟩
  · rw [t, if_pos (by decide), e, b01_neg (by rw [nI_eq (by omega) (by omega)]; omega)]; rfl
  · rw [t, if_pos (by decide), e, b01_neg (by rw [nI_eq (by omega) (by omega)]; omega)]; rfl
  · rw [t, if_pos (by decide), e, b01_neg (by rw [nI_eq (by omega) (by omega)]; omega)]; rfl
  · rw [t, if_pos (by decide), e, b01_neg (by rw [nI_eq (by omega) (by omega)]; omega)]; rfl
  · obtain ⟨m, e, m1, m2⟩ := isS_ge g
    rw [t, if_neg (fun q => q rfl), fIb_60, w, e]
    by_cases z : m = k
    · rw [z, if_neg (fun q => q rfl), b01_pos rfl]; rfl
    · rw [if_pos (by rw [w_eq (by omega) (by omega)]; exact z), b01_neg (by rw [nI_eq (by omega) (by omega)]; exact z)]; rfl
  · rw [t, if_pos (by decide), e, b01_neg (by rw [nI_eq (by omega) (by omega)]; omega)]; rfl
/-- which sign or key binds, and how -/
def sgO (c : Int32) : Int32 := if c = nI 8 then mI 1 else if c = nI 9 then mI 2 else if c = nI 60 then mI 4 else if c = nI 61 then mI 5 else if c = nI 43 then mI 6 else if c = nI 45 then mI 7 else if c = nI 42 then mI 8 else nI 0
theorem r_signOf {i : Nat} (h : TkJ b n i J) : fX9_signOf FU 60 (J, R0 pl nm hd rd) = some (sgO (cT b n i), (J, R0 pl nm hd rd)) := by
  have k2 := r_isKey (FU := FU) (pl := pl) (nm := nm) (hd := hd) (rd := rd) (k := 2) (by decide) h
  have k3 := r_isKey (FU := FU) (pl := pl) (nm := nm) (hd := hd) (rd := rd) (k := 3) (by decide) h
  have s60 := r_isSign (FU := FU) (pl := pl) (nm := nm) (hd := hd) (rd := rd) (k := 60) (by decide) (by decide) h
  have s61 := r_isSign (FU := FU) (pl := pl) (nm := nm) (hd := hd) (rd := rd) (k := 61) (by decide) (by decide) h
  have s43 := r_isSign (FU := FU) (pl := pl) (nm := nm) (hd := hd) (rd := rd) (k := 43) (by decide) (by decide) h
  have s45 := r_isSign (FU := FU) (pl := pl) (nm := nm) (hd := hd) (rd := rd) (k := 45) (by decide) (by decide) h
  have s42 := r_isSign (FU := FU) (pl := pl) (nm := nm) (hd := hd) (rd := rd) (k := 42) (by decide) (by decide) h
  unfold fX9_signOf sgO
  rw [show rc 9 (some 60) = some 60 from rfl, w_bind, li_2, dn k2]
  by_cases z : cT b n i = nI (6 + 2)
  · rw [b01_pos z, if_neg (by decide), if_pos z]; rfl
  · rw [b01_neg z, if_pos (by decide), if_neg z, w_bind, li_3, dn k3]
    by_cases z : cT b n i = nI (6 + 3)
    · rw [b01_pos z, if_neg (by decide), if_pos z]; rfl
    · rw [b01_neg z, if_pos (by decide), if_neg z, w_bind, li_60, dn s60]
      by_cases z : cT b n i = nI 60
      · rw [b01_pos z, if_neg (by decide), if_pos z]; rfl
      · rw [b01_neg z, if_pos (by decide), if_neg z, w_bind, li_61, dn s61]
        by_cases z : cT b n i = nI 61
        · rw [b01_pos z, if_neg (by decide), if_pos z]; rfl
        · rw [b01_neg z, if_pos (by decide), if_neg z, w_bind, li_43, dn s43]
          by_cases z : cT b n i = nI 43
          · rw [b01_pos z, if_neg (by decide), if_pos z]; rfl
          · rw [b01_neg z, if_pos (by decide), if_neg z, w_bind, li_45, dn s45]
            by_cases z : cT b n i = nI 45
            · rw [b01_pos z, if_neg (by decide), if_pos z]; rfl
            · rw [b01_neg z, if_pos (by decide), if_neg z, w_bind, li_42, dn s42]
              by_cases z : cT b n i = nI 42
              · rw [b01_pos z, if_neg (by decide), if_pos z]; rfl
              · rw [b01_neg z, if_pos (by decide), if_neg z]; rfl
/-- how strong it binds -/
def rk (w : Int32) : Nat := if w = mI 1 then 1 else if w = mI 2 then 2 else if w = mI 3 then 3 else if w = mI 4 then 4 else if w = mI 5 then 4 else if w = mI 6 then 5 else if w = mI 7 then 5 else if w = mI 8 then 6 else if w = mI 9 then 7 else 0
theorem r_rank (w : Int32) (M : Mem) : fX9_rank FU 60 w M = some (nI (rk w), M) := by
  unfold fX9_rank rk fX9_rank_b41 fX9_rank_b57
  by_cases z1 : w = mI 1
  · subst z1; rfl
  · by_cases z2 : w = mI 2
    · subst z2; rfl
    · by_cases z3 : w = mI 3
      · subst z3; rfl
      · by_cases z4 : w = mI 4
        · subst z4; rfl
        · by_cases z5 : w = mI 5
          · subst z5; rfl
          · by_cases z6 : w = mI 6
            · subst z6; rfl
            · by_cases z7 : w = mI 7
              · subst z7; rfl
              · by_cases z8 : w = mI 8
                · subst z8; rfl
                · by_cases z9 : w = mI 9
                  · subst z9; rfl
                  · have y1 : ¬ w = (-1 : Int32) := z1
                    have y2 : ¬ w = (-2 : Int32) := z2
                    have y3 : ¬ w = (-3 : Int32) := z3
                    have y4 : ¬ w = (-4 : Int32) := z4
                    have y5 : ¬ w = (-5 : Int32) := z5
                    have y6 : ¬ w = (-6 : Int32) := z6
                    have y7 : ¬ w = (-7 : Int32) := z7
                    have y8 : ¬ w = (-8 : Int32) := z8
                    have y9 : ¬ w = (-9 : Int32) := z9
                    rw [if_neg z1, if_neg z2, if_neg z3, if_neg z4, if_neg z5, if_neg z6, if_neg z7, if_neg z8, if_neg z9, if_pos y1, if_pos y2, if_pos y3, if_neg y4, if_pos y5, if_neg y6, if_pos y7, if_pos y8, if_pos y9]
                    rfl
theorem rk_le (w : Int32) : rk w ≤ 7 := by
  unfold rk
  repeat' split
  all_goals omega
end Par1
