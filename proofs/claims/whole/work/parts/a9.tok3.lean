/-! texts: tokens, the reference -/
section Tok3
variable {FU : Nat} {I J : Nat → Nat → Int32} {pl nm hd rd : Option Nat} {b : Nat → Int32} {n : Nat}
theorem lg_eq (x y : Int64) : lg_cmp x y = 0 ↔ x = y := by
  unfold lg_cmp
  by_cases z : x = y
  · subst z
    have : ¬ x > x := Int64.lt_irrefl
    rw [if_neg this, if_pos rfl]
    exact ⟨fun _ => rfl, fun _ => rfl⟩
  · constructor
    · intro h
      by_cases g : x > y
      · rw [if_pos g] at h
        exact absurd h (by decide)
      · rw [if_neg g, if_neg z] at h
        exact absurd h (by decide)
    · exact fun h => absurd h z
/-- the reference over its tape, at k -/
def RdR (b : Nat → Int32) (n k : Nat) (J : Nat → Nat → Int32) : Prop := n ≤ 120 ∧ J 60 27 = nI n ∧ (∀ j, j < n → J 76 j = b j) ∧ J 60 32 = nI k ∧ k ≤ n
theorem RdR.keep {k : Nat} {J' : Nat → Nat → Int32} (h : RdR b n k J) (h1 : J' 76 = J 76) (h2 : J' 60 27 = J 60 27) {k' : Nat} (h3 : J' 60 32 = nI k') (hk : k' ≤ n) : RdR b n k' J' := ⟨h.1, by rw [h2, h.2.1], fun j hj => by rw [h1]; exact h.2.2.1 j hj, h3, hk⟩
theorem r_letter (c : Int32) (M : Mem) : fX9_isLetter FU 60 c M = some (b01 (isL c = true), M) := c_letter (FU := FU) c M
theorem r_digit (c : Int32) (M : Mem) : fX9_isDigit FU 60 c M = some (b01 (isD c = true), M) := c_digit (FU := FU) c M
theorem toI64_inj {x y : Int32} (h : x.toInt64 = y.toInt64) : x = y := by
  have := congrArg Int64.toInt32 h
  rwa [Int32.toInt32_toInt64, Int32.toInt32_toInt64] at this
theorem r_isWordL {k s : Nat} {l : List Nat} {lf : Nat → Int64} (h0 : lf 0 = 0) (hf : ∀ q, q < l.length → lf (q + 1) &&& 31 = (nI (l.getD q 0) - (96 : Int32)).toInt64 ∧ lf (q + 1) >>> ((5 : Int32).toInt64 &&& 63) = lf q ∧ ¬ lg_cmp (lf (q + 1)) 0 ≤ 0) (h : RdR b n k J) (hs : J 60 35 = nI s) : ∀ q t F, q ≤ l.length → s + t ≤ n → q < F → fX9_isWord_L10 FU 60 F (lf q) (nI (s + t) - nI 1) (J, R0 pl nm hd rd) = some (b01 (q = t ∧ mch b s l q = true), (J, R0 pl nm hd rd)) := by
  have n120 := h.1
  have nz : ∀ q, q < l.length → ¬ lf (q + 1) = 0 := by
    intro q hq e
    have := (hf q hq).2.2
    rw [e] at this
    exact this (by decide)
  intro q
  induction q with
  | zero =>
    intro t F hq ht hF
    obtain ⟨G, rfl⟩ : ∃ G, F = G + 1 := ⟨F - 1, by omega⟩
    have e55 : fX9_isWord_b55 FU 60 (lf 0) (nI (s + t) - nI 1) (J, R0 pl nm hd rd) = some (b01 (0 = t ∧ mch b s l 0 = true), (J, R0 pl nm hd rd)) := by
      unfold fX9_isWord_b55
      rw [if_neg (fun q => q ((lg_eq _ _).mpr h0)), fIb_60, hs, li_1]
      by_cases z : t = 0
      · subst z
        rw [if_neg (fun q => q rfl), b01_pos ⟨rfl, rfl⟩]
      · rw [if_pos, b01_neg (fun q => z q.1.symm)]
        · rfl
        · intro e
          have e2 : nI (s + t) = nI s := by
            have := congrArg (fun x => x + nI 1) e
            simpa [Int32.sub_add_cancel] using this
          have := (nI_eq (by omega) (by omega)).mp e2
          omega
    rw [fX9_isWord_L10, fIb_60, hs]
    by_cases z : nI (s + t) - nI 1 < nI s
    · rw [if_pos z]
      exact e55
    · rw [if_neg z, h0, if_pos (by decide), ← h0]
      exact e55
  | succ q ih =>
    intro t F hq ht hF
    obtain ⟨G, rfl⟩ : ∃ G, F = G + 1 := ⟨F - 1, by omega⟩
    obtain ⟨f1, f2, f3⟩ := hf q (by omega)
    have e55 : ∀ x, fX9_isWord_b55 FU 60 (lf (q + 1)) x (J, R0 pl nm hd rd) = some (nI 0, (J, R0 pl nm hd rd)) := by
      intro x
      unfold fX9_isWord_b55
      rw [if_pos (fun e => nz q (by omega) ((lg_eq _ _).mp e))]
      rfl
    rw [fX9_isWord_L10, fIb_60, hs]
    have c0 : (nI (s + t) - nI 1 < nI s) = (s + t ≤ s) := w_s1lt (by omega) (by omega)
    by_cases z : t = 0
    · rw [if_pos (by rw [c0]; omega), e55, b01_neg (fun w => by omega)]
    · rw [if_neg (by rw [c0]; omega), if_neg f3, fRb_60_26, w_sub (by omega), aIb_76 (by omega), h.2.2.1 _ (by omega), f1, f2]
      have st : mch b s l (q + 1) = (mch b s l q && decide (b (s + q) = nI (l.getD q 0))) := rfl
      by_cases y : b (s + t - 1) = nI (l.getD q 0)
      · rw [if_neg (fun w => w ((lg_eq _ _).mpr (by rw [y])))]
        have back : nI (s + t - 1) + (-1 : Int32) = nI (s + (t - 1)) - nI 1 := by
          rw [show s + t - 1 = s + (t - 1) by omega, Int32.sub_eq_add_neg]
          rfl
        rw [back, ih (t - 1) G (by omega) (by omega) (by omega)]
        have pe : (q = t - 1 ∧ mch b s l q = true) ↔ (q + 1 = t ∧ mch b s l (q + 1) = true) := by
          rw [st, Bool.and_eq_true, decide_eq_true_eq]
          constructor
          · rintro ⟨w1, w2⟩
            exact ⟨by omega, w2, by rw [show s + q = s + t - 1 by omega]; exact y⟩
          · rintro ⟨w1, w2, _⟩
            exact ⟨by omega, w2⟩
        by_cases w : q = t - 1 ∧ mch b s l q = true
        · rw [b01_pos w, b01_pos (pe.mp w)]
        · rw [b01_neg w, b01_neg (fun v => w (pe.mpr v))]
      · rw [if_pos (fun e => y (by
          have e := toI64_inj ((lg_eq _ _).mp e)
          have := congrArg (fun x => x + (96 : Int32)) e
          simp only [Int32.sub_add_cancel] at this
          exact this.symm)), e55, b01_neg]
        rintro ⟨w1, w2⟩
        rw [st, Bool.and_eq_true, decide_eq_true_eq] at w2
        exact y (by rw [show s + t - 1 = s + q by omega]; exact w2.2)
/-- letters of a word, packed -/
def lfW (W : Int64) (m q : Nat) : Int64 := if q = 0 then 0 else W >>> Int64.ofNat (5 * (m - q))
theorem r_isWord (hF : 99999999 ≤ FU) {s L : Nat} {l : List Nat} {W : Int64} (hf : ∀ q, q < l.length → lfW W l.length (q + 1) &&& 31 = (nI (l.getD q 0) - (96 : Int32)).toInt64 ∧ lfW W l.length (q + 1) >>> ((5 : Int32).toInt64 &&& 63) = lfW W l.length q ∧ ¬ lg_cmp (lfW W l.length (q + 1)) 0 ≤ 0) (hW : lfW W l.length l.length = W) (hl : l.length ≤ 8) (h : RdR b n (s + L) J) (hs : J 60 35 = nI s) : fX9_isWord FU 60 W (J, R0 pl nm hd rd) = some (b01 (wIs b s L l = true), (J, R0 pl nm hd rd)) := by
  have := r_isWordL (FU := FU) (pl := pl) (nm := nm) (hd := hd) (rd := rd) (l := l) (lf := lfW W l.length) rfl hf h hs l.length L FU (Nat.le_refl _) h.2.2.2.2 (by omega)
  rw [hW] at this
  unfold fX9_isWord
  rw [fIb_60, h.2.2.2.1, li_1, this]
  have pe : (l.length = L ∧ mch b s l l.length = true) ↔ wIs b s L l = true := by
    unfold wIs
    rw [Bool.and_eq_true, decide_eq_true_eq]
    exact ⟨fun w => ⟨w.1.symm, w.2⟩, fun w => ⟨w.1.symm, w.2⟩⟩
  by_cases w : l.length = L ∧ mch b s l l.length = true
  · rw [b01_pos w, b01_pos (pe.mp w)]
  · rw [b01_neg w, b01_neg (fun v => w (pe.mpr v))]
/-- which name, or which key -/
theorem wd_find {s L : Nat} : ∀ (ls : List (List Nat)) i t, (∀ l, l ∈ ls → wIs b s L l = false) → wdF b s L ls i t = t := by
  intro ls
  induction ls with
  | nil => exact fun _ _ _ => rfl
  | cons l ls ih =>
    intro i t h
    show wdF b s L ls (i + 1) (if wIs b s L l = true then i else t) = t
    rw [if_neg (by rw [h l (List.mem_cons_self ..)]; exact Bool.false_ne_true)]
    exact ih (i + 1) t (fun l' hl' => h l' (List.mem_cons_of_mem _ hl'))
/-- two words can't both stand there -/
theorem wIs_two {s L : Nat} {l m : List Nat} (j : Nat) (h1 : wIs b s L l = true) (hj : j < l.length) (hne : l.getD j 0 ≠ m.getD j 0) (hl : l.getD j 0 < 200 ∧ m.getD j 0 < 200) : wIs b s L m = false := by
  have at' : ∀ (w : List Nat) k, mch b s w k = true → ∀ j, j < k → b (s + j) = nI (w.getD j 0) := by
    intro w k
    induction k with
    | zero => intro _ j hj; omega
    | succ k ih =>
      intro h j hj
      have h : (mch b s w k && decide (b (s + k) = nI (w.getD k 0))) = true := h
      rw [Bool.and_eq_true, decide_eq_true_eq] at h
      by_cases z : j = k
      · rw [z]; exact h.2
      · exact ih h.1 j (by omega)
  cases e : wIs b s L m with
  | false => rfl
  | true =>
    exfalso
    unfold wIs at h1 e
    rw [Bool.and_eq_true, decide_eq_true_eq] at h1 e
    have q1 := at' l _ h1.2 j hj
    have q2 := at' m _ e.2 j (by omega)
    rw [q1] at q2
    exact hne ((nI_eq (by omega) (by omega)).mp q2)
end Tok3
