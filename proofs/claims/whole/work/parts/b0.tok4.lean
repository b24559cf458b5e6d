/-! texts: tokens, the reference's next -/
section Tok4
variable {FU : Nat} {I J : Nat → Nat → Int32} {pl nm hd rd : Option Nat} {b : Nat → Int32} {n : Nat}
theorem wIs_eq {s L : Nat} {l m : List Nat} (h1 : wIs b s L l = true) (h2 : wIs b s L m = true) (hl : ∀ j, j < l.length → l.getD j 0 < 200) (hm : ∀ j, j < m.length → m.getD j 0 < 200) : l = m := by
  have e : l.length = m.length := by
    unfold wIs at h1 h2
    rw [Bool.and_eq_true, decide_eq_true_eq] at h1 h2
    omega
  apply List.ext_getElem e
  intro j j1 j2
  apply Classical.byContradiction
  intro ne
  have g1 : l.getD j 0 = l[j] := by simp [List.getD, j1]
  have g2 : m.getD j 0 = m[j] := by simp [List.getD, j2]
  have := wIs_two (m := m) j h1 j1 (by rw [g1, g2]; exact ne) ⟨hl j j1, hm j j2⟩
  rw [h2] at this
  cases this
theorem wd_at {s L : Nat} : ∀ (ls : List (List Nat)) i t p, p < ls.length → wIs b s L (ls.getD p []) = true → (∀ q, p < q → q < ls.length → wIs b s L (ls.getD q []) = false) → wdF b s L ls i t = i + p := by
  intro ls
  induction ls with
  | nil => intro i t p hp; exact absurd hp (Nat.not_lt_zero p)
  | cons l ls ih =>
    intro i t p hp h1 h2
    show wdF b s L ls (i + 1) (if wIs b s L l = true then i else t) = i + p
    cases p with
    | zero =>
      have h1 : wIs b s L l = true := h1
      rw [if_pos h1]
      apply wd_find
      intro m hm
      obtain ⟨q, hq, e⟩ := List.mem_iff_getElem.mp hm
      have := h2 (q + 1) (by omega) (by show q + 1 < ls.length + 1; omega)
      have g : (l :: ls).getD (q + 1) [] = ls[q] := by simp [List.getD, hq]
      rw [g, e] at this
      exact this
    | succ p =>
      have := ih (i + 1) (if wIs b s L l = true then i else t) p (by have : p + 1 < ls.length + 1 := hp; omega) h1 (fun q q1 q2 => h2 (q + 1) (by omega) (by show q + 1 < ls.length + 1; omega))
      rw [this]
      omega
theorem wds_ne : ∀ i, i < 11 → ∀ j, j < 11 → i ≠ j → wds.getD i [] ≠ wds.getD j [] := by decide +kernel
theorem wds_b : ∀ i, i < 11 → ∀ j, j < (wds.getD i []).length → (wds.getD i []).getD j 0 < 200 := by decide +kernel
theorem wd_cases (b : Nat → Int32) (s L : Nat) : (∃ i, i < 11 ∧ wdF b s L wds 0 13 = i ∧ wIs b s L (wds.getD i []) = true ∧ ∀ j, j < 11 → j ≠ i → wIs b s L (wds.getD j []) = false) ∨ (wdF b s L wds 0 13 = 13 ∧ ∀ j, j < 11 → wIs b s L (wds.getD j []) = false) := by
  by_cases h : ∃ i, i < 11 ∧ wIs b s L (wds.getD i []) = true
  · obtain ⟨i, hi, h⟩ := h
    have ot : ∀ j, j < 11 → j ≠ i → wIs b s L (wds.getD j []) = false := by
      intro j hj ne
      cases e : wIs b s L (wds.getD j []) with
      | false => rfl
      | true => exact absurd (wIs_eq e h (wds_b j hj) (wds_b i hi)) (wds_ne j hj i hi ne)
    refine Or.inl ⟨i, hi, ?_, h, ot⟩
    have := wd_at (b := b) (s := s) (L := L) wds 0 13 i hi h (fun q q1 q2 => ot q q2 (by omega))
    rw [this]
    omega
  · have no : ∀ j, j < 11 → wIs b s L (wds.getD j []) = false := by
      intro j hj
      cases e : wIs b s L (wds.getD j []) with
      | false => rfl
      | true => exact absurd ⟨j, hj, e⟩ h
    refine Or.inr ⟨wd_find wds 0 13 (fun l hl => ?_), no⟩
    obtain ⟨q, hq, e⟩ := List.mem_iff_getElem.mp hl
    have := no q hq
    have g : wds.getD q [] = wds[q] := by simp [List.getD, hq]
    rw [g, e] at this
    exact this
/-- the class's code, as the reference holds it; w: a number's value -/
def TkR (c v t w : Int32) : Prop := (c = nI 12 ∧ t = nI 0) ∨ (c = nI 11 ∧ t = nI 1 ∧ w = v) ∨ (∃ k, k < 6 ∧ c = nI k ∧ t = nI 2 ∧ w = nI k) ∨ (∃ k, k < 5 ∧ c = nI (6 + k) ∧ t = nI 3 ∧ w = nI k) ∨ (isS c = true ∧ t = nI 4 ∧ w = c) ∨ (c = nI 13 ∧ t = nI 5)
theorem r_w0 (hF : 99999999 ≤ FU) {s L : Nat} (h : RdR b n (s + L) J) (hs : J 60 35 = nI s) : fX9_isWord FU 60 (24046 : Int64) (J, R0 pl nm hd rd) = some (b01 (wIs b s L (wds.getD 0 []) = true), (J, R0 pl nm hd rd)) := r_isWord (FU := FU) (pl := pl) (nm := nm) (hd := hd) (rd := rd) hF (l := [119, 111, 110]) (W := 24046) (by decide +kernel) (by decide +kernel) (by decide) h hs
theorem r_w1 (hF : 99999999 ≤ FU) {s L : Nat} (h : RdR b n (s + L) J) (hs : J 60 35 = nI s) : fX9_isWord FU 60 (1420 : Int64) (J, R0 pl nm hd rd) = some (b01 (wIs b s L (wds.getD 1 []) = true), (J, R0 pl nm hd rd)) := r_isWord (FU := FU) (pl := pl) (nm := nm) (hd := hd) (rd := rd) hF (l := [97, 108, 108]) (W := 1420) (by decide +kernel) (by decide +kernel) (by decide) h hs
theorem r_w2 (hF : 99999999 ≤ FU) {s L : Nat} (h : RdR b n (s + L) J) (hs : J 60 35 = nI s) : fX9_isWord FU 60 (13403133556 : Int64) (J, R0 pl nm hd rd) = some (b01 (wIs b s L (wds.getD 2 []) = true), (J, R0 pl nm hd rd)) := r_isWord (FU := FU) (pl := pl) (nm := nm) (hd := hd) (rd := rd) hF (l := [108, 111, 110, 103, 101, 115, 116]) (W := 13403133556) (by decide +kernel) (by decide +kernel) (by decide) h hs
theorem r_w3 (hF : 99999999 ≤ FU) {s L : Nat} (h : RdR b n (s + L) J) (hs : J 60 35 = nI s) : fX9_isWord FU 60 (17912639667 : Int64) (J, R0 pl nm hd rd) = some (b01 (wIs b s L (wds.getD 3 []) = true), (J, R0 pl nm hd rd)) := r_isWord (FU := FU) (pl := pl) (nm := nm) (hd := hd) (rd := rd) hF (l := [112, 117, 122, 122, 108, 101, 115]) (W := 17912639667) (by decide +kernel) (by decide +kernel) (by decide) h hs
theorem r_w4 (hF : 99999999 ≤ FU) {s L : Nat} (h : RdR b n (s + L) J) (hs : J 60 35 = nI s) : fX9_isWord FU 60 (755507 : Int64) (J, R0 pl nm hd rd) = some (b01 (wIs b s L (wds.getD 4 []) = true), (J, R0 pl nm hd rd)) := r_isWord (FU := FU) (pl := pl) (nm := nm) (hd := hd) (rd := rd) hF (l := [119, 97, 121, 115]) (W := 755507) (by decide +kernel) (by decide +kernel) (by decide) h hs
theorem r_w5 (hF : 99999999 ≤ FU) {s L : Nat} (h : RdR b n (s + L) J) (hs : J 60 35 = nI s) : fX9_isWord FU 60 (710362314995 : Int64) (J, R0 pl nm hd rd) = some (b01 (wIs b s L (wds.getD 5 []) = true), (J, R0 pl nm hd rd)) := r_isWord (FU := FU) (pl := pl) (nm := nm) (hd := hd) (rd := rd) hF (l := [116, 117, 114, 110, 105, 110, 103, 115]) (W := 710362314995) (by decide +kernel) (by decide +kernel) (by decide) h hs
theorem r_w6 (hF : 99999999 ≤ FU) {s L : Nat} (h : RdR b n (s + L) J) (hs : J 60 35 = nI s) : fX9_isWord FU 60 (7931013 : Int64) (J, R0 pl nm hd rd) = some (b01 (wIs b s L (wds.getD 6 []) = true), (J, R0 pl nm hd rd)) := r_isWord (FU := FU) (pl := pl) (nm := nm) (hd := hd) (rd := rd) hF (l := [103, 114, 97, 100, 101]) (W := 7931013) (by decide +kernel) (by decide +kernel) (by decide) h hs
theorem r_w7 (hF : 99999999 ≤ FU) {s L : Nat} (h : RdR b n (s + L) J) (hs : J 60 35 = nI s) : fX9_isWord FU 60 (197938 : Int64) (J, R0 pl nm hd rd) = some (b01 (wIs b s L (wds.getD 7 []) = true), (J, R0 pl nm hd rd)) := r_isWord (FU := FU) (pl := pl) (nm := nm) (hd := hd) (rd := rd) hF (l := [102, 97, 105, 114]) (W := 197938) (by decide +kernel) (by decide +kernel) (by decide) h hs
theorem r_w8 (hF : 99999999 ≤ FU) {s L : Nat} (h : RdR b n (s + L) J) (hs : J 60 35 = nI s) : fX9_isWord FU 60 (498 : Int64) (J, R0 pl nm hd rd) = some (b01 (wIs b s L (wds.getD 8 []) = true), (J, R0 pl nm hd rd)) := r_isWord (FU := FU) (pl := pl) (nm := nm) (hd := hd) (rd := rd) hF (l := [111, 114]) (W := 498) (by decide +kernel) (by decide +kernel) (by decide) h hs
theorem r_w9 (hF : 99999999 ≤ FU) {s L : Nat} (h : RdR b n (s + L) J) (hs : J 60 35 = nI s) : fX9_isWord FU 60 (1476 : Int64) (J, R0 pl nm hd rd) = some (b01 (wIs b s L (wds.getD 9 []) = true), (J, R0 pl nm hd rd)) := r_isWord (FU := FU) (pl := pl) (nm := nm) (hd := hd) (rd := rd) hF (l := [97, 110, 100]) (W := 1476) (by decide +kernel) (by decide +kernel) (by decide) h hs
theorem r_w10 (hF : 99999999 ≤ FU) {s L : Nat} (h : RdR b n (s + L) J) (hs : J 60 35 = nI s) : fX9_isWord FU 60 (14836 : Int64) (J, R0 pl nm hd rd) = some (b01 (wIs b s L (wds.getD 10 []) = true), (J, R0 pl nm hd rd)) := r_isWord (FU := FU) (pl := pl) (nm := nm) (hd := hd) (rd := rd) hF (l := [110, 111, 116]) (W := 14836) (by decide +kernel) (by decide +kernel) (by decide) h hs
theorem r_word40 (hF : 99999999 ≤ FU) {s L : Nat} (h : RdR b n (s + L) J) (hs : J 60 35 = nI s) : ∃ J', fX9_wordToken_b40 FU 60 (J, R0 pl nm hd rd) = some (J', R0 pl nm hd rd) ∧ (∀ v, TkR (nI (wdF b s L wds 0 13)) v (J' 60 33) (J' 60 34)) ∧ (∀ q, q ≠ 60 → J' q = J q) ∧ (∀ j, j ≠ 33 → j ≠ 34 → J' 60 j = J 60 j) := by
  generalize hT : up2 J 60 33 (nI 2) = T
  have tq : ∀ q, q ≠ 60 → T q = J q := fun q hq => by rw [← hT, up2_ne hq]
  have tj : ∀ j, j ≠ 33 → T 60 j = J 60 j := fun j hj => by rw [← hT, up2_i hj]
  have t33 : T 60 33 = nI 2 := by rw [← hT, up2_s]
  have hT' : RdR b n (s + L) T := h.keep (tq 76 (by decide)) (tj 27 (by decide)) (by rw [tj 32 (by decide), h.2.2.2.1]) h.2.2.2.2
  have ts : T 60 35 = nI s := by rw [tj 35 (by decide), hs]
  generalize hU : up2 (up2 T 60 34 (mI 1)) 60 33 (nI 3) = U
  have uq : ∀ q, q ≠ 60 → U q = J q := fun q hq => by rw [← hU, up2_ne hq, up2_ne hq, tq q hq]
  have uj : ∀ j, j ≠ 33 → j ≠ 34 → U 60 j = J 60 j := fun j j1 j2 => by rw [← hU, up2_i j1, up2_i j2, tj j j1]
  have u33 : U 60 33 = nI 3 := by rw [← hU, up2_s]
  have hU' : RdR b n (s + L) U := h.keep (uq 76 (by decide)) (uj 27 (by decide) (by decide)) (by rw [uj 32 (by decide) (by decide), h.2.2.2.1]) h.2.2.2.2
  have us : U 60 35 = nI s := by rw [uj 35 (by decide) (by decide), hs]
  have d0 := r_w0 (FU := FU) (pl := pl) (nm := nm) (hd := hd) (rd := rd) hF hT' ts
  have d1 := r_w1 (FU := FU) (pl := pl) (nm := nm) (hd := hd) (rd := rd) hF hT' ts
  have d2 := r_w2 (FU := FU) (pl := pl) (nm := nm) (hd := hd) (rd := rd) hF hT' ts
  have d3 := r_w3 (FU := FU) (pl := pl) (nm := nm) (hd := hd) (rd := rd) hF hT' ts
  have d4 := r_w4 (FU := FU) (pl := pl) (nm := nm) (hd := hd) (rd := rd) hF hT' ts
  have d5 := r_w5 (FU := FU) (pl := pl) (nm := nm) (hd := hd) (rd := rd) hF hT' ts
  have d6 := r_w6 (FU := FU) (pl := pl) (nm := nm) (hd := hd) (rd := rd) hF hU' us
  have d7 := r_w7 (FU := FU) (pl := pl) (nm := nm) (hd := hd) (rd := rd) hF hU' us
  have d8 := r_w8 (FU := FU) (pl := pl) (nm := nm) (hd := hd) (rd := rd) hF hU' us
  have d9 := r_w9 (FU := FU) (pl := pl) (nm := nm) (hd := hd) (rd := rd) hF hU' us
  have d10 := r_w10 (FU := FU) (pl := pl) (nm := nm) (hd := hd) (rd := rd) hF hU' us
  unfold fX9_wordToken_b40
  rw [li_2, pIb_60, hT, show rc 9 (some 60) = some 60 from rfl, w_bind]
  have name : ∀ k, k < 6 → (∀ j, j < k → wIs b s L (wds.getD j []) = false) → wdF b s L wds 0 13 = k → ∃ J', fX9_wordToken_b131 FU 60 (some 60) (nI k) (T, R0 pl nm hd rd) = some (J', R0 pl nm hd rd) ∧ (∀ v, TkR (nI (wdF b s L wds 0 13)) v (J' 60 33) (J' 60 34)) ∧ (∀ q, q ≠ 60 → J' q = J q) ∧ (∀ j, j ≠ 33 → j ≠ 34 → J' 60 j = J 60 j) := by
    intro k hk _ e
    refine ⟨up2 T 60 34 (nI k), ?_, fun v => Or.inr (Or.inr (Or.inl ⟨k, hk, by rw [e], by rw [up2_i (by decide), t33], by rw [up2_s]⟩)), fun q hq => by rw [up2_ne hq, tq q hq], fun j j1 j2 => by rw [up2_i j2, tj j j1]⟩
    unfold fX9_wordToken_b131
    rw [pIb_60, fIb_60, up2_s, if_neg (by rw [li_0, w_lt (by omega) (by omega)]; omega)]
  have nope : fX9_wordToken_b131 FU 60 (some 60) (-1 : Int32) (T, R0 pl nm hd rd) = (rc 9 (some 60)).bind fun b152 => bd2 (fX9_isWord FU b152 (7931013 : Int64) (U, R0 pl nm hd rd)) fun r152 M152 => if r152 = 0 then ((rc 9 (some 60)).bind fun b166 => bd2 (fX9_isWord FU b166 (197938 : Int64) M152) fun r166 M166 => if r166 = 0 then ((rc 9 (some 60)).bind fun b180 => bd2 (fX9_isWord FU b180 (498 : Int64) M166) fun r180 M180 => if r180 = 0 then ((rc 9 (some 60)).bind fun b194 => bd2 (fX9_isWord FU b194 (1476 : Int64) M180) fun r194 M194 => if r194 = 0 then ((rc 9 (some 60)).bind fun b208 => bd2 (fX9_isWord FU b208 (14836 : Int64) M194) fun r208 M208 => if r208 = 0 then (fX9_wordToken_b219 FU 60 (some 60) (-1 : Int32) M208) else (fX9_wordToken_b219 FU 60 (some 60) (4 : Int32) M208)) else (fX9_wordToken_b219 FU 60 (some 60) (3 : Int32) M194)) else (fX9_wordToken_b219 FU 60 (some 60) (2 : Int32) M180)) else (fX9_wordToken_b219 FU 60 (some 60) (1 : Int32) M166)) else (fX9_wordToken_b219 FU 60 (some 60) (0 : Int32) M152) := by
    unfold fX9_wordToken_b131
    rw [show (-1 : Int32) = mI 1 from rfl, pIb_60, fIb_60, up2_s, if_pos (by decide), li_3, pIb_60, hU]
  have key : ∀ k, k < 5 → wdF b s L wds 0 13 = 6 + k → ∃ J', fX9_wordToken_b219 FU 60 (some 60) (nI k) (U, R0 pl nm hd rd) = some (J', R0 pl nm hd rd) ∧ (∀ v, TkR (nI (wdF b s L wds 0 13)) v (J' 60 33) (J' 60 34)) ∧ (∀ q, q ≠ 60 → J' q = J q) ∧ (∀ j, j ≠ 33 → j ≠ 34 → J' 60 j = J 60 j) := by
    intro k hk e
    refine ⟨up2 U 60 34 (nI k), ?_, fun v => Or.inr (Or.inr (Or.inr (Or.inl ⟨k, hk, by rw [e], by rw [up2_i (by decide), u33], by rw [up2_s]⟩))), fun q hq => by rw [up2_ne hq, uq q hq], fun j j1 j2 => by rw [up2_i j2, uj j j1 j2]⟩
    unfold fX9_wordToken_b219
    rw [pIb_60, fIb_60, up2_s, if_pos (by rw [li_0, w_le (by omega) (by omega)]; omega)]
  rcases wd_cases b s L with ⟨i, hi, e, w, ot⟩ | ⟨e, ot⟩
  · obtain z | z | z | z | z | z | z | z | z | z | z : i = 0 ∨ i = 1 ∨ i = 2 ∨ i = 3 ∨ i = 4 ∨ i = 5 ∨ i = 6 ∨ i = 7 ∨ i = 8 ∨ i = 9 ∨ i = 10 := by omega
    · subst z
      rw [dn d0, b01_pos w, if_neg (by decide)]
      exact name 0 (by decide) (fun j hj => ot j (by omega) (by omega)) e
    · subst z
      rw [dn d0, b01_neg (by rw [ot 0 (by decide) (by decide)]; exact Bool.false_ne_true), if_pos (by decide), w_bind, dn d1, b01_pos w, if_neg (by decide)]
      exact name 1 (by decide) (fun j hj => ot j (by omega) (by omega)) e
    · subst z
      rw [dn d0, b01_neg (by rw [ot 0 (by decide) (by decide)]; exact Bool.false_ne_true), if_pos (by decide), w_bind, dn d1, b01_neg (by rw [ot 1 (by decide) (by decide)]; exact Bool.false_ne_true), if_pos (by decide), w_bind, dn d2, b01_pos w, if_neg (by decide)]
      exact name 2 (by decide) (fun j hj => ot j (by omega) (by omega)) e
    · subst z
      rw [dn d0, b01_neg (by rw [ot 0 (by decide) (by decide)]; exact Bool.false_ne_true), if_pos (by decide), w_bind, dn d1, b01_neg (by rw [ot 1 (by decide) (by decide)]; exact Bool.false_ne_true), if_pos (by decide), w_bind, dn d2, b01_neg (by rw [ot 2 (by decide) (by decide)]; exact Bool.false_ne_true), if_pos (by decide), w_bind, dn d3, b01_pos w, if_neg (by decide)]
      exact name 3 (by decide) (fun j hj => ot j (by omega) (by omega)) e
    · subst z
      rw [dn d0, b01_neg (by rw [ot 0 (by decide) (by decide)]; exact Bool.false_ne_true), if_pos (by decide), w_bind, dn d1, b01_neg (by rw [ot 1 (by decide) (by decide)]; exact Bool.false_ne_true), if_pos (by decide), w_bind, dn d2, b01_neg (by rw [ot 2 (by decide) (by decide)]; exact Bool.false_ne_true), if_pos (by decide), w_bind, dn d3, b01_neg (by rw [ot 3 (by decide) (by decide)]; exact Bool.false_ne_true), if_pos (by decide), w_bind, dn d4, b01_pos w, if_neg (by decide)]
      exact name 4 (by decide) (fun j hj => ot j (by omega) (by omega)) e
    · subst z
      rw [dn d0, b01_neg (by rw [ot 0 (by decide) (by decide)]; exact Bool.false_ne_true), if_pos (by decide), w_bind, dn d1, b01_neg (by rw [ot 1 (by decide) (by decide)]; exact Bool.false_ne_true), if_pos (by decide), w_bind, dn d2, b01_neg (by rw [ot 2 (by decide) (by decide)]; exact Bool.false_ne_true), if_pos (by decide), w_bind, dn d3, b01_neg (by rw [ot 3 (by decide) (by decide)]; exact Bool.false_ne_true), if_pos (by decide), w_bind, dn d4, b01_neg (by rw [ot 4 (by decide) (by decide)]; exact Bool.false_ne_true), if_pos (by decide), w_bind, dn d5, b01_pos w, if_neg (by decide)]
      exact name 5 (by decide) (fun j hj => ot j (by omega) (by omega)) e
    · subst z
      rw [dn d0, b01_neg (by rw [ot 0 (by decide) (by decide)]; exact Bool.false_ne_true), if_pos (by decide), w_bind, dn d1, b01_neg (by rw [ot 1 (by decide) (by decide)]; exact Bool.false_ne_true), if_pos (by decide), w_bind, dn d2, b01_neg (by rw [ot 2 (by decide) (by decide)]; exact Bool.false_ne_true), if_pos (by decide), w_bind, dn d3, b01_neg (by rw [ot 3 (by decide) (by decide)]; exact Bool.false_ne_true), if_pos (by decide), w_bind, dn d4, b01_neg (by rw [ot 4 (by decide) (by decide)]; exact Bool.false_ne_true), if_pos (by decide), w_bind, dn d5, b01_neg (by rw [ot 5 (by decide) (by decide)]; exact Bool.false_ne_true), if_pos (by decide), nope, show rc 9 (some 60) = some 60 from rfl, w_bind]
      rw [dn d6, b01_pos w, if_neg (by decide)]
      exact key 0 (by decide) e
    · subst z
      rw [dn d0, b01_neg (by rw [ot 0 (by decide) (by decide)]; exact Bool.false_ne_true), if_pos (by decide), w_bind, dn d1, b01_neg (by rw [ot 1 (by decide) (by decide)]; exact Bool.false_ne_true), if_pos (by decide), w_bind, dn d2, b01_neg (by rw [ot 2 (by decide) (by decide)]; exact Bool.false_ne_true), if_pos (by decide), w_bind, dn d3, b01_neg (by rw [ot 3 (by decide) (by decide)]; exact Bool.false_ne_true), if_pos (by decide), w_bind, dn d4, b01_neg (by rw [ot 4 (by decide) (by decide)]; exact Bool.false_ne_true), if_pos (by decide), w_bind, dn d5, b01_neg (by rw [ot 5 (by decide) (by decide)]; exact Bool.false_ne_true), if_pos (by decide), nope, show rc 9 (some 60) = some 60 from rfl, w_bind]
      rw [dn d6, b01_neg (by rw [ot 6 (by decide) (by decide)]; exact Bool.false_ne_true), if_pos (by decide), w_bind, dn d7, b01_pos w, if_neg (by decide)]
      exact key 1 (by decide) e
    · subst z
      rw [dn d0, b01_neg (by rw [ot 0 (by decide) (by decide)]; exact Bool.false_ne_true), if_pos (by decide), w_bind, dn d1, b01_neg (by rw [ot 1 (by decide) (by decide)]; exact Bool.false_ne_true), if_pos (by decide), w_bind, dn d2, b01_neg (by rw [ot 2 (by decide) (by decide)]; exact Bool.false_ne_true), if_pos (by decide), w_bind, dn d3, b01_neg (by rw [ot 3 (by decide) (by decide)]; exact Bool.false_ne_true), if_pos (by decide), w_bind, dn d4, b01_neg (by rw [ot 4 (by decide) (by decide)]; exact Bool.false_ne_true), if_pos (by decide), w_bind, dn d5, b01_neg (by rw [ot 5 (by decide) (by decide)]; exact Bool.false_ne_true), if_pos (by decide), nope, show rc 9 (some 60) = some 60 from rfl, w_bind]
      rw [dn d6, b01_neg (by rw [ot 6 (by decide) (by decide)]; exact Bool.false_ne_true), if_pos (by decide), w_bind, dn d7, b01_neg (by rw [ot 7 (by decide) (by decide)]; exact Bool.false_ne_true), if_pos (by decide), w_bind, dn d8, b01_pos w, if_neg (by decide)]
      exact key 2 (by decide) e
    · subst z
      rw [dn d0, b01_neg (by rw [ot 0 (by decide) (by decide)]; exact Bool.false_ne_true), if_pos (by decide), w_bind, dn d1, b01_neg (by rw [ot 1 (by decide) (by decide)]; exact Bool.false_ne_true), if_pos (by decide), w_bind, dn d2, b01_neg (by rw [ot 2 (by decide) (by decide)]; exact Bool.false_ne_true), if_pos (by decide), w_bind, dn d3, b01_neg (by rw [ot 3 (by decide) (by decide)]; exact Bool.false_ne_true), if_pos (by decide), w_bind, dn d4, b01_neg (by rw [ot 4 (by decide) (by decide)]; exact Bool.false_ne_true), if_pos (by decide), w_bind, dn d5, b01_neg (by rw [ot 5 (by decide) (by decide)]; exact Bool.false_ne_true), if_pos (by decide), nope, show rc 9 (some 60) = some 60 from rfl, w_bind]
      rw [dn d6, b01_neg (by rw [ot 6 (by decide) (by decide)]; exact Bool.false_ne_true), if_pos (by decide), w_bind, dn d7, b01_neg (by rw [ot 7 (by decide) (by decide)]; exact Bool.false_ne_true), if_pos (by decide), w_bind, dn d8, b01_neg (by rw [ot 8 (by decide) (by decide)]; exact Bool.false_ne_true), if_pos (by decide), w_bind, dn d9, b01_pos w, if_neg (by decide)]
      exact key 3 (by decide) e
    · subst z
      rw [dn d0, b01_neg (by rw [ot 0 (by decide) (by decide)]; exact Bool.false_ne_true), if_pos (by decide), w_bind, dn d1, b01_neg (by rw [ot 1 (by decide) (by decide)]; exact Bool.false_ne_true), if_pos (by decide), w_bind, dn d2, b01_neg (by rw [ot 2 (by decide) (by decide)]; exact Bool.false_ne_true), if_pos (by decide), w_bind, dn d3, b01_neg (by rw [ot 3 (by decide) (by decide)]; exact Bool.false_ne_true), if_pos (by decide), w_bind, dn d4, b01_neg (by rw [ot 4 (by decide) (by decide)]; exact Bool.false_ne_true), if_pos (by decide), w_bind, dn d5, b01_neg (by rw [ot 5 (by decide) (by decide)]; exact Bool.false_ne_true), if_pos (by decide), nope, show rc 9 (some 60) = some 60 from rfl, w_bind]
      rw [dn d6, b01_neg (by rw [ot 6 (by decide) (by decide)]; exact Bool.false_ne_true), if_pos (by decide), w_bind, dn d7, b01_neg (by rw [ot 7 (by decide) (by decide)]; exact Bool.false_ne_true), if_pos (by decide), w_bind, dn d8, b01_neg (by rw [ot 8 (by decide) (by decide)]; exact Bool.false_ne_true), if_pos (by decide), w_bind, dn d9, b01_neg (by rw [ot 9 (by decide) (by decide)]; exact Bool.false_ne_true), if_pos (by decide), w_bind, dn d10, b01_pos w, if_neg (by decide)]
      exact key 4 (by decide) e
  · rw [dn d0, b01_neg (by rw [ot 0 (by decide)]; exact Bool.false_ne_true), if_pos (by decide), w_bind, dn d1, b01_neg (by rw [ot 1 (by decide)]; exact Bool.false_ne_true), if_pos (by decide), w_bind, dn d2, b01_neg (by rw [ot 2 (by decide)]; exact Bool.false_ne_true), if_pos (by decide), w_bind, dn d3, b01_neg (by rw [ot 3 (by decide)]; exact Bool.false_ne_true), if_pos (by decide), w_bind, dn d4, b01_neg (by rw [ot 4 (by decide)]; exact Bool.false_ne_true), if_pos (by decide), w_bind, dn d5, b01_neg (by rw [ot 5 (by decide)]; exact Bool.false_ne_true), if_pos (by decide), nope, show rc 9 (some 60) = some 60 from rfl, w_bind]
    rw [dn d6, b01_neg (by rw [ot 6 (by decide)]; exact Bool.false_ne_true), if_pos (by decide), w_bind, dn d7, b01_neg (by rw [ot 7 (by decide)]; exact Bool.false_ne_true), if_pos (by decide), w_bind, dn d8, b01_neg (by rw [ot 8 (by decide)]; exact Bool.false_ne_true), if_pos (by decide), w_bind, dn d9, b01_neg (by rw [ot 9 (by decide)]; exact Bool.false_ne_true), if_pos (by decide), w_bind, dn d10, b01_neg (by rw [ot 10 (by decide)]; exact Bool.false_ne_true), if_pos (by decide)]
    refine ⟨up2 (up2 U 60 34 (mI 1)) 60 33 (nI 5), ?_, fun v => Or.inr (Or.inr (Or.inr (Or.inr (Or.inr ⟨by rw [e], by rw [up2_s]⟩)))), fun q hq => by rw [up2_ne hq, up2_ne hq, uq q hq], fun j j1 j2 => by rw [up2_i j1, up2_i j2, uj j j1 j2]⟩
    unfold fX9_wordToken_b219
    rw [show (-1 : Int32) = mI 1 from rfl, pIb_60, fIb_60, up2_s, if_neg (by decide), li_5, pIb_60]
end Tok4
