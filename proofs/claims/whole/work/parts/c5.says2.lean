/-! calls: says, the reference's pile -/
section Says2
variable {FU ver : Nat} {P : Pln} {I J : Nat → Nat → Int32} {pl nm hd rd : Option Nat} {L : Sd → Option Nat}
/-- the pile, its top first -/
def Pile (st : List Int32) (J : Nat → Nat → Int32) : Prop := ∀ j, j < st.length → J 81 j = st.getD (st.length - 1 - j) 0
theorem pile_push {st : List Int32} {x : Int32} (h : Pile st J) : Pile (x :: st) (up2 J 81 st.length x) := by
  intro j hj
  have hj : j < st.length + 1 := hj
  show up2 J 81 st.length x 81 j = (x :: st).getD (st.length + 1 - 1 - j) 0
  by_cases z : j = st.length
  · subst z
    rw [up2_s, show st.length + 1 - 1 - st.length = 0 by omega]
    rfl
  · rw [up2_i z, h j (by omega), show st.length + 1 - 1 - j = (st.length - 1 - j) + 1 by omega]
    rfl
theorem pile_pop {st : List Int32} {x : Int32} (h : Pile (x :: st) J) : Pile st J ∧ J 81 st.length = x := by
  constructor
  · intro j hj
    have := h j (by show j < st.length + 1; omega)
    rw [this]
    show (x :: st).getD (st.length + 1 - 1 - j) 0 = _
    rw [show st.length + 1 - 1 - j = (st.length - 1 - j) + 1 by omega]
    rfl
  · have := h st.length (by show st.length < st.length + 1; omega)
    rw [this]
    show (x :: st).getD (st.length + 1 - 1 - st.length) 0 = _
    rw [show st.length + 1 - 1 - st.length = 0 by omega]
    rfl
theorem r_both {w x y : Int32} (h3 : ¬ w = mI 3) {M : Mem} : fX9_both FU 60 w x y M = some (bth w x y, M) := by
  unfold fX9_both bth fX9_both_b52
  have e7 : (-7 : Int32) = mI 7 := rfl
  have e6 : (-6 : Int32) = mI 6 := rfl
  have e5 : (-5 : Int32) = mI 5 := rfl
  have e4 : (-4 : Int32) = mI 4 := rfl
  have e3 : (-3 : Int32) = mI 3 := rfl
  have e2 : (-2 : Int32) = mI 2 := rfl
  have e1 : (-1 : Int32) = mI 1 := rfl
  rw [e7, e6, e5, e4, e3, e2, e1]
  by_cases z7 : w = mI 7
  · rw [if_pos z7, if_pos z7]
  rw [if_neg z7, if_neg z7]
  by_cases z6 : w = mI 6
  · rw [if_pos z6, if_pos z6]
  rw [if_neg z6, if_neg z6]
  by_cases z5 : w = mI 5
  · rw [if_pos z5, if_pos z5]
    by_cases q : x = y
    · have nq : ¬ ¬ x = y := fun h => h q
      rw [if_neg nq, if_neg nq]
    · rw [if_pos q, if_pos q]
  rw [if_neg z5, if_neg z5]
  by_cases z4 : w = mI 4
  · rw [if_pos z4, if_pos z4]
    by_cases q : y ≤ x
    · rw [if_pos q, if_pos q]
    · rw [if_neg q, if_neg q]
  rw [if_neg z4, if_neg z4, if_neg h3]
  by_cases z2 : w = mI 2
  · rw [if_pos z2, if_pos z2]
    by_cases q : x = 0
    · rw [if_pos q, if_pos q]
    · rw [if_neg q, if_neg q]
      by_cases q' : y = 0
      · rw [if_pos q', if_pos q']
      · rw [if_neg q', if_neg q']
  rw [if_neg z2, if_neg z2]
  by_cases z1 : w = mI 1
  · rw [if_pos z1, if_pos z1]
    by_cases q : x = 0
    · have nq : ¬ ¬ x = 0 := fun h => h q
      rw [if_neg nq, if_neg nq]
      by_cases q' : y = 0
      · rw [if_pos q', if_pos q']
      · rw [if_neg q', if_neg q']
    · rw [if_pos q, if_pos q]
  rw [if_neg z1, if_neg z1]
theorem NR.put {j : Nat} {x : Int32} (h : NR P J J) : NR P J (up2 J 81 j x) := by
  refine ⟨h.1.congr (fun i _ => up2_k (by decide)) (fun q q1 q2 => up2_ne (by omega)), ?_, fun q _ _ _ _ _ q6 => up2_ne q6, fun i _ => up2_k (by decide)⟩
  have hK := h.2.1
  unfold K60 SolR at hK ⊢
  rw [up2_k (by decide), up2_ne (by decide : (66 : Nat) ≠ 81)]
  exact hK
theorem r_eval (hF : 99999999 ≤ FU) (hW : WfP P) (hS : SolC P L I) {spot : Nat} (hs : spot < 12) {x : Int32} : ∀ (c : List Int32) (k : Nat) (st : List Int32) (J : Nat → Nat → Int32) (F : Nat), PlR P J → K60 P J → (∀ j, j < c.length → J 78 (120 * spot + (k + j)) = c.getD j 0) → J 77 spot = nI (k + c.length) → k + c.length < 120 → st.length ≤ k → Pile st J → exs (fun i => nI (nmd P L i)) c st = some [x] → c.length < F → ∃ J', fX9_says_L28 FU 60 (nI spot) F (nI st.length) (nI k) (J, R0 pl nm hd rd) = some (x.toInt64, (J', R0 pl nm hd rd)) ∧ NR P J J' := by
  have rc9 : rc 9 (some 60) = some 60 := rfl
  intro c
  induction c with
  | nil =>
    intro k st J F hR hK h78 h77 hk hst hp he hF'
    obtain ⟨G, rfl⟩ : ∃ G, F = G + 1 := ⟨F - 1, by show F = F - 1 + 1; have : 0 < F := hF'; omega⟩
    have e : st = [x] := Option.some.inj he
    subst e
    refine ⟨J, ?_, hR, hK, fun _ _ _ _ _ _ _ => rfl, fun _ _ => rfl⟩
    have p0 : J 81 0 = x := (pile_pop hp).2
    unfold fX9_says_L28
    have hk' : k + 0 < 120 := hk
    rw [fRb_60_30, aIb_77 (by omega), h77, if_pos (by
      show nI (k + 0) ≤ nI k
      rw [w_le (by omega) (by omega)]
      omega), fRb_60_42]
    have a81 := aIb_81 (I := J) (R := R0 pl nm hd rd) (j := 0) (f2 := fun a195 => some (a195.toInt64, (J, R0 pl nm hd rd))) (by decide)
    rw [p0] at a81
    exact a81
  | cons w c ih =>
    intro k st J F hR hK h78 h77 hk hst hp he hF'
    have hk : k + (c.length + 1) < 120 := hk
    have hF' : c.length + 1 < F := hF'
    obtain ⟨G, rfl⟩ : ∃ G, F = G + 1 := ⟨F - 1, by omega⟩
    have hw : J 78 (120 * spot + k) = w := h78 0 (by show 0 < c.length + 1; omega)
    have h78' : ∀ j, j < c.length → J 78 (120 * spot + (k + 1 + j)) = c.getD j 0 := by
      intro j hj
      have := h78 (j + 1) (by show j + 1 < c.length + 1; omega)
      rw [show k + 1 + j = k + (j + 1) by omega, this]
      rfl
    have h77' : J 77 spot = nI (k + 1 + c.length) := by
      rw [h77]
      show nI (k + (c.length + 1)) = _
      rw [show k + (c.length + 1) = k + 1 + c.length by omega]
    have he : (ex1 (fun i => nI (nmd P L i)) w st).bind (exs (fun i => nI (nmd P L i)) c) = some [x] := he
    have head : ∀ {β : Type} (f : Int32 → Option β), ((fR 9 (J, R0 pl nm hd rd) (some 60) 31).bind fun a40 => (aI 0 (J, R0 pl nm hd rd) a40 (((120 : Int32) * nI spot) + nI k)).bind f) = f w := by
      intro β f
      rw [fRb_60_31, li_120, pk_mul, nI_add, aIb_78 (by omega), hw]
    have low : ¬ nI (k + (c.length + 1)) ≤ nI k := by
      rw [w_le (by omega) (by omega)]
      omega
    have go : ∀ (st' : List Int32) (J1 : Nat → Nat → Int32), NR P J J1 → Pile st' J1 → st'.length ≤ k + 1 → exs (fun i => nI (nmd P L i)) c st' = some [x] → ∃ J', fX9_says_L28 FU 60 (nI spot) G (nI st'.length) (nI (k + 1)) (J1, R0 pl nm hd rd) = some (x.toInt64, (J', R0 pl nm hd rd)) ∧ NR P J J' := by
      intro st' J1 hN hp' hl' he'
      have e78 : J1 78 = J 78 := hN.2.2.1 78 (by decide) (by decide) (by decide) (by decide) (by decide) (by decide)
      have e77 : J1 77 = J 77 := hN.2.2.1 77 (by decide) (by decide) (by decide) (by decide) (by decide) (by decide)
      obtain ⟨J', a, b⟩ := ih (k + 1) st' J1 G hN.1 hN.2.1 (fun j hj => by rw [e78]; exact h78' j hj) (by rw [e77]; exact h77') (by omega) hl' hp' he' (by omega)
      exact ⟨J', a, hN.trans b⟩
    have NJ : NR P J J := ⟨hR, hK, fun _ _ _ _ _ _ _ => rfl, fun _ _ => rfl⟩
    conv => enter [1, J', 1, 1]; unfold fX9_says_L28
    rw [fRb_60_30, aIb_77 (by omega), h77]
    have e77b : nI (k + (w :: c).length) = nI (k + (c.length + 1)) := rfl
    rw [e77b, if_neg low, head]
    unfold ex1 at he
    by_cases wn : w < 0
    · rw [if_pos wn] at he ⊢
      have un : ∀ (q : List Int32) (y y' : Int32), st = y :: q → Pile q J → J 81 q.length = y → exs (fun i => nI (nmd P L i)) c (y' :: q) = some [x] → ∃ J', fX9_says_b149 FU (fX9_says_L28 FU 60 (nI spot) G) 60 (nI spot) (nI st.length) (nI k) (some 81) (nI st.length - 1) y' (J, R0 pl nm hd rd) = some (x.toInt64, (J', R0 pl nm hd rd)) ∧ NR P J J' := by
        intro q y y' e hq hy he'
        subst e
        have hl : q.length + 1 ≤ k := hst
        obtain ⟨J', a, b⟩ := go (y' :: q) (up2 J 81 q.length y') NJ.put (pile_push hq) (by show q.length + 1 ≤ k + 1; omega) he'
        refine ⟨J', ?_, b⟩
        unfold fX9_says_b149 fX9_says_b184
        rw [show (nI (y :: q).length - 1 : Int32) = nI q.length from by
          show nI (q.length + 1) - 1 = _
          rw [li_1, w_sub (by omega)]
          rfl, sIb_81 (by omega), li_1, nI_add]
        exact a
      by_cases w3 : w = mI 3
      · rw [if_pos w3] at he
        rw [if_pos (show w = -3 from w3)]
        cases st with
        | nil => exact absurd he (by intro h; cases h)
        | cons y q =>
          obtain ⟨hq, hy⟩ := pile_pop hp
          have hl : q.length + 1 ≤ k := hst
          have he' : exs (fun i => nI (nmd P L i)) c ((if ¬ y = 0 then 0 else 1) :: q) = some [x] := he
          unfold fX9_says_b107
          rw [fRb_60_42, if_pos (show ¬ w = -9 by rw [w3]; decide), fRb_60_42, show (nI (y :: q).length - 1 : Int32) = nI q.length from by
            show nI (q.length + 1) - 1 = _
            rw [li_1, w_sub (by omega)]
            rfl, aIb_81 (by omega), hy]
          have ee : nI q.length = nI (y :: q).length - 1 := by
            show _ = nI (q.length + 1) - 1
            rw [li_1, w_sub (by omega)]
            rfl
          rw [ee]
          by_cases z : y = 0
          · have nz : ¬ ¬ y = 0 := fun h => h z
            rw [if_neg nz]
            rw [if_neg nz] at he'
            exact un q y 1 rfl hq hy he'
          · rw [if_pos z]
            rw [if_pos z] at he'
            exact un q y 0 rfl hq hy he'
      · rw [if_neg w3] at he
        rw [if_neg (show ¬ w = -3 from w3)]
        by_cases w9 : w = mI 9
        · have nw9 : ¬ ¬ w = (-9 : Int32) := fun h => h w9
          rw [if_pos w9] at he
          rw [if_neg nw9]
          cases st with
          | nil => exact absurd he (by intro h; cases h)
          | cons y q =>
            obtain ⟨hq, hy⟩ := pile_pop hp
            have hl : q.length + 1 ≤ k := hst
            have he' : exs (fun i => nI (nmd P L i)) c (-y :: q) = some [x] := he
            unfold fX9_says_b107
            rw [fRb_60_42, if_neg nw9, fRb_60_42, show (nI (y :: q).length - 1 : Int32) = nI q.length from by
              show nI (q.length + 1) - 1 = _
              rw [li_1, w_sub (by omega)]
              rfl, aIb_81 (by omega), hy]
            have ee : nI q.length = nI (y :: q).length - 1 := by
              show _ = nI (q.length + 1) - 1
              rw [li_1, w_sub (by omega)]
              rfl
            rw [ee]
            exact un q y (-y) rfl hq hy he'
        · rw [if_neg w9] at he
          rw [if_pos (show ¬ w = -9 from w9)]
          match st, he, hp, hst with
          | [], he, _, _ => exact absurd he (by intro h; cases h)
          | [_], he, _, _ => exact absurd he (by intro h; cases h)
          | y :: z :: q, he, hp, hst =>
            have he' : exs (fun i => nI (nmd P L i)) c (bth w z y :: q) = some [x] := he
            obtain ⟨hq1, hy⟩ := pile_pop hp
            obtain ⟨hq, hz⟩ := pile_pop hq1
            have hl : q.length + 1 + 1 ≤ k := hst
            have hy : J 81 (q.length + 1) = y := hy
            have em : (nI (y :: z :: q).length + (-1 : Int32)) = nI (q.length + 1) := by
              show nI (q.length + 1 + 1) + (-1 : Int32) = _
              rw [show (nI (q.length + 1 + 1) + (-1 : Int32)) = nI (q.length + 1 + 1) - 1 by rw [Int32.sub_eq_add_neg], li_1, w_sub (by omega)]
              rfl
            have em2 : (nI (q.length + 1) - (1 : Int32)) = nI q.length := by
              rw [li_1, w_sub (by omega)]
              rfl
            obtain ⟨J', a, b⟩ := go (bth w z y :: q) (up2 J 81 q.length (bth w z y)) NJ.put (pile_push hq) (by show q.length + 1 ≤ k + 1; omega) he'
            refine ⟨J', ?_, b⟩
            rw [em, em2, fRb_60_42, fRb_60_42, aIb_81 (by omega), hz, fRb_60_42, aIb_81 (by omega), hy, rc9, w_bind, dn (r_both w3), sIb_81 (by omega)]
            unfold fX9_says_b184
            rw [li_1, nI_add]
            exact a
    · rw [if_neg wn] at he ⊢
      obtain ⟨m, hm, em⟩ : ∃ m, m < 2 ^ 31 ∧ w = nI m := by
        rcases i32c w with ⟨m, hm, e⟩ | ⟨m, h0, hm, e⟩
        · exact ⟨m, hm, e⟩
        · exact absurd (by rw [e, li_0, w_mlt (by omega) (by omega)]; omega) wn
      have push : ∀ (y : Int32) (J1 : Nat → Nat → Int32), NR P J J1 → J1 81 = J 81 → exs (fun i => nI (nmd P L i)) c (y :: st) = some [x] → ∃ J', fX9_says_b86 FU (fX9_says_L28 FU 60 (nI spot) G) 60 (nI spot) (nI st.length) (nI k) (some 81) (nI st.length) y (J1, R0 pl nm hd rd) = some (x.toInt64, (J', R0 pl nm hd rd)) ∧ NR P J J' := by
        intro y J1 hN h81 he'
        have hp1 : Pile st J1 := fun j hj => by rw [h81]; exact hp j hj
        have NJ1 : NR P J1 J1 := ⟨hN.1, hN.2.1, fun _ _ _ _ _ _ _ => rfl, fun _ _ => rfl⟩
        obtain ⟨J', a, b⟩ := go (y :: st) (up2 J1 81 st.length y) (hN.trans NJ1.put) (pile_push hp1) (by show st.length + 1 ≤ k + 1; omega) he'
        refine ⟨J', ?_, b⟩
        unfold fX9_says_b86 fX9_says_b184
        rw [sIb_81 (by omega), li_1, nI_add, nI_add]
        exact a
      rw [fRb_60_42]
      by_cases wb : (10000 : Int32) ≤ w
      · rw [if_pos wb] at he ⊢
        have hm1 : 10000 ≤ m := by
          rw [em, li_10000, w_le (by decide) (by omega)] at wb
          exact wb
        have es : w - 10000 = nI (m - 10000) := by rw [em, li_10000, w_sub (by omega)]
        rw [es] at he ⊢
        rw [nI_clamp (by omega)] at he
        obtain ⟨J1, n1, n2, n3⟩ := r_named (FU := FU) (pl := pl) (nm := nm) (hd := hd) (rd := rd) hF hR hW hK hS (k := m - 10000) (by omega)
        rw [rc9, w_bind, dn n1]
        exact push _ J1 n2 n3 he
      · rw [if_neg wb] at he ⊢
        exact push w J NJ rfl he
end Says2
