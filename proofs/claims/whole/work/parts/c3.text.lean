/-! calls: text -/
section Text
variable {FU : Nat} {I J : Nat → Nat → Int32} {pl nm hd pz nz hz dz : Option Nat} {b : Nat → Int32} {n r : Nat} {v : Nat → Int32}
theorem fit2 (z : Int32) : fits .byte (.int (narA 2 z)) = true := by
  show (decide ((-128 : Int32) ≤ z.toInt8.toInt32) && decide (z.toInt8.toInt32 ≤ (127 : Int32))) = true
  have h1 := Int8.le_toInt z.toInt8
  have h2 := Int8.toInt_lt z.toInt8
  have e : z.toInt8.toInt32.toInt = z.toInt8.toInt := Int8.toInt_toInt32 z.toInt8
  have e1 : (-128 : Int32).toInt = -128 := by decide
  have e2 : (127 : Int32).toInt = 127 := by decide
  rw [Bool.and_eq_true, decide_eq_true_eq, decide_eq_true_eq, Int32.le_iff_toInt_le, Int32.le_iff_toInt_le, e, e1, e2]
  constructor
  · exact h1
  · omega
/-- a text's size, bytes, and its two codes -/
abbrev Dtx : Type := Nat → Nat × (Nat → Int32) × List Int32 × List Int32
def Rdg (FU : Nat) (n : Nat) (b : Nat → Int32) (c1 c2 : List Int32) : Prop := ∀ (v : Nat → Int32) (pl nm hd rd : Option Nat) (r : Nat) (I : Nat → Nat → Int32), BR r → r ≠ 48 → aL2 (some r) = some (nI 120) → (∀ j, j < n → I r j = b j) → (∀ k, k < 6 → I 49 k = v k) → ∃ I' x1 x2, fX4_read FU 48 (some r) (nI n) (I, R0 pl nm hd rd) = some (I', R0 pl nm hd (some r)) ∧ Fz I I' ∧ I' 48 1 = x1 ∧ I' 48 2 = x2 ∧ cdV v c1 x1 ∧ cdV v c2 x2
def WDx (FU m : Nat) (D : Dtx) : Prop := ∀ t, t < m → (D t).1 ≤ 120 ∧ Rdg FU (D t).1 (D t).2.1 (D t).2.2.1 (D t).2.2.2
def CDx (m : Nat) (D : Dtx) (I : Nat → Nat → Int32) : Prop := ∀ t, t < m → I 47 t = nI (D t).1 ∧ ∀ j, j < (D t).1 → I (41 + t) j = (D t).2.1 j
def RDx (m : Nat) (D : Dtx) (J : Nat → Nat → Int32) : Prop := ∀ t, t < m → CdA J (2 * t) (D t).2.2.1 ∧ CdA J (2 * t + 1) (D t).2.2.2
theorem CdA.uniq {spot : Nat} {c c' : List Int32} (h : CdA J spot c) (h' : CdA J spot c') : c = c' := by
  have l : c.length = c'.length := by
    have := h.1.symm.trans h'.1
    rw [nI_eq (by have := h.2.1; omega) (by have := h'.2.1; omega)] at this
    exact this
  apply List.ext_getElem l
  intro i h1 h2
  have e := (h.2.2 i h1).symm.trans (h'.2.2 i h2)
  rw [List.getD_eq_getElem?_getD, List.getD_eq_getElem?_getD, List.getElem?_eq_getElem h1, List.getElem?_eq_getElem h2] at e
  exact e
theorem al_39 : aL2 (some 39) = some (nI 120) := rfl
theorem al_4 {t : Nat} (ht : t < 6) : aL2 (some (41 + t)) = some (nI 120) := by
  obtain z | z | z | z | z | z : t = 0 ∨ t = 1 ∨ t = 2 ∨ t = 3 ∨ t = 4 ∨ t = 5 := by omega
  all_goals subst z; rfl
theorem r0_40t {rd : Option Nat} {t : Nat} (ht : t < 6) : R0 pl nm hd rd 40 t = some (41 + t) := by
  obtain z | z | z | z | z | z : t = 0 ∨ t = 1 ∨ t = 2 ∨ t = 3 ∨ t = 4 ∨ t = 5 := by omega
  all_goals subst z; rfl
theorem sh_4 {t : Nat} (ht : t < 6) : sh (41 + t) = some (.inr (2, 120)) := by
  obtain z | z | z | z | z | z : t = 0 ∨ t = 1 ∨ t = 2 ∨ t = 3 ∨ t = 4 ∨ t = 5 := by omega
  all_goals subst z; rfl
theorem a_copy {R : Nat → Nat → Option Nat} {m t : Nat} (ht : t < 6) (hm : m ≤ 120) (hb : ∀ k, k < m → ∃ z, I 39 k = narA 2 z) : ∃ I', aCp (I, R) (some 39) (nI 0) (some (41 + t)) (nI 0) (nI m) = some (I', R) ∧ (∀ q, q ≠ 41 + t → I' q = I q) ∧ (∀ j, j < m → I' (41 + t) j = I 39 j) := by
  have s39 : sh 39 = some (.inr (2, 120)) := rfl
  have c0 : (nI 0).toNatClampNeg = 0 := nI_clamp (by decide)
  have cm : (nI m).toNatClampNeg = m := nI_clamp (by omega)
  refine ⟨va_up I (41 + t) (va_cpy (I 39) (I (41 + t)) 0 0 m), ?_, fun q hq => if_neg hq, fun j hj => ?_⟩
  · unfold aCp
    simp only [s39, sh_4 ht, c0, cm]
    rw [if_pos]
    refine ⟨by decide, by decide, ?_, by omega, by omega, ?_⟩
    · rw [li_0, w_lt (by omega) (by decide)]
      omega
    · rw [List.all_eq_true]
      intro k hk
      obtain ⟨z, hz⟩ := hb k (List.mem_range.mp hk)
      rw [Nat.zero_add, hz]
      exact fit2 z
  · unfold va_up va_cpy
    rw [if_pos rfl, if_pos ⟨Nat.zero_le j, by omega⟩]
    rw [Nat.zero_add, Nat.sub_zero]
def adD (D : Dtx) (m : Nat) (x : Nat × (Nat → Int32) × List Int32 × List Int32) : Dtx := fun t => if t = m then x else D t
theorem adD_s {D : Dtx} {m t : Nat} {x : Nat × (Nat → Int32) × List Int32 × List Int32} (z : t = m) : adD D m x t = x := if_pos z
theorem adD_n {D : Dtx} {m t : Nat} {x : Nat × (Nat → Int32) × List Int32 × List Int32} (z : ¬ t = m) : adD D m x t = D t := if_neg z
def XO (FU : Nat) (T : Txt) (pl nm hd rd pz nz hz dz : Option Nat) (I J : Nat → Nat → Int32) (o8 : Option (Int32 × Mem)) (o9 : Option (Int32 × Mem)) : Prop := ∃ x T' D', WT T' ∧ T'.2.2.1 = T.2.2.1 ∧ WDx FU T'.2.1 D' ∧ (∃ I', o8 = some (x, (I', R0 pl nm hd (if T.2.1 < 6 then some 39 else rd))) ∧ CT T' I' ∧ CDx T'.2.1 D' I' ∧ (∀ k, k < 38 ∨ 48 < k → I' k = I k)) ∧ (∃ J', o9 = some (x, (J', R0 pz nz hz dz)) ∧ RT T' J' ∧ RDx T'.2.1 D' J' ∧ (∀ q, q ≠ 60 → q ≠ 77 → q ≠ 78 → q ≠ 79 → q ≠ 80 → J' q = J q) ∧ (∀ j, j < 27 ∨ 28 < j ∧ j < 32 ∨ 41 < j → J' 60 j = J 60 j))
theorem k_text (hF : 99999999 ≤ FU) {T : Txt} {D : Dtx} {rd : Option Nat} (hWT : WT T) (hCT : CT T I) (hRT : RT T J) (hWD : WDx FU T.2.1 D) (hCD : CDx T.2.1 D I) (hRD : RDx T.2.1 D J) : XO FU T pl nm hd rd pz nz hz dz I J (fX8_text FU 0 (I, R0 pl nm hd rd)) (fX9_text FU 60 (J, R0 pz nz hz dz)) := by
  have rc7 : rc 7 (some 38) = some 38 := rfl
  have rc4 : rc 4 (some 48) = some 48 := rfl
  have rc9 : rc 9 (some 60) = some 60 := rfl
  have hWT' := hWT
  have hCT' := hCT
  have hRT' := hRT
  obtain ⟨t1, t2, t3, t4⟩ := hCT
  obtain ⟨u1, u2, u3, u4⟩ := hRT
  obtain ⟨w1, w2, w3, w4, w5⟩ := hWT
  have h86 : ∀ {x : Int32} {M : Mem}, fX7_takeTape FU 38 (I, R0 pl nm hd rd) = some (x, M) → fX8_text FU 0 (I, R0 pl nm hd rd) = some (x, M) := by
    intro x M h
    unfold fX8_text
    have f6 : fR 8 (I, R0 pl nm hd rd) (some 0) 6 = some (some 38) := rfl
    rw [f6, w_bind, rc7, w_bind, dn h]
  by_cases m6 : T.2.1 < 6
  · have b39 : ∀ j, j < T.1 → up2 I 38 1 (nI 0) 39 j = T.2.2.2 j := fun j hj => by rw [up2_k (by decide)]; exact t4 j hj
    have hv : ∀ k, k < 6 → up2 I 38 1 (nI 0) 49 k = I 49 k := fun k _ => by rw [up2_k (by decide)]
    have rdO := l_read (pl := pl) (nm := nm) (hd := hd) (rd := rd) (pz := pz) (nz := nz) (hz := hz) (dz := dz) hF m6 br_39 (by decide) al_39 w1 b39 hv u1 u2 u4
    have ne6 : ¬ T.2.1 = 6 := by omega
    have z0 : nI 0 = (0 : Int32) := rfl
    have tk : ∀ I1, fX4_read FU 48 (some 39) (nI T.1) (up2 I 38 1 (nI 0), R0 pl nm hd rd) = some (I1, R0 pl nm hd (some 39)) → fX7_takeTape FU 38 (I, R0 pl nm hd rd) = if I1 48 3 < 0 then ((fR 7 (I1, R0 pl nm hd (some 39)) (some 38) 0).bind fun a56 => (fR 7 (I1, R0 pl nm hd (some 39)) (some 38) 2).bind fun a61 => (fI 7 (I1, R0 pl nm hd (some 39)) (some 38) 4).bind fun a65 => (aR 3 (I1, R0 pl nm hd (some 39)) a61 a65).bind fun a68 => (aCp (I1, R0 pl nm hd (some 39)) a56 (0 : Int32) a68 (0 : Int32) (nI T.1)).bind fun M71 => (fR 7 M71 (some 38) 3).bind fun a75 => (fI 7 M71 (some 38) 4).bind fun a79 => (sI 0 M71 a75 a79 (nI T.1)).bind fun M83 => (fI 7 M83 (some 38) 4).bind fun a86 => (pI 7 M83 (some 38) 4 (a86 + (1 : Int32))).bind fun M92 => some (a86, M92)) else some ((-100 : Int32) - I1 48 3, (I1, R0 pl nm hd (some 39))) := by
      intro I1 h1
      unfold fX7_takeTape
      rw [fIb_38, t2, if_pos (by rw [li_6, w_lt (by omega) (by decide)]; exact m6), fIb_38, t1, pIb_38, fRb_38_6, fRb_38_0, rc4, w_bind]
      have h1' : fX4_read FU 48 (some 39) (nI T.1) (up2 I 38 1 0, R0 pl nm hd rd) = some (I1, R0 pl nm hd (some 39)) := h1
      rw [dn1 h1', fRb_38_6, fIb_48]
      by_cases z : I1 48 3 < 0
      · rw [if_pos z, if_pos z]
      · rw [if_neg z, if_neg z, fRb_38_6, fIb_48]
    have rx : ∀ y J1, fX9_isText FU 60 (J, R0 pz nz hz dz) = some (y, (J1, R0 pz nz hz dz)) → fX9_text FU 60 (J, R0 pz nz hz dz) = if ¬ y = 0 then some (J1 60 28, (up2 (up2 J1 60 27 (nI 0)) 60 28 (J1 60 28 + 1), R0 pz nz hz dz)) else some ((-100 : Int32) - J1 60 35, (up2 J1 60 27 (nI 0), R0 pz nz hz dz)) := by
      intro y J1 h1
      unfold fX9_text
      rw [fIb_60, u2, if_pos (by rw [li_6, nI_eq (by omega) (by decide)]; exact ne6), rc9, w_bind, dn h1, fIb_60, pIb_60]
      by_cases z : y = 0
      · rw [if_neg (fun h => h z), if_neg (fun h => h z)]
        rfl
      · rw [if_pos z, if_pos z, fIb_60, pIb_60, fIb_60, up2_s, up2_i (by decide)]
        congr 2
        exact Int32.add_sub_cancel _ _
    rcases rdO with ⟨I1, J1, x1, x2, c1, c2, a1, a2, a3, a4, a5, a6, a7, a8, a9, a10, a11⟩ | ⟨I1, j, J1, a1, a2, a3, a4, a5, a6⟩
    · have i38 : ∀ k, k ≠ 1 → I1 38 k = I 38 k := fun k hk => by rw [a3 38 (by decide), up2_i hk]
      have i39 : I1 39 = I 39 := by rw [a3 39 (by decide), up2_ne (by decide)]
      obtain ⟨I2, p1, p2, p3⟩ := a_copy (R := R0 pl nm hd (some 39)) (I := I1) m6 w1 (fun k hk => by rw [i39, t4 k hk]; exact w5 k hk)
      have j28 : J1 60 28 = nI T.2.1 := by rw [a11.2.2.2 28 (by decide), u2]
      have k38 : I2 38 = I1 38 := p2 38 (by omega)
      refine ⟨nI T.2.1, (0, T.2.1 + 1, T.2.2.1, T.2.2.2), adD D T.2.1 (T.1, T.2.2.2, c1, c2), ⟨Nat.zero_le _, by show 1 ≤ T.2.1 + 1; omega, by show T.2.1 + 1 ≤ 6; omega, by show T.2.2.1 < T.2.1 + 1; omega, fun k hk => absurd hk (Nat.not_lt_zero k)⟩, rfl, ?_, ⟨up2 (up2 I2 47 T.2.1 (nI T.1)) 38 4 (nI (T.2.1 + 1)), ?_, ⟨?_, ?_, ?_, fun k hk => absurd hk (Nat.not_lt_zero k)⟩, ?_, ?_⟩, ⟨up2 (up2 J1 60 27 (nI 0)) 60 28 (nI T.2.1 + 1), ?_, ⟨?_, ?_, ?_, fun k hk => absurd hk (Nat.not_lt_zero k)⟩, ?_, ?_, ?_⟩⟩
      · intro t ht
        have ht : t < T.2.1 + 1 := ht
        by_cases z : t = T.2.1
        · rw [adD_s z]
          refine ⟨w1, ?_⟩
          intro v' pl' nm' hd' rd' r' I' q1 q2 q3 q4 q5
          rcases l_read (pl := pl') (nm := nm') (hd := hd') (rd := rd') (pz := pz) (nz := nz) (hz := hz) (dz := dz) hF m6 q1 q2 q3 w1 q4 q5 u1 u2 u4 with ⟨I3, J3, y1, y2, d1, d2, e1, e2, e3, e4, e5, e6, e7, e8, e9, e10, _⟩ | ⟨I3, j, J3, e1, e2, e3, e4, _, _⟩
          · have eJ : J3 = J1 := by
              rw [a8] at e8
              exact (congrArg (fun q => q.2.1) (Option.some.inj e8)).symm
            rw [eJ] at e9 e10
            rw [e9.uniq a9] at e6
            rw [e10.uniq a10] at e7
            exact ⟨I3, y1, y2, e1, e3, e4, e5, e6, e7⟩
          · rw [a8] at e4
            have e0 : nI 1 = nI 0 := congrArg (fun q => q.1) (Option.some.inj e4)
            exact absurd e0 (by decide)
        · rw [adD_n z]
          exact hWD t (by omega)
      · apply h86
        rw [tk I1 a1, if_pos (by rw [a2]; decide), fRb_38_0, fRb_38_2, fIb_38, i38 4 (by decide), t2, aR_40 m6, w_bind, r0_40t m6, if_pos m6]
        have p1' : aCp (I1, R0 pl nm hd (some 39)) (some 39) 0 (some (41 + T.2.1)) 0 (nI T.1) = some (I2, R0 pl nm hd (some 39)) := p1
        rw [dn1 p1', fRb_38_3, fIb_38, k38, i38 4 (by decide), t2, sIb_47 m6, fIb_38, up2_k (by decide), k38, i38 4 (by decide), t2, li_1, nI_add, pIb_38]
      · show up2 (up2 I2 47 T.2.1 (nI T.1)) 38 4 (nI (T.2.1 + 1)) 38 1 = nI 0
        rw [up2_i (by decide), up2_k (by decide), k38, a3 38 (by decide), up2_s]
      · show up2 (up2 I2 47 T.2.1 (nI T.1)) 38 4 (nI (T.2.1 + 1)) 38 4 = nI (T.2.1 + 1)
        rw [up2_s]
      · show up2 (up2 I2 47 T.2.1 (nI T.1)) 38 4 (nI (T.2.1 + 1)) 38 5 = nI T.2.2.1
        rw [up2_i (by decide), up2_k (by decide), k38, i38 5 (by decide), t3]
      · intro t ht
        have ht : t < T.2.1 + 1 := ht
        by_cases z : t = T.2.1
        · rw [adD_s z, z]
          refine ⟨by rw [up2_k (by decide), up2_s], fun j hj => ?_⟩
          rw [up2_k (by omega), up2_k (by omega), p3 j hj, i39]
          exact t4 j hj
        · rw [adD_n z]
          obtain ⟨q1, q2⟩ := hCD t (by omega)
          refine ⟨?_, fun j hj => ?_⟩
          · rw [up2_k (by decide), up2_i z, p2 47 (by omega), a3 47 (by decide), up2_k (by decide), q1]
          · rw [up2_k (by omega), up2_k (by omega), p2 (41 + t) (by omega), a3 (41 + t) (by omega), up2_k (by omega)]
            exact q2 j hj
      · intro k hk
        rw [up2_ne (by omega), up2_ne (by omega), p2 k (by omega), a3 k (by omega), up2_ne (by omega)]
      · rw [rx _ J1 a8, if_pos (by decide), j28]
      · show up2 (up2 J1 60 27 (nI 0)) 60 28 (nI T.2.1 + 1) 60 27 = nI 0
        rw [up2_i (by decide), up2_s]
      · show up2 (up2 J1 60 27 (nI 0)) 60 28 (nI T.2.1 + 1) 60 28 = nI (T.2.1 + 1)
        rw [up2_s, li_1, nI_add]
      · show up2 (up2 J1 60 27 (nI 0)) 60 28 (nI T.2.1 + 1) 60 29 = nI T.2.2.1
        rw [up2_i (by decide), up2_i (by decide), a11.2.2.2 29 (by decide), u3]
      · intro t ht
        have ht : t < T.2.1 + 1 := ht
        have kp : ∀ {spot c}, CdA J1 spot c → CdA (up2 (up2 J1 60 27 (nI 0)) 60 28 (nI T.2.1 + 1)) spot c := by
          intro spot c h
          refine ⟨by rw [up2_k (by decide), up2_k (by decide)]; exact h.1, h.2.1, fun j hj => by rw [up2_k (by decide), up2_k (by decide)]; exact h.2.2 j hj⟩
        by_cases z : t = T.2.1
        · rw [adD_s z, z]
          exact ⟨kp a9, kp a10⟩
        · rw [adD_n z]
          obtain ⟨q1, q2⟩ := hRD t (by omega)
          refine ⟨kp ⟨?_, q1.2.1, fun j hj => ?_⟩, kp ⟨?_, q2.2.1, fun j hj => ?_⟩⟩
          · rw [a11.2.1 (2 * t) (by omega) (by omega)]; exact q1.1
          · rw [a11.2.2.1 _ (by have := q1.2.1; omega)]; exact q1.2.2 j hj
          · rw [a11.2.1 (2 * t + 1) (by omega) (by omega)]; exact q2.1
          · rw [a11.2.2.1 _ (by have := q2.2.1; omega)]; exact q2.2.2 j hj
      · intro q q1 q2 q3 q4 q5
        rw [up2_ne q1, up2_ne q1, a11.1 q q1 q2 q3 q4 q5]
      · intro j hj
        rw [up2_i (by omega), up2_i (by omega), a11.2.2.2 j (by omega)]
    · have i38 : ∀ k, k ≠ 1 → I1 38 k = I 38 k := fun k hk => by rw [a3 38 (by decide), up2_i hk]
      refine ⟨(-100 : Int32) - nI (sS (fun j => T.2.2.2 j) T.1 j), (0, T.2.1, T.2.2.1, T.2.2.2), D, ⟨Nat.zero_le _, w2, w3, w4, fun k hk => absurd hk (Nat.not_lt_zero k)⟩, rfl, hWD, ⟨I1, ?_, ⟨?_, ?_, ?_, fun k hk => absurd hk (Nat.not_lt_zero k)⟩, ?_, ?_⟩, ⟨up2 J1 60 27 (nI 0), ?_, ⟨?_, ?_, ?_, fun k hk => absurd hk (Nat.not_lt_zero k)⟩, ?_, ?_, ?_⟩⟩
      · apply h86
        have sl := sS_le (b := T.2.2.2) (n := T.1) j
        rw [tk I1 a1, a2, if_neg (by rw [li_0, w_lt (by omega) (by decide)]; omega), if_pos m6]
      · show I1 38 1 = nI 0
        rw [a3 38 (by decide), up2_s]
      · exact (i38 4 (by decide)).trans t2
      · exact (i38 5 (by decide)).trans t3
      · intro t ht
        obtain ⟨q1, q2⟩ := hCD t ht
        have ht : t < T.2.1 := ht
        refine ⟨?_, fun j hj => ?_⟩
        · rw [a3 47 (by decide), up2_k (by decide), q1]
        · rw [a3 (41 + t) (by omega), up2_k (by omega)]
          exact q2 j hj
      · intro k hk
        rw [a3 k (by omega), up2_ne (by omega)]
      · rw [rx _ J1 a4, if_neg (fun h => h rfl), a5]
      · show up2 J1 60 27 (nI 0) 60 27 = nI 0
        rw [up2_s]
      · show up2 J1 60 27 (nI 0) 60 28 = nI T.2.1
        rw [up2_i (by decide), a6.2.2.2 28 (by decide), u2]
      · show up2 J1 60 27 (nI 0) 60 29 = nI T.2.2.1
        rw [up2_i (by decide), a6.2.2.2 29 (by decide), u3]
      · intro t ht
        obtain ⟨q1, q2⟩ := hRD t ht
        have ht : t < T.2.1 := ht
        have kp : ∀ {spot c}, CdA J1 spot c → CdA (up2 J1 60 27 (nI 0)) spot c := by
          intro spot c h
          refine ⟨by rw [up2_k (by decide)]; exact h.1, h.2.1, fun j hj => by rw [up2_k (by decide)]; exact h.2.2 j hj⟩
        refine ⟨kp ⟨?_, q1.2.1, fun j hj => ?_⟩, kp ⟨?_, q2.2.1, fun j hj => ?_⟩⟩
        · rw [a6.2.1 (2 * t) (by omega) (by omega)]; exact q1.1
        · rw [a6.2.2.1 _ (by have := q1.2.1; omega)]; exact q1.2.2 j hj
        · rw [a6.2.1 (2 * t + 1) (by omega) (by omega)]; exact q2.1
        · rw [a6.2.2.1 _ (by have := q2.2.1; omega)]; exact q2.2.2 j hj
      · intro q q1 q2 q3 q4 q5
        rw [up2_ne q1, a6.1 q q1 q2 q3 q4 q5]
      · intro j hj
        rw [up2_i (by omega), a6.2.2.2 j (by omega)]
  · have e6 : T.2.1 = 6 := by omega
    refine ⟨mI 4, T, D, hWT', rfl, hWD, ⟨I, ?_, hCT', hCD, fun _ _ => rfl⟩, ⟨J, ?_, hRT', hRD, fun _ _ _ _ _ _ => rfl, fun _ _ => rfl⟩⟩
    · apply h86
      unfold fX7_takeTape
      rw [fIb_38, t2, if_neg (by rw [li_6, w_lt (by omega) (by decide)]; exact m6), if_neg m6]
      rfl
    · unfold fX9_text
      rw [fIb_60, u2, if_neg (by rw [e6]; exact fun h => h rfl)]
      rfl
end Text
