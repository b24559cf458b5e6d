/-! texts: values of codes; the class's small methods -/
section Par6
variable {FU : Nat} {I J : Nat → Nat → Int32} {pl nm hd rd : Option Nat} {b : Nat → Int32} {n r : Nat} {v : Nat → Int32}
def bth (w x y : Int32) : Int32 := if w = mI 7 then x - y else if w = mI 6 then x + y else if w = mI 5 then (if ¬ x = y then 0 else 1) else if w = mI 4 then (if y ≤ x then 0 else 1) else if w = mI 2 then (if x = 0 then 0 else if y = 0 then 0 else 1) else if w = mI 1 then (if ¬ x = 0 then 1 else if y = 0 then 0 else 1) else x * y
/-- one code upon a pile -/
def ex1 (v : Nat → Int32) (w : Int32) (st : List Int32) : Option (List Int32) := if w < 0 then (if w = mI 3 then (match st with
  | x :: q => some ((if ¬ x = 0 then 0 else 1) :: q)
  | [] => none) else if w = mI 9 then (match st with
  | x :: q => some (-x :: q)
  | [] => none) else (match st with
  | y :: x :: q => some (bth w x y :: q)
  | _ => none)) else some ((if 10000 ≤ w then v (w - 10000).toNatClampNeg else w) :: st)
def exs (v : Nat → Int32) : List Int32 → List Int32 → Option (List Int32)
  | [], st => some st
  | w :: c, st => (ex1 v w st).bind (exs v c)
theorem exs_app (c d : List Int32) (st : List Int32) : exs v (c ++ d) st = (exs v c st).bind (exs v d) := by
  induction c generalizing st with
  | nil => rfl
  | cons w c ih =>
    show (ex1 v w st).bind (exs v (c ++ d)) = ((ex1 v w st).bind (exs v c)).bind (exs v d)
    cases e : ex1 v w st with
    | none => rfl
    | some s => exact ih s
/-- a code's value -/
def cdV (v : Nat → Int32) (c : List Int32) (x : Int32) : Prop := ∀ st, exs v c st = some (x :: st)
theorem cv_num {m : Nat} (h : m < 10000) : cdV v [nI m] (nI m) := by
  intro st
  show (ex1 v (nI m) st).bind (exs v []) = _
  unfold ex1
  rw [if_neg (by rw [li_0, w_lt (by omega) (by omega)]; omega), if_neg (by rw [li_10000, w_le (by omega) (by omega)]; omega)]
  rfl
theorem cv_name {k : Nat} (h : k < 6) : cdV v [nI (10000 + k)] (v k) := by
  intro st
  show (ex1 v (nI (10000 + k)) st).bind (exs v []) = _
  unfold ex1
  rw [if_neg (by rw [li_0, w_lt (by omega) (by omega)]; omega), if_pos (by rw [li_10000, w_le (by omega) (by omega)]; omega), li_10000, w_sub (by omega), show 10000 + k - 10000 = k by omega, nI_clamp (by omega)]
  rfl
theorem cv_neg {c : List Int32} {x : Int32} (h : cdV v c x) : cdV v (c ++ [mI 9]) (-x) := by
  intro st
  rw [exs_app, h st]
  rfl
theorem cv_not {c : List Int32} {x : Int32} (h : cdV v c x) : cdV v (c ++ [mI 3]) (if ¬ x = 0 then 0 else 1) := by
  intro st
  rw [exs_app, h st]
  rfl
theorem cv_bin {c d : List Int32} {x y w : Int32} {k : Nat} (hw : opP k w) (h1 : cdV v c x) (h2 : cdV v d y) : cdV v (c ++ d ++ [w]) (bth w x y) := by
  intro st
  rw [exs_app, exs_app, h1 st]
  show ((exs v d (x :: st)).bind (exs v [w])) = _
  rw [h2 (x :: st)]
  show (ex1 v w (y :: x :: st)).bind (exs v []) = _
  obtain ⟨_, _, _, _, _, _, w7, w8, _⟩ := opP_ok hw
  have neg : w < 0 := by
    rcases hw with ⟨_, e⟩ | ⟨_, e⟩ | ⟨_, e⟩ | ⟨_, e⟩ | ⟨_, e⟩ | ⟨_, e⟩ | ⟨_, e⟩
    · rw [e]; decide
    · rw [e]; decide
    · rw [e]; decide
    · rw [e]; decide
    · rw [e]; decide
    · rw [e]; decide
    · rw [e]; decide
  unfold ex1
  rw [if_pos neg, if_neg (fun h => w7 (Or.inl h)), if_neg (fun h => w7 (Or.inr h))]
  rfl
theorem rn_all (p : Nat → Bool) : ∀ f k j, k ≤ j → j < rn p f k → p j = true := by
  intro f
  induction f with
  | zero =>
    intro k j h1 h2
    have h2 : j < k := h2
    omega
  | succ f ih =>
    intro k j h1 h2
    have h2 : j < (if p k = true then rn p f (k + 1) else k) := h2
    by_cases z : p k = true
    · rw [if_pos z] at h2
      by_cases y : j = k
      · rw [y]; exact z
      · exact ih (k + 1) j (by omega) h2
    · rw [if_neg z] at h2
      omega
theorem isD_n {c : Int32} (h : isD c = true) : ∃ d, d < 10 ∧ c - nI 48 = nI d := by
  unfold isD at h
  rw [decide_eq_true_eq] at h
  rcases i32c c with ⟨m, hm, rfl⟩ | ⟨m, hm0, hm, rfl⟩
  · rw [li_48, li_57, w_lt (by omega) (by omega), w_lt (by omega) (by omega)] at h
    exact ⟨m - 48, by omega, by rw [w_sub (by omega)]⟩
  · exfalso
    apply h.1
    simp (discharger := omega) only [li_0, li_1, li_2, li_3, li_4, li_5, li_6, li_7, li_8, li_9, li_10, li_11, li_12, li_13, li_14, li_15, li_16, li_17, li_18, li_19, li_20, li_21, li_22, li_23, li_24, li_25, li_26, li_27, li_28, li_29, li_30, li_31, li_32, li_33, li_34, li_35, li_36, li_37, li_38, li_39, li_40, li_41, li_42, li_43, li_44, li_45, li_46, li_47, li_48, li_49, li_50, li_51, li_52, li_53, li_54, li_55, li_56, li_57, li_58, li_59, li_60, li_61, li_62, li_63, li_64, li_65, li_66, li_67, li_68, li_69, li_70, li_71, li_72, li_73, li_74, li_75, li_76, li_77, li_78, li_79, li_80, li_81, li_82, li_83, li_84, li_85, li_86, li_87, li_88, li_89, li_90, li_91, li_92, li_93, li_94, li_95, li_96, li_97, li_98, li_99, li_100, li_101, li_102, li_103, li_104, li_105, li_106, li_107, li_108, li_109, li_110, li_111, li_112, li_113, li_114, li_115, li_116, li_117, li_118, li_119, li_120, li_121, li_122, li_123, li_124, li_125, li_126, li_127, li_128, li_144, li_150, li_200, li_255, li_384, li_512, li_999, li_1000, li_1024, li_1152, li_1920, li_3776, li_4096, li_9216, li_10000, li_100000, li_1073741824, li_m, w_lt, w_le, w_eq, w_mlt, w_mle, w_ltm, w_lem, w_meq, w_eqm, w_mm, w_mmlt, w_mmle, nI_add, w_sub, pk_mul, w_div, w_rem, w_and, w_or, w_shr, w_shl1, w_a31, w_andn, n_leT, n_leF, n_ltT, n_ltF, n_eqT, n_eqF, and_true, true_and, and_false, false_and, or_true, true_or, or_false, false_or, not_true_eq_false, not_false_eq_true, ↓reduceIte, Nat.reduceAdd, Nat.reduceEqDiff, Nat.zero_lt_one, Nat.not_lt_zero, Nat.one_ne_zero, Nat.zero_ne_one, not_true_eq_false, not_false_eq_true, Bool.false_eq_true, Bool.true_eq_false]
theorem nmV_n {s d : Nat} (h : ∀ j, j < d → isD (b (s + j)) = true) : ∃ m, m < 10 ^ d ∧ nmV b s d = nI m := by
  induction d with
  | zero => exact ⟨0, by decide, rfl⟩
  | succ d ih =>
    obtain ⟨m, m1, m2⟩ := ih (fun j hj => h j (by omega))
    obtain ⟨e, e1, e2⟩ := isD_n (h d (by omega))
    refine ⟨m * 10 + e, by rw [Nat.pow_succ]; omega, ?_⟩
    show nmV b s d * nI 10 + (b (s + d) - nI 48) = _
    rw [m2, e2, pk_mul, nI_add]
theorem vT_n {i : Nat} (h : cT b n i = nI 11) : ∃ m, m < 10000 ∧ vT b n i = nI m := by
  have hne : ¬ n ≤ sS b n i := fun e => by
    rw [cT_end.mpr e] at h
    exact absurd h (by decide)
  unfold vT
  show ∃ m, m < 10000 ∧ nmV b (sS b n i) (tkE0 b n (sS b n i) - sS b n i) = nI m
  unfold cT at h
  generalize sS b n i = s at h hne
  unfold tkC0 at h
  unfold tkE0
  rw [if_neg hne] at h ⊢
  by_cases l : isL (b s) = true
  · exfalso
    rw [if_pos l] at h
    have w := wd_code b s (tkL b n s - s)
    have := (nI_eq (by omega) (by omega)).mp h
    omega
  · rw [if_neg l] at h ⊢
    by_cases d : isD (b s) = true
    · rw [if_pos d] at h ⊢
      by_cases y : tkD b n s - s ≤ 4
      · have rl := rn_le (fun k => isD (b k)) (n - s) s
        obtain ⟨m, m1, m2⟩ := nmV_n (b := b) (s := s) (d := tkD b n s - s) (fun j hj => rn_all (fun k => isD (b k)) (n - s) s (s + j) (by omega) (by unfold tkD at hj; omega))
        refine ⟨m, Nat.lt_of_lt_of_le m1 ?_, m2⟩
        exact Nat.pow_le_pow_right (n := 10) (j := 4) (by decide) y
      · rw [if_neg y] at h
        exact absurd h (by decide)
    · exfalso
      rw [if_neg d] at h
      by_cases g : isS (b s) = true
      · rw [if_pos g] at h
        rw [h] at g
        exact absurd g (by decide)
      · rw [if_neg g] at h
        exact absurd h (by decide)
/-- the class reads, nothing wrong so far -/
def CSt (b : Nat → Int32) (n r i o : Nat) (v : Nat → Int32) (I : Nat → Nat → Int32) : Prop := TkI b n r i I ∧ I 48 10 = nI o ∧ I 48 3 = mI 1 ∧ ∀ k, k < 6 → I 49 k = v k
/-- something was wrong at token j -/
def CFt (b : Nat → Int32) (n r j : Nat) (I : Nat → Nat → Int32) : Prop := (∃ k, RdC b n r k I) ∧ I 48 3 = nI (sS b n j)
def FC (I I' : Nat → Nat → Int32) : Prop := (∀ q, q ≠ 48 → I' q = I q) ∧ ∀ j, j < 3 ∨ j = 4 ∨ j = 5 → I' 48 j = I 48 j
theorem FC.refl : FC I I := ⟨fun _ _ => rfl, fun _ _ => rfl⟩
theorem FC.trans {I1 I2 : Nat → Nat → Int32} (a : FC I I1) (c : FC I1 I2) : FC I I2 := ⟨fun q hq => (c.1 q hq).trans (a.1 q hq), fun j hj => (c.2 j hj).trans (a.2 j hj)⟩
theorem sS_le (i : Nat) : sS b n i ≤ n := (tkS_le (ps_le i)).2
theorem c_isNow {i o c : Nat} (hc : c < 62) (h : CSt b n r i o v I) : fX4_isNow FU 48 (nI c) (I, R0 pl nm hd (some r)) = some (b01 (cT b n i = nI c), (I, R0 pl nm hd (some r))) := by
  unfold fX4_isNow
  rw [fIb_48, h.2.2.1, if_neg (by decide), fIb_48, h.1.2.1]
  by_cases z : cT b n i = nI c
  · rw [if_neg (fun q => q z), b01_pos z]; rfl
  · rw [if_pos z, b01_neg z]; rfl
theorem c_isNowF {j : Nat} {x : Int32} (h : CFt b n r j I) : fX4_isNow FU 48 x (I, R0 pl nm hd (some r)) = some (nI 0, (I, R0 pl nm hd (some r))) := by
  have s := sS_le (b := b) (n := n) j
  obtain ⟨⟨k, hk⟩, h3⟩ := h
  have n120 := hk.2.2.1
  unfold fX4_isNow
  rw [fIb_48, h3, if_pos (by rw [li_0, w_le (by omega) (by omega)]; omega)]
  rfl
theorem c_fail {i o : Nat} (h : CSt b n r i o v I) : fX4_fail FU 48 (I, R0 pl nm hd (some r)) = some (up2 I 48 3 (nI (sS b n i)), R0 pl nm hd (some r)) ∧ CFt b n r i (up2 I 48 3 (nI (sS b n i))) ∧ FC I (up2 I 48 3 (nI (sS b n i))) := by
  refine ⟨?_, ⟨⟨_, h.1.1.keep (fun q hq => up2_ne hq) (up2_i (by decide)) (by rw [up2_i (by decide)]; exact h.1.1.2.2.2.2.2.1) h.1.1.2.2.2.2.2.2⟩, by rw [up2_s]⟩, fun q hq => up2_ne hq, fun j hj => up2_i (by omega)⟩
  unfold fX4_fail
  rw [fIb_48, h.2.2.1, if_neg (by decide), fIb_48, h.1.2.2.1, pIb_48]
theorem c_failF {j : Nat} (h : CFt b n r j I) : fX4_fail FU 48 (I, R0 pl nm hd (some r)) = some (I, R0 pl nm hd (some r)) := by
  have s := sS_le (b := b) (n := n) j
  obtain ⟨⟨k, hk⟩, h3⟩ := h
  have n120 := hk.2.2.1
  unfold fX4_fail
  rw [fIb_48, h3, if_pos (by rw [li_0, w_le (by omega) (by omega)]; omega)]
theorem c_nextS (hF : 99999999 ≤ FU) {i o : Nat} (h : CSt b n r i o v I) : ∃ I', fX4_next FU 48 (I, R0 pl nm hd (some r)) = some (I', R0 pl nm hd (some r)) ∧ CSt b n r (i + 1) o v I' ∧ FC I I' := by
  obtain ⟨I', a1, a2, a3, a4⟩ := c_tok (FU := FU) (pl := pl) (nm := nm) (hd := hd) hF h.1
  exact ⟨I', a1, ⟨a2, by rw [a4 10 (by decide) (by decide) (by decide) (by decide), h.2.1], by rw [a4 3 (by decide) (by decide) (by decide) (by decide), h.2.2.1], fun k hk => by rw [a3 49 (by decide)]; exact h.2.2.2 k hk⟩, a3, fun j hj => a4 j (by omega) (by omega) (by omega) (by omega)⟩
theorem c_expect (hF : 99999999 ≤ FU) {i o c : Nat} (hc : c < 62) (h : CSt b n r i o v I) : (cT b n i = nI c ∧ ∃ I', fX4_expect FU 48 (nI c) (I, R0 pl nm hd (some r)) = some (I', R0 pl nm hd (some r)) ∧ CSt b n r (i + 1) o v I' ∧ FC I I') ∨ (cT b n i ≠ nI c ∧ ∃ I', fX4_expect FU 48 (nI c) (I, R0 pl nm hd (some r)) = some (I', R0 pl nm hd (some r)) ∧ CFt b n r i I' ∧ FC I I') := by
  unfold fX4_expect
  rw [fIb_48, h.1.2.1]
  by_cases z : cT b n i = nI c
  · left
    obtain ⟨I', a1, a2, a3⟩ := c_nextS (FU := FU) (pl := pl) (nm := nm) (hd := hd) hF h
    refine ⟨z, I', ?_, a2, a3⟩
    rw [if_neg (fun q => q z), show rc 4 (some 48) = some 48 from rfl, w_bind, dn1 a1]
  · right
    obtain ⟨a1, a2, a3⟩ := c_fail (FU := FU) (pl := pl) (nm := nm) (hd := hd) h
    refine ⟨z, _, ?_, a2, a3⟩
    rw [if_pos z, show rc 4 (some 48) = some 48 from rfl, w_bind, dn1 a1]
theorem c_expectF (hF : 99999999 ≤ FU) {j : Nat} {x : Int32} (h : CFt b n r j I) : ∃ I', fX4_expect FU 48 x (I, R0 pl nm hd (some r)) = some (I', R0 pl nm hd (some r)) ∧ CFt b n r j I' ∧ FC I I' := by
  unfold fX4_expect
  rw [fIb_48]
  by_cases z : I 48 7 = x
  · obtain ⟨⟨k, hk⟩, h3⟩ := h
    obtain ⟨I', a1, a2, _, _, _, a6, a7⟩ := c_next (FU := FU) (pl := pl) (nm := nm) (hd := hd) hF hk
    refine ⟨I', ?_, ⟨⟨_, a2⟩, by rw [a7 3 (by decide) (by decide) (by decide) (by decide), h3]⟩, a6, fun j hj => a7 j (by omega) (by omega) (by omega) (by omega)⟩
    rw [if_neg (fun q => q z), show rc 4 (some 48) = some 48 from rfl, w_bind, dn1 a1]
  · refine ⟨I, ?_, h, FC.refl⟩
    rw [if_pos z, show rc 4 (some 48) = some 48 from rfl, w_bind, dn1 (c_failF h)]
theorem c_opens (hF : 99999999 ≤ FU) {i o : Nat} (h : CSt b n r i o v I) (ho : o < 5) : ∃ I', fX4_opens FU 48 (I, R0 pl nm hd (some r)) = some (nI 1, (I', R0 pl nm hd (some r))) ∧ CSt b n r (i + 1) (o + 1) v I' ∧ FC I I' := by
  have h' : CSt b n r i (o + 1) v (up2 I 48 10 (nI (o + 1))) := ⟨⟨h.1.1.keep (fun q hq => up2_ne hq) (up2_i (by decide)) (by rw [up2_i (by decide)]; exact h.1.1.2.2.2.2.2.1) h.1.1.2.2.2.2.2.2, by rw [up2_i (by decide), h.1.2.1], by rw [up2_i (by decide), h.1.2.2.1], fun q => by rw [up2_i (by decide)]; exact h.1.2.2.2 q⟩, by rw [up2_s], by rw [up2_i (by decide), h.2.2.1], fun k hk => by rw [up2_k (by decide)]; exact h.2.2.2 k hk⟩
  obtain ⟨I', a1, a2, a3⟩ := c_nextS (FU := FU) (pl := pl) (nm := nm) (hd := hd) hF h'
  refine ⟨I', ?_, a2, FC.trans ⟨fun q hq => up2_ne hq, fun j hj => up2_i (by omega)⟩ a3⟩
  unfold fX4_opens
  rw [fIb_48, h.2.1, if_pos (by rw [li_5, w_lt (by omega) (by omega)]; omega), fIb_48, h.2.1, li_1, nI_add, pIb_48, show rc 4 (some 48) = some 48 from rfl, w_bind, dn1 a1]
theorem c_opensN {i : Nat} (h : CSt b n r i 5 v I) : ∃ I', fX4_opens FU 48 (I, R0 pl nm hd (some r)) = some (nI 0, (I', R0 pl nm hd (some r))) ∧ CFt b n r i I' ∧ FC I I' := by
  obtain ⟨a1, a2, a3⟩ := c_fail (FU := FU) (pl := pl) (nm := nm) (hd := hd) h
  refine ⟨_, ?_, a2, a3⟩
  unfold fX4_opens
  rw [fIb_48, h.2.1, if_neg (by decide), show rc 4 (some 48) = some 48 from rfl, w_bind, dn1 a1]
  rfl
/-- once wrong, nothing is read any more -/
theorem cf_one {gE gO : Nat → Mem → Option (Int32 × Mem)} {j : Nat} (h : CFt b n r j I) : fX4_readOne FU gE gO 48 (I, R0 pl nm hd (some r)) = some (nI 0, (I, R0 pl nm hd (some r))) := by
  have s := sS_le (b := b) (n := n) j
  have h3 := h.2
  have n120 : n ≤ 120 := by obtain ⟨⟨k, hk⟩, _⟩ := h; exact hk.2.2.1
  unfold fX4_readOne fX4_readOne_b59
  rw [show rc 4 (some 48) = some 48 from rfl, w_bind, dn (c_isNowF h), if_pos (by decide), fIb_48, h3, if_pos (by rw [li_0, w_le (by omega) (by omega)]; omega), w_bind, dn (c_isNowF h), if_neg (fun q => q rfl), w_bind, dn (c_isNowF h), if_neg (fun q => q rfl), w_bind, dn1 (c_failF h)]
  rfl
end Par6
