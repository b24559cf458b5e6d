/-! texts: what the reference holds while it reads; what a code is worth -/
section Par2
variable {FU : Nat} {I J : Nat → Nat → Int32} {pl nm hd rd : Option Nat} {b : Nat → Int32} {n : Nat}
theorem gd_l {S T : List Int32} {j : Nat} (h : j < S.length) : (S ++ T).getD j 0 = S.getD j 0 := by
  simp [List.getD, List.getElem?_append_left h]
theorem gd_r {S : List Int32} {w : Int32} : (S ++ [w]).getD S.length 0 = w := by
  simp [List.getD]
/-- the reference in a part: token i, open o, what waits, what is out, brackets, which part, compared -/
def MS (b : Nat → Int32) (n i o : Nat) (S out : List Int32) (k spot : Nat) (c : Bool) (J : Nat → Nat → Int32) : Prop := TkJ b n i J ∧ (J 60 38 = nI S.length ∧ ∀ j, j < S.length → J 79 j = S.getD j 0) ∧ J 60 39 = nI k ∧ J 60 40 = nI o ∧ J 80 k = b01 (c = true) ∧ J 60 41 = nI spot ∧ (J 77 spot = nI out.length ∧ ∀ j, j < out.length → J 78 (120 * spot + j) = out.getD j 0) ∧ S.length + out.length ≤ i ∧ spot < 16 ∧ k ≤ 5 ∧ o ≤ 5
/-- what may change while a part is read -/
def FM (k spot : Nat) (J J' : Nat → Nat → Int32) : Prop := (∀ q, q ≠ 60 → q ≠ 77 → q ≠ 78 → q ≠ 79 → q ≠ 80 → J' q = J q) ∧ (∀ j, j ≠ spot → J' 77 j = J 77 j) ∧ (∀ j, j < 120 * spot ∨ 120 * spot + 120 ≤ j → J' 78 j = J 78 j) ∧ (∀ j, j < k → J' 80 j = J 80 j) ∧ (∀ j, j < 32 ∨ 40 < j → J' 60 j = J 60 j) ∧ J' 60 36 = J 60 36
theorem FM.refl {k spot : Nat} : FM k spot J J := ⟨fun _ _ _ _ _ _ => rfl, fun _ _ => rfl, fun _ _ => rfl, fun _ _ => rfl, fun _ _ => rfl, rfl⟩
theorem FM.trans {k spot : Nat} {J1 J2 : Nat → Nat → Int32} (a : FM k spot J J1) (b : FM k spot J1 J2) : FM k spot J J2 := ⟨fun q q1 q2 q3 q4 q5 => (b.1 q q1 q2 q3 q4 q5).trans (a.1 q q1 q2 q3 q4 q5), fun j hj => (b.2.1 j hj).trans (a.2.1 j hj), fun j hj => (b.2.2.1 j hj).trans (a.2.2.1 j hj), fun j hj => (b.2.2.2.1 j hj).trans (a.2.2.2.1 j hj), fun j hj => (b.2.2.2.2.1 j hj).trans (a.2.2.2.2.1 j hj), b.2.2.2.2.2.trans a.2.2.2.2.2⟩
theorem FM.mono {k k' spot : Nat} {J' : Nat → Nat → Int32} (a : FM k' spot J J') (h : k ≤ k') : FM k spot J J' := ⟨a.1, a.2.1, a.2.2.1, fun j hj => a.2.2.2.1 j (by omega), a.2.2.2.2.1, a.2.2.2.2.2⟩
theorem TkJ.keep {i : Nat} {J' : Nat → Nat → Int32} (h : TkJ b n i J) (h1 : J' 76 = J 76) (h2 : ∀ j, j = 27 ∨ j = 32 ∨ j = 33 ∨ j = 34 ∨ j = 35 → J' 60 j = J 60 j) : TkJ b n i J' := ⟨h.1.keep h1 (h2 27 (by omega)) (by rw [h2 32 (by omega), h.1.2.2.2.1]) h.1.2.2.2.2, by rw [h2 33 (by omega), h2 34 (by omega)]; exact h.2.1, by rw [h2 35 (by omega), h.2.2]⟩
theorem ms_next (hF : 99999999 ≤ FU) {i o k spot : Nat} {S out : List Int32} {c : Bool} (h : MS b n i o S out k spot c J) : ∃ J', fX9_next FU 60 (J, R0 pl nm hd rd) = some (J', R0 pl nm hd rd) ∧ MS b n (i + 1) o S out k spot c J' ∧ FM k spot J J' := by
  obtain ⟨h1, h2, h3, h4, h5, h6, h7, h8, h9⟩ := h
  obtain ⟨J', a1, a2, a3, a4⟩ := r_tok (FU := FU) (pl := pl) (nm := nm) (hd := hd) (rd := rd) hF h1
  refine ⟨J', a1, ⟨a2, ⟨by rw [a4 38 (by decide) (by decide) (by decide) (by decide), h2.1], fun j hj => by rw [a3 79 (by decide)]; exact h2.2 j hj⟩, by rw [a4 39 (by decide) (by decide) (by decide) (by decide), h3], by rw [a4 40 (by decide) (by decide) (by decide) (by decide), h4], by rw [a3 80 (by decide), h5], by rw [a4 41 (by decide) (by decide) (by decide) (by decide), h6], ⟨by rw [a3 77 (by decide), h7.1], fun j hj => by rw [a3 78 (by decide)]; exact h7.2 j hj⟩, by omega, h9⟩, ⟨fun q q1 _ _ _ _ => a3 q q1, fun j _ => by rw [a3 77 (by decide)], fun j _ => by rw [a3 78 (by decide)], fun j _ => by rw [a3 80 (by decide)], fun j hj => a4 j (by omega) (by omega) (by omega) (by omega), a4 36 (by decide) (by decide) (by decide) (by decide)⟩⟩
theorem r_put {w : Int32} {spot m : Nat} (h1 : J 60 41 = nI spot) (h2 : J 77 spot = nI m) (hs : spot < 16) (hm : m < 120) : fX9_put FU 60 w (J, R0 pl nm hd rd) = some (up2 (up2 J 78 (120 * spot + m) w) 77 spot (nI (m + 1)), R0 pl nm hd rd) := by
  have e : (120 : Int32) * nI spot + nI m = nI (120 * spot + m) := by simp (discharger := omega) only [li_0, li_1, li_2, li_3, li_4, li_5, li_6, li_7, li_8, li_9, li_10, li_11, li_12, li_13, li_14, li_15, li_16, li_17, li_18, li_19, li_20, li_21, li_22, li_23, li_24, li_25, li_26, li_27, li_28, li_29, li_30, li_31, li_32, li_33, li_34, li_35, li_36, li_37, li_38, li_39, li_40, li_41, li_42, li_43, li_44, li_45, li_46, li_47, li_48, li_49, li_50, li_51, li_52, li_53, li_54, li_55, li_56, li_57, li_58, li_59, li_60, li_61, li_62, li_63, li_64, li_65, li_66, li_67, li_68, li_69, li_70, li_71, li_72, li_73, li_74, li_75, li_76, li_77, li_78, li_79, li_80, li_81, li_82, li_83, li_84, li_85, li_86, li_87, li_88, li_89, li_90, li_91, li_92, li_93, li_94, li_95, li_96, li_97, li_98, li_99, li_100, li_101, li_102, li_103, li_104, li_105, li_106, li_107, li_108, li_109, li_110, li_111, li_112, li_113, li_114, li_115, li_116, li_117, li_118, li_119, li_120, li_121, li_122, li_123, li_124, li_125, li_126, li_127, li_128, li_144, li_150, li_200, li_255, li_384, li_512, li_999, li_1000, li_1024, li_1152, li_1920, li_3776, li_4096, li_9216, li_10000, li_100000, li_1073741824, li_m, w_lt, w_le, w_eq, w_mlt, w_mle, w_ltm, w_lem, w_meq, w_eqm, w_mm, w_mmlt, w_mmle, nI_add, w_sub, pk_mul, w_div, w_rem, w_and, w_or, w_shr, w_shl1, w_a31, w_andn]
  have x1 : up2 J 78 (120 * spot + m) w 60 41 = nI spot := by rw [up2_k (by decide), h1]
  have x2 : up2 J 78 (120 * spot + m) w 77 spot = nI m := by rw [up2_k (by decide), h2]
  unfold fX9_put
  rw [fRb_60_31, fIb_60, h1, fRb_60_30, fIb_60, h1, aIb_77 hs, h2, e, sIb_78 (by omega), fRb_60_30, fIb_60, x1, aIb_77 hs, x2, li_1, nI_add, sIb_77 hs]
/-- how many of them open -/
def nOp : List Int32 → Nat
  | [] => 0
  | w :: q => (if w = mI 3 ∨ w = mI 9 then 1 else 0) + nOp q
theorem nOp_app (p q : List Int32) : nOp (p ++ q) = nOp p + nOp q := by
  induction p with
  | nil => exact (Nat.zero_add _).symm
  | cons w p ih =>
    show (if w = mI 3 ∨ w = mI 9 then 1 else 0) + nOp (p ++ q) = (if w = mI 3 ∨ w = mI 9 then 1 else 0) + nOp p + nOp q
    rw [ih]
    omega
theorem nOp_rev (p : List Int32) : nOp p.reverse = nOp p := by
  induction p with
  | nil => rfl
  | cons w p ih =>
    rw [List.reverse_cons, nOp_app, ih]
    show nOp p + ((if w = mI 3 ∨ w = mI 9 then 1 else 0) + 0) = (if w = mI 3 ∨ w = mI 9 then 1 else 0) + nOp p
    omega
/-- what waits below binds less -/
def topL (S : List Int32) (l : Nat) : Prop := ∀ j, j + 1 = S.length → rk (S.getD j 0) < l
theorem r_settle {i k spot l : Nat} {S : List Int32} {c : Bool} (hl : l ≤ 7) (hi : i ≤ 120) (hS : topL S l) : ∀ (q : List Int32) (J : Nat → Nat → Int32) (out : List Int32) (o F : Nat), (∀ w, w ∈ q → l ≤ rk w) → MS b n i o (S ++ q.reverse) out k spot c J → q.length < F → nOp q ≤ o → ∃ J', fX9_settle_L0 FU 60 (nI l) F (J, R0 pl nm hd rd) = some (J', R0 pl nm hd rd) ∧ MS b n i (o - nOp q) S (out ++ q) k spot c J' ∧ FM k spot J J' := by
  intro q
  induction q with
  | nil =>
    intro J out o F hq h hF ho
    obtain ⟨G, rfl⟩ : ∃ G, F = G + 1 := ⟨F - 1, by omega⟩
    rw [List.reverse_nil, List.append_nil] at h
    have h' := h
    obtain ⟨h1, h2, h3, h4, h5, h6, h7, h8, h9⟩ := h
    refine ⟨J, ?_, by rw [List.append_nil]; exact h', FM.refl⟩
    rw [fX9_settle_L0, fIb_60, h2.1]
    by_cases z : S.length = 0
    · rw [if_pos (by rw [li_0, w_le (by omega) (by omega)]; omega)]
    · have tp := hS (S.length - 1) (by omega)
      have kk := rk_le (S.getD (S.length - 1) 0)
      rw [if_neg (by rw [li_0, w_le (by omega) (by omega)]; omega), fRb_60_36, fIb_60, h2.1, li_1, w_sub (by omega), aIb_79 (by omega), h2.2 _ (by omega), show rc 9 (some 60) = some 60 from rfl, w_bind, dn (r_rank _ _), if_pos (by rw [w_lt (by omega) (by omega)]; exact tp)]
  | cons w q ih =>
    intro J out o F hq h hF ho
    obtain ⟨G, rfl⟩ : ∃ G, F = G + 1 := ⟨F - 1, by omega⟩
    have hF : q.length + 1 < G + 1 := hF
    have eS : S ++ (w :: q).reverse = (S ++ q.reverse) ++ [w] := by rw [List.reverse_cons, List.append_assoc]
    rw [eS] at h
    generalize hB : S ++ q.reverse = B at h
    obtain ⟨h1, h2, h3, h4, h5, h6, h7, h8, h9, h10, h11⟩ := h
    have len : (B ++ [w]).length = B.length + 1 := by rw [List.length_append]; rfl
    rw [len] at h2 h8
    have top : J 79 B.length = w := by rw [h2.2 B.length (by omega), gd_r]
    have rw' := hq w (List.mem_cons_self ..)
    have kk := rk_le w
    generalize hT : up2 (up2 (up2 J 60 38 (nI B.length)) 78 (120 * spot + out.length) w) 77 spot (nI (out.length + 1)) = T
    have no : nOp (w :: q) = (if w = mI 3 ∨ w = mI 9 then 1 else 0) + nOp q := rfl
    have mk : ∀ (U : Nat → Nat → Int32) (o' : Nat), o' ≤ 5 → U 60 40 = nI o' → (∀ j, j ≠ 40 → U 60 j = T 60 j) → (∀ q, q ≠ 60 → U q = T q) → MS b n i o' (S ++ q.reverse) (out ++ [w]) k spot c U ∧ FM k spot J U := by
      intro U o' ho' u1 u2 u3
      have tj : ∀ j, j ≠ 38 → j ≠ 40 → U 60 j = J 60 j := fun j j1 j2 => by rw [u2 j j2, ← hT, up2_k (by decide), up2_k (by decide), up2_i j1]
      have tq : ∀ q, q ≠ 60 → q ≠ 77 → q ≠ 78 → U q = J q := fun q q1 q2 q3 => by rw [u3 q q1, ← hT, up2_ne q2, up2_ne q3, up2_ne q1]
      rw [hB]
      refine ⟨⟨h1.keep (tq 76 (by decide) (by decide) (by decide)) (fun j hj => tj j (by omega) (by omega)), ⟨by rw [u2 38 (by decide), ← hT, up2_k (by decide), up2_k (by decide), up2_s], fun j hj => by rw [tq 79 (by decide) (by decide) (by decide), h2.2 j (by omega), gd_l hj]⟩, by rw [tj 39 (by decide) (by decide), h3], u1, by rw [tq 80 (by decide) (by decide) (by decide), h5], by rw [tj 41 (by decide) (by decide), h6], ⟨?_, fun j hj => ?_⟩, ?_, h9, h10, ho'⟩, ⟨fun q q1 q2 q3 _ _ => tq q q1 q2 q3, fun j hj => by rw [u3 77 (by decide), ← hT, up2_i hj, up2_k (by decide), up2_k (by decide)], fun j hj => by rw [u3 78 (by decide), ← hT, up2_k (by decide), up2_i (by omega), up2_k (by decide)], fun j _ => by rw [tq 80 (by decide) (by decide) (by decide)], fun j hj => tj j (by omega) (by omega), tj 36 (by decide) (by decide)⟩⟩
      · rw [u3 77 (by decide), ← hT, up2_s, List.length_append]
        rfl
      · rw [List.length_append] at hj
        have hj : j < out.length + 1 := hj
        rw [u3 78 (by decide), ← hT, up2_k (by decide)]
        by_cases z : j = out.length
        · rw [z, up2_s, gd_r]
        · rw [up2_i (by omega), up2_k (by decide), h7.2 j (by omega), gd_l (by omega)]
      · rw [List.length_append]
        show B.length + (out.length + 1) ≤ i
        omega
    have s1 : fX9_put FU 60 w (up2 J 60 38 (nI B.length), R0 pl nm hd rd) = some (T, R0 pl nm hd rd) := by
      rw [r_put (spot := spot) (m := out.length) (by rw [up2_i (by decide), h6]) (by rw [up2_k (by decide), h7.1]) h9 (by omega), hT]
    have t38 : T 60 38 = nI B.length := by rw [← hT, up2_k (by decide), up2_k (by decide), up2_s]
    have t79 : T 79 B.length = w := by rw [← hT, up2_k (by decide), up2_k (by decide), up2_k (by decide), top]
    have t40 : T 60 40 = nI o := by rw [← hT, up2_k (by decide), up2_k (by decide), up2_i (by decide), h4]
    have x38 : up2 J 60 38 (nI B.length) 60 38 = nI B.length := up2_s
    have x79 : up2 J 60 38 (nI B.length) 79 B.length = w := by rw [up2_k (by decide), top]
    have head : fX9_settle_L0 FU 60 (nI l) (G + 1) (J, R0 pl nm hd rd) = if w = (-3 : Int32) then (fX9_settle_b77 FU (fX9_settle_L0 FU 60 (nI l) G) 60 (nI l) (T, R0 pl nm hd rd)) else (if ¬ w = (-9 : Int32) then (fX9_settle_L0 FU 60 (nI l) G) (T, R0 pl nm hd rd) else (fX9_settle_b77 FU (fX9_settle_L0 FU 60 (nI l) G) 60 (nI l) (T, R0 pl nm hd rd))) := by
      rw [fX9_settle_L0, fIb_60, h2.1, if_neg (by rw [li_0, w_le (by omega) (by omega)]; omega), fRb_60_36, fIb_60, h2.1, li_1, w_sub (by omega), show B.length + 1 - 1 = B.length by omega, aIb_79 (by omega), top, show rc 9 (some 60) = some 60 from rfl, w_bind, dn (r_rank _ _), if_neg (by rw [w_lt (by omega) (by omega)]; omega), fIb_60, h2.1, w_sub (by omega), show B.length + 1 - 1 = B.length by omega, pIb_60, fRb_60_36, fIb_60, x38, aIb_79 (by omega), x79, w_bind, dn1 s1, fRb_60_36, fIb_60, t38, aIb_79 (by omega), t79, fRb_60_36, fIb_60, t38, aIb_79 (by omega), t79]
    have opn' : (w = mI 3 ∨ w = mI 9) → ∃ J', fX9_settle_b77 FU (fX9_settle_L0 FU 60 (nI l) G) 60 (nI l) (T, R0 pl nm hd rd) = some (J', R0 pl nm hd rd) ∧ MS b n i (o - nOp (w :: q)) S (out ++ w :: q) k spot c J' ∧ FM k spot J J' := by
      intro ww
      rw [no, if_pos ww] at ho ⊢
      obtain ⟨m1, m2⟩ := mk (up2 T 60 40 (nI (o - 1))) (o - 1) (by omega) (by rw [up2_s]) (fun j hj => up2_i hj) (fun q hq => up2_ne hq)
      obtain ⟨J', a1, a2, a3⟩ := ih (up2 T 60 40 (nI (o - 1))) (out ++ [w]) (o - 1) G (fun v hv => hq v (List.mem_cons_of_mem _ hv)) m1 (by omega) (by omega)
      refine ⟨J', ?_, ?_, m2.trans a3⟩
      · unfold fX9_settle_b77
        rw [fIb_60, t40, li_1, w_sub (by omega), pIb_60]
        exact a1
      · rw [List.append_assoc] at a2
        rw [show o - (1 + nOp q) = o - 1 - nOp q by omega]
        exact a2
    rw [head]
    by_cases z3 : w = mI 3
    · rw [if_pos (show w = (-3 : Int32) from z3)]
      exact opn' (Or.inl z3)
    · have y3 : ¬ w = (-3 : Int32) := z3
      rw [if_neg y3]
      by_cases z9 : w = mI 9
      · rw [if_neg (fun h => h z9)]
        exact opn' (Or.inr z9)
      · have y9 : ¬ w = (-9 : Int32) := z9
        have nw : ¬ (w = mI 3 ∨ w = mI 9) := fun h => h.elim z3 z9
        rw [no, if_neg nw, Nat.zero_add] at ho ⊢
        rw [if_pos y9]
        obtain ⟨m1, m2⟩ := mk T o h11 t40 (fun _ _ => rfl) (fun _ _ => rfl)
        obtain ⟨J', a1, a2, a3⟩ := ih T (out ++ [w]) o G (fun v hv => hq v (List.mem_cons_of_mem _ hv)) m1 (by omega) (by omega)
        rw [List.append_assoc] at a2
        exact ⟨J', a1, a2, m2.trans a3⟩
theorem ms_settle (hF : 99999999 ≤ FU) {i o k spot l : Nat} {S pe out : List Int32} {c : Bool} (hl : l ≤ 7) (hi : i ≤ 120) (hS : topL S l) (hq : ∀ w, w ∈ pe → l ≤ rk w) (h : MS b n i (o + nOp pe) (S ++ pe) out k spot c J) : ∃ J', fX9_settle FU 60 (nI l) (J, R0 pl nm hd rd) = some (J', R0 pl nm hd rd) ∧ MS b n i o S (out ++ pe.reverse) k spot c J' ∧ FM k spot J J' := by
  have hlen := h.2.2.2.2.2.2.2.1
  rw [List.length_append] at hlen
  have e : S ++ pe.reverse.reverse = S ++ pe := by rw [List.reverse_reverse]
  rw [← e] at h
  obtain ⟨J', a1, a2, a3⟩ := r_settle (FU := FU) (pl := pl) (nm := nm) (hd := hd) (rd := rd) hl hi hS pe.reverse J out (o + nOp pe) FU (fun w hw => hq w (List.mem_reverse.mp hw)) h (by rw [List.length_reverse]; omega) (by rw [nOp_rev]; omega)
  rw [nOp_rev, Nat.add_sub_cancel] at a2
  exact ⟨J', a1, a2, a3⟩
/-- one more waits -/
theorem ms_hold {i o o' k spot : Nat} {S out : List Int32} {c : Bool} {w : Int32} (hi : i < 120) (hlen : S.length + out.length < i + 1) (ho : o' = o + if w = mI 3 ∨ w = mI 9 ∨ w = mI 10 then 1 else 0) (ho5 : o' ≤ 5) (h : MS b n i o S out k spot c J) : ∃ J', fX9_hold FU 60 w (J, R0 pl nm hd rd) = some (J', R0 pl nm hd rd) ∧ (∀ i', MS b n i o S out k spot c J → S.length + 1 + out.length ≤ i' → TkJ b n i' J' → MS b n i' o' (S ++ [w]) out k spot c J') ∧ TkJ b n i J' ∧ FM k spot J J' := by
  obtain ⟨h1, h2, h3, h4, h5, h6, h7, h8, h9, h10, h11⟩ := h
  generalize hT : up2 (up2 J 79 S.length w) 60 38 (nI (S.length + 1)) = T
  have x38 : up2 J 79 S.length w 60 38 = nI S.length := by rw [up2_k (by decide), h2.1]
  have head : fX9_hold FU 60 w (J, R0 pl nm hd rd) = if w = (-3 : Int32) then (fX9_hold_b38 FU 60 (T, R0 pl nm hd rd)) else (if w = (-9 : Int32) then (fX9_hold_b38 FU 60 (T, R0 pl nm hd rd)) else (if ¬ w = (-10 : Int32) then (some (T, R0 pl nm hd rd)) else (fX9_hold_b38 FU 60 (T, R0 pl nm hd rd)))) := by
    unfold fX9_hold
    rw [fRb_60_36, fIb_60, h2.1, sIb_79 (by omega), fIb_60, x38, li_1, nI_add, pIb_60, hT]
  have t40 : T 60 40 = nI o := by rw [← hT, up2_i (by decide), up2_k (by decide), h4]
  have mk : ∀ U : Nat → Nat → Int32, U 60 40 = nI o' → (∀ j, j ≠ 40 → U 60 j = T 60 j) → (∀ q, q ≠ 60 → U q = T q) → (∀ i', MS b n i o S out k spot c J → S.length + 1 + out.length ≤ i' → TkJ b n i' U → MS b n i' o' (S ++ [w]) out k spot c U) ∧ TkJ b n i U ∧ FM k spot J U := by
    intro U u1 u2 u3
    have tj : ∀ j, j ≠ 38 → j ≠ 40 → U 60 j = J 60 j := fun j j1 j2 => by rw [u2 j j2, ← hT, up2_i j1, up2_k (by decide)]
    have tq : ∀ q, q ≠ 60 → q ≠ 79 → U q = J q := fun q q1 q2 => by rw [u3 q q1, ← hT, up2_ne q1, up2_ne q2]
    refine ⟨fun i' _ hi' ht => ⟨ht, ⟨?_, fun j hj => ?_⟩, by rw [tj 39 (by decide) (by decide), h3], u1, by rw [tq 80 (by decide) (by decide), h5], by rw [tj 41 (by decide) (by decide), h6], ⟨by rw [tq 77 (by decide) (by decide), h7.1], fun j hj => by rw [tq 78 (by decide) (by decide)]; exact h7.2 j hj⟩, ?_, h9, h10, ho5⟩, h1.keep (tq 76 (by decide) (by decide)) (fun j hj => tj j (by omega) (by omega)), ⟨fun q q1 _ _ q4 _ => tq q q1 q4, fun j _ => by rw [tq 77 (by decide) (by decide)], fun j _ => by rw [tq 78 (by decide) (by decide)], fun j _ => by rw [tq 80 (by decide) (by decide)], fun j hj => tj j (by omega) (by omega), tj 36 (by decide) (by decide)⟩⟩
    · rw [u2 38 (by decide), ← hT, up2_s, List.length_append]
      rfl
    · rw [List.length_append] at hj
      have hj : j < S.length + 1 := hj
      rw [u3 79 (by decide), ← hT, up2_k (by decide)]
      by_cases z : j = S.length
      · rw [z, up2_s, gd_r]
      · rw [up2_i (by omega), h2.2 j (by omega), gd_l (by omega)]
    · rw [List.length_append]
      show S.length + 1 + out.length ≤ i'
      omega
  have opn' : (w = mI 3 ∨ w = mI 9 ∨ w = mI 10) → ∃ J', fX9_hold_b38 FU 60 (T, R0 pl nm hd rd) = some (J', R0 pl nm hd rd) ∧ (∀ i', MS b n i o S out k spot c J → S.length + 1 + out.length ≤ i' → TkJ b n i' J' → MS b n i' o' (S ++ [w]) out k spot c J') ∧ TkJ b n i J' ∧ FM k spot J J' := by
    intro ww
    rw [if_pos ww] at ho
    refine ⟨up2 T 60 40 (nI (o + 1)), ?_, mk _ (by rw [up2_s, ho]) (fun j hj => up2_i hj) (fun q hq => up2_ne hq)⟩
    unfold fX9_hold_b38
    rw [fIb_60, t40, li_1, nI_add, pIb_60]
  rw [head]
  by_cases z3 : w = mI 3
  · rw [if_pos (show w = (-3 : Int32) from z3)]
    exact opn' (Or.inl z3)
  · have y3 : ¬ w = (-3 : Int32) := z3
    rw [if_neg y3]
    by_cases z9 : w = mI 9
    · rw [if_pos (show w = (-9 : Int32) from z9)]
      exact opn' (Or.inr (Or.inl z9))
    · have y9 : ¬ w = (-9 : Int32) := z9
      rw [if_neg y9]
      by_cases z10 : w = mI 10
      · rw [if_neg (fun h => h z10)]
        exact opn' (Or.inr (Or.inr z10))
      · have y10 : ¬ w = (-10 : Int32) := z10
        rw [if_pos y10]
        rw [if_neg (fun h => h.elim z3 (fun h => h.elim z9 z10))] at ho
        exact ⟨T, rfl, mk T (by rw [t40, ho]; rfl) (fun _ _ => rfl) (fun _ _ => rfl)⟩
end Par2
