/-! hidden: what both reckon; the class's look behind -/
section Hid1
variable {FU ver : Nat} {P : Pln} {I J : Nat → Nat → Int32} {pl nm hd rd : Option Nat}
/-- all from a on, d of them -/
def allF (p : Nat → Bool) : Nat → Nat → Bool
  | _, 0 => true
  | a, d + 1 => p a && allF p (a + 1) d
theorem allF_iff {p : Nat → Bool} : ∀ d a, allF p a d = true ↔ ∀ j, a ≤ j → j < a + d → p j = true := by
  intro d
  induction d with
  | zero => exact fun a => ⟨fun _ j j1 j2 => by omega, fun _ => rfl⟩
  | succ d ih =>
    intro a
    show (p a && allF p (a + 1) d) = true ↔ _
    rw [Bool.and_eq_true, ih]
    constructor
    · rintro ⟨h1, h2⟩ j j1 j2
      by_cases z : j = a
      · rw [z]; exact h1
      · exact h2 j (by omega) (by omega)
    · intro h
      exact ⟨h a (by omega) (by omega), fun j j1 j2 => h j (by omega) (by omega)⟩
/-- sure, whatever the second look tells -/
def alD (P : Pln) (T : Nat → Bool) (seen set : Nat) : Bool := T (andn set seen) && allF (fun y => !(set.testBit y && seen.testBit y) || T (2 ^ y)) 0 (Pp P)
/-- sure behind the hunters' move, whatever the first look tells -/
def isM (P : Pln) (T : Nat → Bool) (h i set : Nat) : Bool := allF (fun x => !(set.testBit x && (seeH P h i).testBit x) || alD P T (seeH P h i) (rch P x h i 0)) 0 (Pp P) && alD P T (seeH P h i) (runsS P (andn set (seeH P h i)) h i 0)
/-- in how many rounds it is sure, r of them reckoned -/
def lv (P : Pln) : Nat → Nat → Nat → Nat → Option Nat
  | 0, _, _, set => if set = 0 then some 0 else none
  | r + 1, h, i, set => match lv P r h i set with
    | some j => some j
    | none => if anyB (fun m => match pAft P h i m with
        | none => false
        | some q => isM P (fun s => (lv P r q.1 q.2 s).isSome) q.1 q.2 (andn set (plcM q.1 q.2))) 33 = true then some (r + 1) else none
/-- the same behind the hunters' move -/
def mv (P : Pln) : Nat → Nat → Nat → Nat → Nat
  | 0, _, _, _ => 0
  | r + 1, h, i, set => if mv P r h i set ≠ 0 then mv P r h i set else if isM P (fun s => (lv P r h i s).isSome) h i set = true then r + 1 else 0
theorem lv_le (r h i set j : Nat) (e : lv P r h i set = some j) : j ≤ r := by
  induction r with
  | zero =>
    unfold lv at e
    split at e
    · have e := Option.some.inj e
      omega
    · cases e
  | succ r ih =>
    unfold lv at e
    cases q : lv P r h i set with
    | some k =>
      rw [q] at e
      have e := Option.some.inj e
      have := ih (by rw [q, e])
      omega
    | none =>
      rw [q] at e
      simp only at e
      split at e
      · have e := Option.some.inj e
        omega
      · cases e
theorem mv_le (r h i set : Nat) : mv P r h i set ≤ r := by
  induction r with
  | zero => exact Nat.le_refl 0
  | succ r ih =>
    unfold mv
    split
    · omega
    · split <;> omega
theorem oI_le {o : Option Nat} (h : ∀ j, o = some j → j < 2 ^ 31) : ((0 : Int32) ≤ oI o) = (o.isSome = true) := by
  cases o with
  | none => exact propext ⟨fun h => absurd h (by decide), fun h => by cases h⟩
  | some j =>
    have := h j rfl
    show ((0 : Int32) ≤ nI j) = _
    rw [li_0, w_le (by omega) this]
    exact propext ⟨fun _ => rfl, fun _ => Nat.zero_le j⟩
theorem pw_p {x p : Nat} (hx : x < p) (p6 : p ≤ 6) : 2 ^ x < 2 ^ p ∧ 2 ^ p ≤ 64 ∧ 2 ^ x ≤ 32 := by
  refine ⟨Nat.pow_lt_pow_right (by decide) hx, ?_, ?_⟩
  · exact Nat.pow_le_pow_right (n := 2) (by decide) p6
  · exact Nat.pow_le_pow_right (n := 2) (j := 5) (by decide) (by omega)
theorem c_isSure (hF : 99999999 ≤ FU) (hC : PlC 1 P I) (hW : WfP P) (p6 : Pp P ≤ 6) {k set seen : Nat} (hk : k < 64) (hset : set < 2 ^ Pp P) (h5 : I 31 5 = nI seen) {lf : Nat → Option Nat} (hb : ∀ s j, lf s = some j → j < 2 ^ 31) (hL : ∀ s, s < 2 ^ Pp P → I 32 (k * 64 + s) = oI (lf s)) : fX1_isSureBehind FU 31 (nI k) (nI set) (I, R0 pl nm (some 1) rd) = some (b01 (alD P (fun s => (lf s).isSome) seen set = true), (I, R0 pl nm (some 1) rd)) := by
  have hp := wf_p hW
  have p64 : 2 ^ Pp P ≤ 64 := Nat.pow_le_pow_right (n := 2) (by decide) p6
  have c0 := hC.1
  have loop : ∀ d y F, d + y = Pp P → d < F → fX1_isSureBehind_L28 FU 31 (nI set) (nI (k * 64)) F (nI y) (I, R0 pl nm (some 1) rd) = some (b01 (allF (fun y => !(set.testBit y && seen.testBit y) || (lf (2 ^ y)).isSome) y d = true), (I, R0 pl nm (some 1) rd)) := by
    intro d
    induction d with
    | zero =>
      intro y F h1 h2
      obtain ⟨G, rfl⟩ : ∃ G, F = G + 1 := ⟨F - 1, by omega⟩
      rw [fX1_isSureBehind_L28, fRb_31_1, fIb_1, c0, if_pos (by rw [w_le (by omega) (by omega)]; omega)]
      rfl
    | succ d ih =>
      intro y F h1 h2
      obtain ⟨G, rfl⟩ : ∃ G, F = G + 1 := ⟨F - 1, by omega⟩
      have f0 : ¬ nI (Pp P) ≤ nI y := by rw [w_le (by omega) (by omega)]; omega
      have hy := pw_p (x := y) (p := Pp P) (by omega) p6
      have c1 : (((nI set &&& nI seen) &&& ((1 : Int32) <<< (nI y &&& 31))) = 0) = ((set.testBit y && seen.testBit y) = false) := by
        rw [← Nat.testBit_and]
        have l : set &&& seen < 2 ^ 31 := Nat.lt_of_le_of_lt Nat.and_le_left (by omega)
        have l2 : set &&& seen &&& 2 ^ y < 2 ^ 31 := Nat.lt_of_le_of_lt Nat.and_le_left l
        clear hL ih
        simp (discharger := omega) only [li_0, li_1, li_2, li_3, li_4, li_5, li_6, li_7, li_8, li_9, li_10, li_11, li_12, li_13, li_14, li_15, li_16, li_17, li_18, li_19, li_20, li_21, li_22, li_23, li_24, li_25, li_26, li_27, li_28, li_29, li_30, li_31, li_32, li_33, li_34, li_35, li_36, li_37, li_38, li_39, li_40, li_41, li_42, li_43, li_44, li_45, li_46, li_47, li_48, li_49, li_50, li_51, li_52, li_53, li_54, li_55, li_56, li_57, li_58, li_59, li_60, li_61, li_62, li_63, li_64, li_65, li_66, li_67, li_68, li_69, li_70, li_71, li_72, li_73, li_74, li_75, li_76, li_77, li_78, li_79, li_80, li_81, li_82, li_83, li_84, li_85, li_86, li_87, li_88, li_89, li_90, li_91, li_92, li_93, li_94, li_95, li_96, li_97, li_98, li_99, li_100, li_101, li_102, li_103, li_104, li_105, li_106, li_107, li_108, li_109, li_110, li_111, li_112, li_113, li_114, li_115, li_116, li_117, li_118, li_119, li_120, li_121, li_122, li_123, li_124, li_125, li_126, li_127, li_128, li_144, li_150, li_200, li_255, li_384, li_512, li_999, li_1000, li_1024, li_1152, li_1920, li_3776, li_4096, li_9216, li_10000, li_100000, li_1073741824, li_m, w_lt, w_le, w_eq, w_mlt, w_mle, w_ltm, w_lem, w_meq, w_eqm, w_mm, w_mmlt, w_mmle, nI_add, w_sub, pk_mul, w_div, w_rem, w_and, w_or, w_shr, w_shl1, w_a31, w_andn, w_and2]
      have e1 : nI (k * 64) + (1 : Int32) <<< (nI y &&& 31) = nI (k * 64 + 2 ^ y) := by
        clear hL ih
        simp (discharger := omega) only [li_0, li_1, li_2, li_3, li_4, li_5, li_6, li_7, li_8, li_9, li_10, li_11, li_12, li_13, li_14, li_15, li_16, li_17, li_18, li_19, li_20, li_21, li_22, li_23, li_24, li_25, li_26, li_27, li_28, li_29, li_30, li_31, li_32, li_33, li_34, li_35, li_36, li_37, li_38, li_39, li_40, li_41, li_42, li_43, li_44, li_45, li_46, li_47, li_48, li_49, li_50, li_51, li_52, li_53, li_54, li_55, li_56, li_57, li_58, li_59, li_60, li_61, li_62, li_63, li_64, li_65, li_66, li_67, li_68, li_69, li_70, li_71, li_72, li_73, li_74, li_75, li_76, li_77, li_78, li_79, li_80, li_81, li_82, li_83, li_84, li_85, li_86, li_87, li_88, li_89, li_90, li_91, li_92, li_93, li_94, li_95, li_96, li_97, li_98, li_99, li_100, li_101, li_102, li_103, li_104, li_105, li_106, li_107, li_108, li_109, li_110, li_111, li_112, li_113, li_114, li_115, li_116, li_117, li_118, li_119, li_120, li_121, li_122, li_123, li_124, li_125, li_126, li_127, li_128, li_144, li_150, li_200, li_255, li_384, li_512, li_999, li_1000, li_1024, li_1152, li_1920, li_3776, li_4096, li_9216, li_10000, li_100000, li_1073741824, li_m, w_lt, w_le, w_eq, w_mlt, w_mle, w_ltm, w_lem, w_meq, w_eqm, w_mm, w_mmlt, w_mmle, nI_add, w_sub, pk_mul, w_div, w_rem, w_and, w_or, w_shr, w_shl1, w_a31, w_andn]
      have e2 := hL (2 ^ y) hy.1
      have nx := ih (y + 1) G (by omega) (by omega)
      have st : allF (fun y => !(set.testBit y && seen.testBit y) || (lf (2 ^ y)).isSome) y (d + 1) = ((!(set.testBit y && seen.testBit y) || (lf (2 ^ y)).isSome) && allF (fun y => !(set.testBit y && seen.testBit y) || (lf (2 ^ y)).isSome) (y + 1) d) := rfl
      rw [fX1_isSureBehind_L28, fRb_31_1, fIb_1, c0, if_neg f0, fIb_31, h5, st]
      unfold fX1_isSureBehind_b70
      rw [li_1, nI_add, ← li_1]
      by_cases z : (set.testBit y && seen.testBit y) = false
      · rw [if_pos (by rw [c1]; exact z), nx, z]
        rfl
      · have z2 : (set.testBit y && seen.testBit y) = true := by simpa using z
        rw [if_neg (by rw [c1]; exact z), fRb_31_2, e1, aIb_32 (by omega), e2, z2]
        have q := oI_le (o := lf (2 ^ y)) (fun j hj => hb _ j hj)
        by_cases w : (lf (2 ^ y)).isSome = true
        · rw [if_pos (by rw [q]; exact w), nx, w]
          rfl
        · have w2 : (lf (2 ^ y)).isSome = false := by simpa using w
          rw [if_neg (by rw [q]; exact w), w2]
          rfl
  have al := andn_le set seen
  have e0 : (nI k * (64 : Int32)) + (nI set &&& (nI seen ^^^ (-1 : Int32))) = nI (k * 64 + andn set seen) := by
    clear hL loop
    simp (discharger := omega) only [li_0, li_1, li_2, li_3, li_4, li_5, li_6, li_7, li_8, li_9, li_10, li_11, li_12, li_13, li_14, li_15, li_16, li_17, li_18, li_19, li_20, li_21, li_22, li_23, li_24, li_25, li_26, li_27, li_28, li_29, li_30, li_31, li_32, li_33, li_34, li_35, li_36, li_37, li_38, li_39, li_40, li_41, li_42, li_43, li_44, li_45, li_46, li_47, li_48, li_49, li_50, li_51, li_52, li_53, li_54, li_55, li_56, li_57, li_58, li_59, li_60, li_61, li_62, li_63, li_64, li_65, li_66, li_67, li_68, li_69, li_70, li_71, li_72, li_73, li_74, li_75, li_76, li_77, li_78, li_79, li_80, li_81, li_82, li_83, li_84, li_85, li_86, li_87, li_88, li_89, li_90, li_91, li_92, li_93, li_94, li_95, li_96, li_97, li_98, li_99, li_100, li_101, li_102, li_103, li_104, li_105, li_106, li_107, li_108, li_109, li_110, li_111, li_112, li_113, li_114, li_115, li_116, li_117, li_118, li_119, li_120, li_121, li_122, li_123, li_124, li_125, li_126, li_127, li_128, li_144, li_150, li_200, li_255, li_384, li_512, li_999, li_1000, li_1024, li_1152, li_1920, li_3776, li_4096, li_9216, li_10000, li_100000, li_1073741824, li_m, w_lt, w_le, w_eq, w_mlt, w_mle, w_ltm, w_lem, w_meq, w_eqm, w_mm, w_mmlt, w_mmle, nI_add, w_sub, pk_mul, w_div, w_rem, w_and, w_or, w_shr, w_shl1, w_a31, w_andn]
  have e1 : nI k * (64 : Int32) = nI (k * 64) := by
    clear hL loop
    simp (discharger := omega) only [li_0, li_1, li_2, li_3, li_4, li_5, li_6, li_7, li_8, li_9, li_10, li_11, li_12, li_13, li_14, li_15, li_16, li_17, li_18, li_19, li_20, li_21, li_22, li_23, li_24, li_25, li_26, li_27, li_28, li_29, li_30, li_31, li_32, li_33, li_34, li_35, li_36, li_37, li_38, li_39, li_40, li_41, li_42, li_43, li_44, li_45, li_46, li_47, li_48, li_49, li_50, li_51, li_52, li_53, li_54, li_55, li_56, li_57, li_58, li_59, li_60, li_61, li_62, li_63, li_64, li_65, li_66, li_67, li_68, li_69, li_70, li_71, li_72, li_73, li_74, li_75, li_76, li_77, li_78, li_79, li_80, li_81, li_82, li_83, li_84, li_85, li_86, li_87, li_88, li_89, li_90, li_91, li_92, li_93, li_94, li_95, li_96, li_97, li_98, li_99, li_100, li_101, li_102, li_103, li_104, li_105, li_106, li_107, li_108, li_109, li_110, li_111, li_112, li_113, li_114, li_115, li_116, li_117, li_118, li_119, li_120, li_121, li_122, li_123, li_124, li_125, li_126, li_127, li_128, li_144, li_150, li_200, li_255, li_384, li_512, li_999, li_1000, li_1024, li_1152, li_1920, li_3776, li_4096, li_9216, li_10000, li_100000, li_1073741824, li_m, w_lt, w_le, w_eq, w_mlt, w_mle, w_ltm, w_lem, w_meq, w_eqm, w_mm, w_mmlt, w_mmle, nI_add, w_sub, pk_mul, w_div, w_rem, w_and, w_or, w_shr, w_shl1, w_a31, w_andn]
  have q := oI_le (o := lf (andn set seen)) (fun j hj => hb _ j hj)
  unfold fX1_isSureBehind
  rw [fRb_31_2, fIb_31, h5, e0, aIb_32 (by omega), hL _ (by omega), e1]
  have sd : alD P (fun s => (lf s).isSome) seen set = ((lf (andn set seen)).isSome && allF (fun y => !(set.testBit y && seen.testBit y) || (lf (2 ^ y)).isSome) 0 (Pp P)) := rfl
  rw [sd]
  by_cases w : (lf (andn set seen)).isSome = true
  · rw [if_pos (by rw [q]; exact w), w, Bool.true_and, li_0]
    exact loop (Pp P) 0 FU (by omega) (by omega)
  · have w2 : (lf (andn set seen)).isSome = false := by simpa using w
    rw [if_neg (by rw [q]; exact w), w2]
    rfl
theorem orS_low {s x : Nat} {f : Nat → Nat} (hs : s < 2 ^ x) : orS s f (x + 1) = orS s f x := orS_n (tb_of_lt hs (Nat.le_refl x))
theorem orS_cg {s t x : Nat} {f : Nat → Nat} (h : ∀ j, j < x → s.testBit j = t.testBit j) : orS s f x = orS t f x := by
  unfold orS
  apply mk_congr
  intro y _
  induction x with
  | zero => rfl
  | succ x ih =>
    rw [anyB_s, anyB_s, ih (fun j hj => h j (by omega)), h x (by omega)]
theorem orS_high {s x : Nat} {f : Nat → Nat} (hs : s < 2 ^ x) (hf : f x < 256) : orS (2 ^ x + s) f (x + 1) = orS s f x ||| f x := by
  have b1 : (2 ^ x + s).testBit x = true := by
    rw [Nat.testBit_two_pow_add_eq, tb_of_lt hs (Nat.le_refl x)]
    rfl
  rw [orS_y b1 hf, orS_cg (s := 2 ^ x + s) (t := s) (fun j hj => Nat.testBit_two_pow_add_gt hj s)]
theorem c_reach39 {k : Int32} {x v : Nat} {o : Nat → Nat} (hx : x ≤ 5) {K : Int32 → Mem → Option Mem} : ∀ e b I F, e + b = 2 ^ x → e < F → (∀ s, s < 2 ^ x → I 34 s = nI (o s)) → ∃ I', fX1_reckonReached_L39 FU K 31 k (nI x) (nI v) (nI (2 ^ x)) F (nI b) (I, R0 pl nm hd rd) = K (nI (x + 1)) (I', R0 pl nm hd rd) ∧ (∀ s, s < 2 ^ x + b → I' 34 s = I 34 s) ∧ (∀ s, b ≤ s → s < 2 ^ x → I' 34 (2 ^ x + s) = nI (o s ||| v)) ∧ (∀ q, q ≠ 34 → I' q = I q) := by
  have x5 : 2 ^ x ≤ 32 := Nat.pow_le_pow_right (n := 2) (j := 5) (by decide) hx
  intro e
  induction e with
  | zero =>
    intro b I F h1 h2 h3
    obtain ⟨G, rfl⟩ : ∃ G, F = G + 1 := ⟨F - 1, by omega⟩
    refine ⟨I, ?_, fun _ _ => rfl, fun s s1 s2 => by omega, fun _ _ => rfl⟩
    rw [fX1_reckonReached_L39, if_pos (by rw [w_le (by omega) (by omega)]; omega), li_1, nI_add]
  | succ e ih =>
    intro b I F h1 h2 h3
    obtain ⟨G, rfl⟩ : ∃ G, F = G + 1 := ⟨F - 1, by omega⟩
    have f0 : ¬ nI (2 ^ x) ≤ nI b := by rw [w_le (by omega) (by omega)]; omega
    obtain ⟨I', a1, a2, a3, a4⟩ := ih (b + 1) (up2 I 34 (2 ^ x + b) (nI (o b ||| v))) G (by omega) (by omega) (fun s hs => by rw [up2_i (by omega)]; exact h3 s hs)
    refine ⟨I', ?_, fun s hs => ?_, fun s s1 s2 => ?_, fun q hq => ?_⟩
    · rw [fX1_reckonReached_L39, if_neg f0, fRb_31_4, fRb_31_4, aIb_34 (by omega), h3 b (by omega), nI_add, w_or, sIb_34 (by omega), li_1, nI_add]
      exact a1
    · rw [a2 s (by omega), up2_i (by omega)]
    · by_cases z : s = b
      · subst z
        rw [a2 (2 ^ x + s) (by omega), up2_s]
      · exact a3 s (by omega) s2
    · rw [a4 q hq, up2_ne hq]
theorem c_reach9 (hF : 99999999 ≤ FU) (hW : WfP P) (p6 : Pp P ≤ 6) {h i : Nat} (hh : h < 8) (hi : i < 8) : ∀ d x I F, d + x = Pp P → d < F → PlC 1 P I → (∀ s, s < 2 ^ x → I 34 s = nI (orS s (fun x => rch P x h i 0) x)) → ∃ I', fX1_reckonReached_L9 FU 31 (nI (h * 8 + i)) F (nI x) (I, R0 pl nm (some 1) rd) = some (I', R0 pl nm (some 1) rd) ∧ (∀ s, s < 2 ^ Pp P → I' 34 s = nI (orS s (fun x => rch P x h i 0) (Pp P))) ∧ (∀ q, q ≠ 34 → I' q = I q) := by
  have hc : (1 : Nat) = 1 ∨ (1 : Nat) = 9 := Or.inl rfl
  intro d
  induction d with
  | zero =>
    intro x I F h1 h2 hC h3
    obtain ⟨G, rfl⟩ : ∃ G, F = G + 1 := ⟨F - 1, by omega⟩
    have e : x = Pp P := by omega
    subst e
    refine ⟨I, ?_, h3, fun _ _ => rfl⟩
    rw [fX1_reckonReached_L9, fRb_31_1, fIb_1, hC.1, if_pos (by rw [w_le (by omega) (by omega)]; omega)]
  | succ d ih =>
    intro x I F h1 h2 hC h3
    obtain ⟨G, rfl⟩ : ∃ G, F = G + 1 := ⟨F - 1, by omega⟩
    have f0 : ¬ nI (Pp P) ≤ nI x := by rw [w_le (by omega) (by omega)]; omega
    have x5 : 2 ^ x ≤ 32 := Nat.pow_le_pow_right (n := 2) (j := 5) (by decide) (by omega)
    have dr := c_reachOf (FU := FU) (pl := pl) (nm := nm) (hd := some 1) (rd := rd) hF hc hC hW (x := x) (h := h) (i := i) (sh := 0) (by omega) hh hi (by decide)
    obtain ⟨I1, a1, a2, a3, a4⟩ := c_reach39 (FU := FU) (pl := pl) (nm := nm) (hd := some 1) (rd := rd) (k := nI (h * 8 + i)) (v := rch P x h i 0) (o := fun s => orS s (fun x => rch P x h i 0) x) (K := fX1_reckonReached_L9 FU 31 (nI (h * 8 + i)) G) (x := x) (by omega) (2 ^ x) 0 I FU (by omega) (by omega) h3
    have hC1 : PlC 1 P I1 := hC.congr (fun q _ _ => a4 q (by omega))
    have rl := rch_lt (P := P) x h i 0
    obtain ⟨I2, b1, b2, b3⟩ := ih (x + 1) I1 G (by omega) (by omega) hC1 (fun s hs => by
      rw [Nat.pow_succ] at hs
      by_cases z : s < 2 ^ x
      · rw [a2 s (by omega), h3 s z, orS_low z]
      · have := a3 (s - 2 ^ x) (by omega) (by omega)
        rw [show 2 ^ x + (s - 2 ^ x) = s by omega] at this
        rw [this, ← orS_high (f := fun x => rch P x h i 0) (x := x) (s := s - 2 ^ x) (by omega) rl, show 2 ^ x + (s - 2 ^ x) = s by omega])
    refine ⟨I2, ?_, b2, fun q hq => (b3 q hq).trans (a4 q hq)⟩
    rw [fX1_reckonReached_L9, fRb_31_1, fIb_1, hC.1, if_neg f0, fRb_31_1, show rc 3 (some 1) = some 1 from rfl, w_bind, li_0, dn dr]
    have e1 : (1 : Int32) <<< (nI x &&& 31) = nI (2 ^ x) := by simp (discharger := omega) only [li_0, li_1, li_2, li_3, li_4, li_5, li_6, li_7, li_8, li_9, li_10, li_11, li_12, li_13, li_14, li_15, li_16, li_17, li_18, li_19, li_20, li_21, li_22, li_23, li_24, li_25, li_26, li_27, li_28, li_29, li_30, li_31, li_32, li_33, li_34, li_35, li_36, li_37, li_38, li_39, li_40, li_41, li_42, li_43, li_44, li_45, li_46, li_47, li_48, li_49, li_50, li_51, li_52, li_53, li_54, li_55, li_56, li_57, li_58, li_59, li_60, li_61, li_62, li_63, li_64, li_65, li_66, li_67, li_68, li_69, li_70, li_71, li_72, li_73, li_74, li_75, li_76, li_77, li_78, li_79, li_80, li_81, li_82, li_83, li_84, li_85, li_86, li_87, li_88, li_89, li_90, li_91, li_92, li_93, li_94, li_95, li_96, li_97, li_98, li_99, li_100, li_101, li_102, li_103, li_104, li_105, li_106, li_107, li_108, li_109, li_110, li_111, li_112, li_113, li_114, li_115, li_116, li_117, li_118, li_119, li_120, li_121, li_122, li_123, li_124, li_125, li_126, li_127, li_128, li_144, li_150, li_200, li_255, li_384, li_512, li_999, li_1000, li_1024, li_1152, li_1920, li_3776, li_4096, li_9216, li_10000, li_100000, li_1073741824, li_m, w_lt, w_le, w_eq, w_mlt, w_mle, w_ltm, w_lem, w_meq, w_eqm, w_mm, w_mmlt, w_mmle, nI_add, w_sub, pk_mul, w_div, w_rem, w_and, w_or, w_shr, w_shl1, w_a31, w_andn]
    rw [e1, a1, b1]
theorem c_reached (hF : 99999999 ≤ FU) (hC : PlC 1 P I) (hW : WfP P) (p6 : Pp P ≤ 6) {h i : Nat} (hh : h < 8) (hi : i < 8) : ∃ I', fX1_reckonReached FU 31 (nI (h * 8 + i)) (I, R0 pl nm (some 1) rd) = some (I', R0 pl nm (some 1) rd) ∧ (∀ s, s < 2 ^ Pp P → I' 34 s = nI (runsS P s h i 0)) ∧ (∀ q, q ≠ 34 → I' q = I q) := by
  obtain ⟨I', a1, a2, a3⟩ := c_reach9 (FU := FU) (pl := pl) (nm := nm) (rd := rd) hF hW p6 hh hi (Pp P) 0 (up2 I 34 0 (nI 0)) FU (by omega) (by omega) (hC.congr (fun q _ _ => up2_ne (by omega))) (fun s hs => by
    have : s = 0 := by
      rw [Nat.pow_zero] at hs
      omega
    subst this
    rw [up2_s, orS_0])
  refine ⟨I', ?_, a2, fun q hq => by rw [a3 q hq, up2_ne hq]⟩
  unfold fX1_reckonReached
  rw [fRb_31_4, li_0, sIb_34 (by decide), a1]
end Hid1
