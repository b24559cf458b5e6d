/-! turnings, the reference: isRight, nextTurning -/
section Nam6
variable {FU ver : Nat} {P : Pln} {I J : Nat → Nat → Int32} {pl nm hd rd : Option Nat}
theorem b01_inj {a b : Bool} : (b01 (a = true) = b01 (b = true)) ↔ a = b := by
  cases a <;> cases b <;> decide
theorem pg_wh {a b : Nat} (ha : Pg P a < 4) (hb : Pg P b < 4) : (isWl P a = isWl P b ∧ isHl P a = isHl P b) ↔ Pg P a = Pg P b := by
  unfold isWl isHl
  constructor
  · rintro ⟨h1, h2⟩
    have h1 : (Pg P a % 2 == 1) = (Pg P b % 2 == 1) := h1
    have h2 : decide (2 ≤ Pg P a) = decide (2 ≤ Pg P b) := h2
    rw [Bool.eq_iff_iff, beq_iff_eq, beq_iff_eq] at h1
    rw [decide_eq_decide] at h2
    omega
  · intro h
    rw [h]
    exact ⟨rfl, rfl⟩
theorem r_isRight (hF : 99999999 ≤ FU) (hR : PlR P J) (hW : WfP P) (hJ : RJ P (Pn P) J) {f : Nat → Nat} {x y : Nat} (hx : x < Pp P) (hy : y < Pp P) (hf : ∀ o, o < x → f o < Pp P) (hN : ∀ o, o < x → J 68 o = nI (f o)) (hx' : J 68 x = nI y) : fX9_isRight FU 60 (nI x) (J, R0 pl nm hd rd) = some (b01 (okB P f x y = true), (J, R0 pl nm hd rd)) := by
  have hp := wf_p hW
  have hn := wf_n hW
  have wx := hR.2.2.2.2.2.2.2.1 x hx
  have wy := hR.2.2.2.2.2.2.2.1 y hy
  have lx := hR.2.2.2.2.2.2.2.2 x hx
  have ly := hR.2.2.2.2.2.2.2.2 y hy
  have pw := pg_wh (P := P) (wf_g hW hx) (wf_g hW hy)
  unfold fX9_isRight
  rw [fRb_60_12, aIb_68 (by omega), hx', fRb_60_7, aIb_64 (by omega), wx, fRb_60_7, aIb_64 (by omega), wy, fRb_60_8, aIb_65 (by omega), lx, fRb_60_8, aIb_65 (by omega), ly]
  by_cases gr : Pg P x = Pg P y
  · have q := pw.mpr gr
    rw [if_neg (fun h => h (b01_inj.mpr q.1)), if_pos (b01_inj.mpr q.2)]
    have okf : okB P f x y = allF (fun o => !(f o == y) && ((jt P x o == jt P y (f o)) && (jt P o x == jt P (f o) y))) 0 x := by
      unfold okB
      rw [beq_iff_eq.mpr gr, Bool.true_and]
    rw [okf]
    have loop : ∀ d o F, d + o = x → d < F → fX9_isRight_L41 FU 60 (nI x) (nI y) F (nI o) (J, R0 pl nm hd rd) = some (b01 (allF (fun o => !(f o == y) && ((jt P x o == jt P y (f o)) && (jt P o x == jt P (f o) y))) o d = true), (J, R0 pl nm hd rd)) := by
      intro d
      induction d with
      | zero =>
        intro o F h1 h2
        obtain ⟨G, rfl⟩ : ∃ G, F = G + 1 := ⟨F - 1, by omega⟩
        rw [fX9_isRight_L41, if_pos (by rw [w_le (by omega) (by omega)]; omega)]
        rfl
      | succ d ih =>
        intro o F h1 h2
        obtain ⟨G, rfl⟩ : ∃ G, F = G + 1 := ⟨F - 1, by omega⟩
        have f0 : ¬ nI x ≤ nI o := by rw [w_le (by omega) (by omega)]; omega
        have no := hN o (by omega)
        have fo := hf o (by omega)
        have nx := ih (o + 1) G (by omega) (by omega)
        have st : allF (fun o => !(f o == y) && ((jt P x o == jt P y (f o)) && (jt P o x == jt P (f o) y))) o (d + 1) = ((!(f o == y) && ((jt P x o == jt P y (f o)) && (jt P o x == jt P (f o) y))) && allF (fun o => !(f o == y) && ((jt P x o == jt P y (f o)) && (jt P o x == jt P (f o) y))) (o + 1) d) := rfl
        rw [fX9_isRight_L41, if_neg f0, fRb_60_12, aIb_68 (by omega), no, st]
        by_cases z : f o = y
        · have hh : ((!(f o == y) && ((jt P x o == jt P y (f o)) && (jt P o x == jt P (f o) y))) && allF (fun o => !(f o == y) && ((jt P x o == jt P y (f o)) && (jt P o x == jt P (f o) y))) (o + 1) d) = false := by
            simp [z]
          rw [if_neg (fun h => h (by rw [z])), hh]
          rfl
        · rw [if_pos (by rw [w_eq (by omega) (by omega)]; exact z)]
          have inner : ∀ e k F, e + k = 6 → e < F → (∀ k', k' < k → jc P k' x o (Pn P) = jc P k' y (f o) (Pn P) ∧ jc P k' o x (Pn P) = jc P k' (f o) y (Pn P)) → fX9_isRight_L61 FU (fX9_isRight_L41 FU 60 (nI x) (nI y) G) 60 (nI x) (nI y) (nI o) F (nI k) (J, R0 pl nm hd rd) = some (b01 ((((jt P x o == jt P y (f o)) && (jt P o x == jt P (f o) y)) && allF (fun o => !(f o == y) && ((jt P x o == jt P y (f o)) && (jt P o x == jt P (f o) y))) (o + 1) d) = true), (J, R0 pl nm hd rd)) := by
            intro e
            induction e with
            | zero =>
              intro k F g1 g2 hk
              obtain ⟨H, rfl⟩ : ∃ H, F = H + 1 := ⟨F - 1, by omega⟩
              have j1 : jt P x o = jt P y (f o) := (jv_eq hn).mpr (fun k' hk' => (hk k' (by omega)).1)
              have j2 : jt P o x = jt P (f o) y := (jv_eq hn).mpr (fun k' hk' => (hk k' (by omega)).2)
              have hh : (((jt P x o == jt P y (f o)) && (jt P o x == jt P (f o) y)) && allF (fun o => !(f o == y) && ((jt P x o == jt P y (f o)) && (jt P o x == jt P (f o) y))) (o + 1) d) = allF (fun o => !(f o == y) && ((jt P x o == jt P y (f o)) && (jt P o x == jt P (f o) y))) (o + 1) d := by
                rw [beq_iff_eq.mpr j1, beq_iff_eq.mpr j2, Bool.true_and, Bool.true_and]
              rw [fX9_isRight_L61, if_pos (by rw [li_6, w_le (by omega) (by omega)]; omega), li_1, nI_add, nx, hh]
            | succ e ihe =>
              intro k F g1 g2 hk
              obtain ⟨H, rfl⟩ : ∃ H, F = H + 1 := ⟨F - 1, by omega⟩
              have g0 : ¬ (6 : Int32) ≤ nI k := by rw [li_6, w_le (by omega) (by omega)]; omega
              have a1 : ((64 : Int32) * nI k + (8 : Int32) * nI x) + nI o = nI (64 * k + 8 * x + o) := by simp (discharger := omega) only [li_0, li_1, li_2, li_3, li_4, li_5, li_6, li_7, li_8, li_9, li_10, li_11, li_12, li_13, li_14, li_15, li_16, li_17, li_18, li_19, li_20, li_21, li_22, li_23, li_24, li_25, li_26, li_27, li_28, li_29, li_30, li_31, li_32, li_33, li_34, li_35, li_36, li_37, li_38, li_39, li_40, li_41, li_42, li_43, li_44, li_45, li_46, li_47, li_48, li_49, li_50, li_51, li_52, li_53, li_54, li_55, li_56, li_57, li_58, li_59, li_60, li_61, li_62, li_63, li_64, li_65, li_66, li_67, li_68, li_69, li_70, li_71, li_72, li_73, li_74, li_75, li_76, li_77, li_78, li_79, li_80, li_81, li_82, li_83, li_84, li_85, li_86, li_87, li_88, li_89, li_90, li_91, li_92, li_93, li_94, li_95, li_96, li_97, li_98, li_99, li_100, li_101, li_102, li_103, li_104, li_105, li_106, li_107, li_108, li_109, li_110, li_111, li_112, li_113, li_114, li_115, li_116, li_117, li_118, li_119, li_120, li_121, li_122, li_123, li_124, li_125, li_126, li_127, li_128, li_144, li_150, li_200, li_255, li_384, li_512, li_999, li_1000, li_1024, li_1152, li_1920, li_3776, li_4096, li_9216, li_10000, li_100000, li_1073741824, li_m, w_lt, w_le, w_eq, w_mlt, w_mle, w_ltm, w_lem, w_meq, w_eqm, w_mm, w_mmlt, w_mmle, nI_add, w_sub, pk_mul, w_div, w_rem, w_and, w_or, w_shr, w_shl1, w_a31, w_andn]
              have a2 : ((64 : Int32) * nI k + (8 : Int32) * nI y) + nI (f o) = nI (64 * k + 8 * y + f o) := by simp (discharger := omega) only [li_0, li_1, li_2, li_3, li_4, li_5, li_6, li_7, li_8, li_9, li_10, li_11, li_12, li_13, li_14, li_15, li_16, li_17, li_18, li_19, li_20, li_21, li_22, li_23, li_24, li_25, li_26, li_27, li_28, li_29, li_30, li_31, li_32, li_33, li_34, li_35, li_36, li_37, li_38, li_39, li_40, li_41, li_42, li_43, li_44, li_45, li_46, li_47, li_48, li_49, li_50, li_51, li_52, li_53, li_54, li_55, li_56, li_57, li_58, li_59, li_60, li_61, li_62, li_63, li_64, li_65, li_66, li_67, li_68, li_69, li_70, li_71, li_72, li_73, li_74, li_75, li_76, li_77, li_78, li_79, li_80, li_81, li_82, li_83, li_84, li_85, li_86, li_87, li_88, li_89, li_90, li_91, li_92, li_93, li_94, li_95, li_96, li_97, li_98, li_99, li_100, li_101, li_102, li_103, li_104, li_105, li_106, li_107, li_108, li_109, li_110, li_111, li_112, li_113, li_114, li_115, li_116, li_117, li_118, li_119, li_120, li_121, li_122, li_123, li_124, li_125, li_126, li_127, li_128, li_144, li_150, li_200, li_255, li_384, li_512, li_999, li_1000, li_1024, li_1152, li_1920, li_3776, li_4096, li_9216, li_10000, li_100000, li_1073741824, li_m, w_lt, w_le, w_eq, w_mlt, w_mle, w_ltm, w_lem, w_meq, w_eqm, w_mm, w_mmlt, w_mmle, nI_add, w_sub, pk_mul, w_div, w_rem, w_and, w_or, w_shr, w_shl1, w_a31, w_andn]
              have a3 : ((64 : Int32) * nI k + (8 : Int32) * nI o) + nI x = nI (64 * k + 8 * o + x) := by simp (discharger := omega) only [li_0, li_1, li_2, li_3, li_4, li_5, li_6, li_7, li_8, li_9, li_10, li_11, li_12, li_13, li_14, li_15, li_16, li_17, li_18, li_19, li_20, li_21, li_22, li_23, li_24, li_25, li_26, li_27, li_28, li_29, li_30, li_31, li_32, li_33, li_34, li_35, li_36, li_37, li_38, li_39, li_40, li_41, li_42, li_43, li_44, li_45, li_46, li_47, li_48, li_49, li_50, li_51, li_52, li_53, li_54, li_55, li_56, li_57, li_58, li_59, li_60, li_61, li_62, li_63, li_64, li_65, li_66, li_67, li_68, li_69, li_70, li_71, li_72, li_73, li_74, li_75, li_76, li_77, li_78, li_79, li_80, li_81, li_82, li_83, li_84, li_85, li_86, li_87, li_88, li_89, li_90, li_91, li_92, li_93, li_94, li_95, li_96, li_97, li_98, li_99, li_100, li_101, li_102, li_103, li_104, li_105, li_106, li_107, li_108, li_109, li_110, li_111, li_112, li_113, li_114, li_115, li_116, li_117, li_118, li_119, li_120, li_121, li_122, li_123, li_124, li_125, li_126, li_127, li_128, li_144, li_150, li_200, li_255, li_384, li_512, li_999, li_1000, li_1024, li_1152, li_1920, li_3776, li_4096, li_9216, li_10000, li_100000, li_1073741824, li_m, w_lt, w_le, w_eq, w_mlt, w_mle, w_ltm, w_lem, w_meq, w_eqm, w_mm, w_mmlt, w_mmle, nI_add, w_sub, pk_mul, w_div, w_rem, w_and, w_or, w_shr, w_shl1, w_a31, w_andn]
              have a4 : ((64 : Int32) * nI k + (8 : Int32) * nI (f o)) + nI y = nI (64 * k + 8 * f o + y) := by simp (discharger := omega) only [li_0, li_1, li_2, li_3, li_4, li_5, li_6, li_7, li_8, li_9, li_10, li_11, li_12, li_13, li_14, li_15, li_16, li_17, li_18, li_19, li_20, li_21, li_22, li_23, li_24, li_25, li_26, li_27, li_28, li_29, li_30, li_31, li_32, li_33, li_34, li_35, li_36, li_37, li_38, li_39, li_40, li_41, li_42, li_43, li_44, li_45, li_46, li_47, li_48, li_49, li_50, li_51, li_52, li_53, li_54, li_55, li_56, li_57, li_58, li_59, li_60, li_61, li_62, li_63, li_64, li_65, li_66, li_67, li_68, li_69, li_70, li_71, li_72, li_73, li_74, li_75, li_76, li_77, li_78, li_79, li_80, li_81, li_82, li_83, li_84, li_85, li_86, li_87, li_88, li_89, li_90, li_91, li_92, li_93, li_94, li_95, li_96, li_97, li_98, li_99, li_100, li_101, li_102, li_103, li_104, li_105, li_106, li_107, li_108, li_109, li_110, li_111, li_112, li_113, li_114, li_115, li_116, li_117, li_118, li_119, li_120, li_121, li_122, li_123, li_124, li_125, li_126, li_127, li_128, li_144, li_150, li_200, li_255, li_384, li_512, li_999, li_1000, li_1024, li_1152, li_1920, li_3776, li_4096, li_9216, li_10000, li_100000, li_1073741824, li_m, w_lt, w_le, w_eq, w_mlt, w_mle, w_ltm, w_lem, w_meq, w_eqm, w_mm, w_mmlt, w_mmle, nI_add, w_sub, pk_mul, w_div, w_rem, w_and, w_or, w_shr, w_shl1, w_a31, w_andn]
              have l1 := jc_le (P := P) k x o (Pn P)
              have l2 := jc_le (P := P) k y (f o) (Pn P)
              have l3 := jc_le (P := P) k o x (Pn P)
              have l4 := jc_le (P := P) k (f o) y (Pn P)
              rw [fX9_isRight_L61, if_neg g0, a1, a3, fRb_60_13, aIb_69 (by omega), hJ k x o (by omega) (by omega) (by omega), fRb_60_13, fRb_60_12, aIb_68 (by omega), no, a2, aIb_69 (by omega), hJ k y (f o) (by omega) (by omega) (by omega), fRb_60_13, aIb_69 (by omega), hJ k o x (by omega) (by omega) (by omega), fRb_60_13, fRb_60_12, aIb_68 (by omega), no, a4, aIb_69 (by omega), hJ k (f o) y (by omega) (by omega) (by omega)]
              by_cases q1 : jc P k x o (Pn P) = jc P k y (f o) (Pn P)
              · by_cases q2 : jc P k o x (Pn P) = jc P k (f o) y (Pn P)
                · rw [if_neg (fun h => h (by rw [q1])), if_pos (by rw [q2]), li_1, nI_add]
                  exact ihe (k + 1) H (by omega) (by omega) (fun k' hk' => by
                    by_cases w : k' = k
                    · rw [w]; exact ⟨q1, q2⟩
                    · exact hk k' (by omega))
                · have j2 : ¬ jt P o x = jt P (f o) y := fun h => q2 ((jv_eq hn).mp h k (by omega))
                  have hh : (((jt P x o == jt P y (f o)) && (jt P o x == jt P (f o) y)) && allF (fun o => !(f o == y) && ((jt P x o == jt P y (f o)) && (jt P o x == jt P (f o) y))) (o + 1) d) = false := by
                    simp [j2]
                  rw [if_neg (fun h => h (by rw [q1])), if_neg (by rw [w_eq (by omega) (by omega)]; exact q2), hh]
                  rfl
              · have j2 : ¬ jt P x o = jt P y (f o) := fun h => q1 ((jv_eq hn).mp h k (by omega))
                have hh : (((jt P x o == jt P y (f o)) && (jt P o x == jt P (f o) y)) && allF (fun o => !(f o == y) && ((jt P x o == jt P y (f o)) && (jt P o x == jt P (f o) y))) (o + 1) d) = false := by
                  simp [j2]
                rw [if_pos (by rw [w_eq (by omega) (by omega)]; exact q1), hh]
                rfl
          have hh : ((!(f o == y) && ((jt P x o == jt P y (f o)) && (jt P o x == jt P (f o) y))) && allF (fun o => !(f o == y) && ((jt P x o == jt P y (f o)) && (jt P o x == jt P (f o) y))) (o + 1) d) = (((jt P x o == jt P y (f o)) && (jt P o x == jt P (f o) y)) && allF (fun o => !(f o == y) && ((jt P x o == jt P y (f o)) && (jt P o x == jt P (f o) y))) (o + 1) d) := by
            have z2 : (f o == y) = false := by simpa using z
            rw [z2, Bool.not_false, Bool.true_and]
          rw [hh, li_0]
          exact inner 6 0 FU (by omega) (by omega) (fun k' hk' => by omega)
    rw [li_0]
    exact loop x 0 FU (by omega) (by omega)
  · have nf : ¬ okB P f x y = true := fun h => gr (okB_iff.mp h).1
    rw [b01_neg nf]
    by_cases q1 : isWl P x = isWl P y
    · have q2 : ¬ isHl P x = isHl P y := fun h => gr (pw.mp ⟨q1, h⟩)
      rw [if_neg (fun h => h (b01_inj.mpr q1)), if_neg (fun h => q2 (b01_inj.mp h))]
      rfl
    · rw [if_pos (fun h => q1 (b01_inj.mp h))]
      rfl
/-- from v on, e of them -/
def lpF (g : Nat → Nat → Nat) : Nat → Nat → Nat → Nat
  | a, _, 0 => a
  | a, v, e + 1 => lpF g (g a v) (v + 1) e
/-- all turnings that go on so, one behind the other -/
def trT (P : Pln) (act : Nat → (Nat → Nat) → Nat) : Nat → (Nat → Nat) → Nat → Nat → Nat
  | 0, f, _, a => act a f
  | d + 1, f, x, a => lpF (fun a y => if okB P f x y = true then trT P act d (va_up f x y) (x + 1) a else a) a 0 (Pp P)
/-- steps at most below -/
def cb : Nat → Nat
  | 0 => 0
  | d + 1 => 8 * (1 + cb d) + 1
theorem okP_up {f : Nat → Nat} {x y : Nat} (hf : okP P f x) (hy : y < Pp P) (ok : okB P f x y = true) : okP P (va_up f x y) (x + 1) := by
  intro k hk
  unfold va_up
  by_cases z : k = x
  · subst z
    rw [if_pos rfl]
    refine ⟨hy, ?_⟩
    rw [← ok]
    exact okB_cg (fun o ho => by rw [if_neg (by omega)]) y
  · rw [if_neg z]
    have := hf k (by omega)
    refine ⟨this.1, ?_⟩
    rw [← this.2]
    exact okB_cg (fun o ho => by rw [if_neg (by omega)]) _
theorem r_sub (hF : 99999999 ≤ FU) (hW : WfP P) {act : Nat → (Nat → Nat) → Nat} {Kf : Nat → Nat → Int32 → Mem → Option (Int32 × Mem)} (hK : ∀ F a f J, PlR P J → Aut P f → (∀ o, o < Pp P → J 68 o = nI (f o)) → Kf (F + 1) a (nI 1) (J, R0 pl nm hd rd) = bd2 (fX9_nextTurning FU 60 (0 : Int32) (J, R0 pl nm hd rd)) (fun r M => Kf F (act a f) r M)) : ∀ d, ∀ e f x v a F G J, d + 1 + x = Pp P → e + v = Pp P → G ≤ FU → e * (1 + cb d) + 1 ≤ G → e * (1 + cb d) + 1 ≤ F → PlR P J → RJ P (Pn P) J → okP P f x → (∀ o, o < x → J 68 o = nI (f o)) → J 68 x + nI 1 = nI v → ∃ F' G' J', bd2 (fX9_nextTurning_L26 FU 60 G (nI x) (J, R0 pl nm hd rd)) (fun r M => Kf F a r M) = bd2 (fX9_nextTurning_L26 FU 60 G' (nI x + mI 1) (J', R0 pl nm hd rd)) (fun r M => Kf F' (lpF (fun a y => if okB P f x y = true then trT P act d (va_up f x y) (x + 1) a else a) a v e) r M) ∧ G' ≤ FU ∧ G ≤ G' + (e * (1 + cb d) + 1) ∧ F ≤ F' + (e * (1 + cb d) + 1) ∧ (∀ o, o < x → J' 68 o = nI (f o)) ∧ (∀ q, q ≠ 68 → J' q = J q) := by
  have hp := wf_p hW
  intro d
  induction d with
  | zero =>
    intro e
    induction e with
    | zero =>
      intro f x v a F G J h1 h2 hG g1 g2 hR hJ hok hN hx'
      obtain ⟨H, rfl⟩ : ∃ H, G = H + 1 := ⟨G - 1, by omega⟩
      refine ⟨F, H, up2 J 68 x (nI v), ?_, by omega, by omega, by omega, fun o ho => by rw [up2_i (by omega)]; exact hN o ho, fun q hq => up2_ne hq⟩
      rw [fX9_nextTurning_L26, if_neg (by rw [li_0, w_lt (by omega) (by omega)]; omega), fRb_60_12, aIb_68 (by omega), li_1, hx', sIb_68 (by omega), fRb_60_12, aIb_68 (by omega), up2_s, fIb_60, up2_k (by decide), hR.1, if_neg (by rw [w_lt (by omega) (by omega)]; omega)]
      rfl
    | succ e ih =>
      intro f x v a F G J h1 h2 hG g1 g2 hR hJ hok hN hx'
      have ex : (e + 1) * (1 + cb 0) + 1 = e * (1 + cb 0) + 1 + 1 := by
        show (e + 1) * 1 + 1 = e * 1 + 1 + 1
        omega
      rw [ex] at g1 g2 ⊢
      obtain ⟨H, rfl⟩ : ∃ H, G = H + 1 := ⟨G - 1, by omega⟩
      generalize hT : up2 J 68 x (nI v) = T
      have tq : ∀ q, q ≠ 68 → T q = J q := fun q hq => by rw [← hT, up2_ne hq]
      have tx : T 68 x = nI v := by rw [← hT, up2_s]
      have to' : ∀ o, o < x → T 68 o = nI (f o) := fun o ho => by rw [← hT, up2_i (by omega)]; exact hN o ho
      have TR : PlR P T := hR.congr (fun i _ => by rw [tq 60 (by decide)]) (fun k _ _ => tq k (by omega))
      have TJ : RJ P (Pn P) T := fun k a b k1 a1 b1 => by rw [tq 69 (by decide)]; exact hJ k a b k1 a1 b1
      have dr := r_isRight (FU := FU) (pl := pl) (nm := nm) (hd := hd) (rd := rd) hF TR hW TJ (f := f) (x := x) (y := v) (by omega) (by omega) (fun o ho => (hok o ho).1) to' tx
      have nxv : T 68 x + nI 1 = nI (v + 1) := by rw [tx, nI_add]
      rw [fX9_nextTurning_L26, if_neg (by rw [li_0, w_lt (by omega) (by omega)]; omega), fRb_60_12, aIb_68 (by omega), li_1, hx', sIb_68 (by omega), hT, fRb_60_12, aIb_68 (by omega), tx, fIb_60, TR.1, if_pos (by rw [w_lt (by omega) (by omega)]; omega), show rc 9 (some 60) = some 60 from rfl, w_bind, dn dr]
      by_cases ok : okB P f x v = true
      · have okn := okP_up hok (by omega) ok
        have aut : Aut P (va_up f x v) := by
          have e : x + 1 = Pp P := by omega
          rw [e] at okn
          exact okn
        obtain ⟨F0, rfl⟩ : ∃ F0, F = F0 + 1 := ⟨F - 1, by omega⟩
        have hk := hK F0 a (va_up f x v) T TR aut (fun o ho => by
          unfold va_up
          by_cases z : o = x
          · rw [if_pos z, z, tx]
          · rw [if_neg z]
            exact to' o (by omega))
        have nt : fX9_nextTurning FU 60 (0 : Int32) (T, R0 pl nm hd rd) = fX9_nextTurning_L26 FU 60 FU (nI x) (T, R0 pl nm hd rd) := by
          unfold fX9_nextTurning fX9_nextTurning_b14
          rw [if_pos rfl, fIb_60, TR.1, if_pos rfl, li_1, w_sub (by omega), show Pp P - 1 = x by omega]
        obtain ⟨F', G', J', c1, c2, c3, c4, c5, c6⟩ := ih f x (v + 1) (act a (va_up f x v)) F0 FU T h1 (by omega) (Nat.le_refl FU) (by omega) (by omega) TR TJ hok to' nxv
        refine ⟨F', G', J', ?_, c2, by omega, by omega, c5, fun q hq => (c6 q hq).trans (tq q hq)⟩
        have lps : lpF (fun a y => if okB P f x y = true then trT P act 0 (va_up f x y) (x + 1) a else a) a v (e + 1) = lpF (fun a y => if okB P f x y = true then trT P act 0 (va_up f x y) (x + 1) a else a) (act a (va_up f x v)) (v + 1) e := by
          show lpF _ (if okB P f x v = true then trT P act 0 (va_up f x v) (x + 1) a else a) (v + 1) e = _
          rw [if_pos ok]
          rfl
        rw [lps, ← c1, b01_pos ok, if_pos (by decide), fIb_60, TR.1, w_sub (by omega), if_neg (fun h => h (by rw [show Pp P - 1 = x by omega])), w_bd2]
        have hk' : Kf (F0 + 1) a (nI 1) (T, R0 pl nm hd rd) = _ := hk
        rw [hk', nt]
      · obtain ⟨F', G', J', c1, c2, c3, c4, c5, c6⟩ := ih f x (v + 1) a F H T h1 (by omega) (by omega) (by omega) (by omega) TR TJ hok to' nxv
        refine ⟨F', G', J', ?_, c2, by omega, by omega, c5, fun q hq => (c6 q hq).trans (tq q hq)⟩
        have lps : lpF (fun a y => if okB P f x y = true then trT P act 0 (va_up f x y) (x + 1) a else a) a v (e + 1) = lpF (fun a y => if okB P f x y = true then trT P act 0 (va_up f x y) (x + 1) a else a) a (v + 1) e := by
          show lpF _ (if okB P f x v = true then trT P act 0 (va_up f x v) (x + 1) a else a) (v + 1) e = _
          rw [if_neg ok]
        rw [lps, ← c1, b01_neg ok, if_neg (fun h => h rfl)]
  | succ d ihd =>
    intro e
    induction e with
    | zero =>
      intro f x v a F G J h1 h2 hG g1 g2 hR hJ hok hN hx'
      obtain ⟨H, rfl⟩ : ∃ H, G = H + 1 := ⟨G - 1, by omega⟩
      refine ⟨F, H, up2 J 68 x (nI v), ?_, by omega, by omega, by omega, fun o ho => by rw [up2_i (by omega)]; exact hN o ho, fun q hq => up2_ne hq⟩
      rw [fX9_nextTurning_L26, if_neg (by rw [li_0, w_lt (by omega) (by omega)]; omega), fRb_60_12, aIb_68 (by omega), li_1, hx', sIb_68 (by omega), fRb_60_12, aIb_68 (by omega), up2_s, fIb_60, up2_k (by decide), hR.1, if_neg (by rw [w_lt (by omega) (by omega)]; omega)]
      rfl
    | succ e ih =>
      intro f x v a F G J h1 h2 hG g1 g2 hR hJ hok hN hx'
      have ex : (e + 1) * (1 + cb (d + 1)) + 1 = e * (1 + cb (d + 1)) + 1 + (1 + cb (d + 1)) := by
        rw [Nat.add_mul]
        omega
      have cbs : cb (d + 1) = 8 * (1 + cb d) + 1 := rfl
      have pc : Pp P * (1 + cb d) ≤ 8 * (1 + cb d) := Nat.mul_le_mul_right _ hp.2
      rw [ex] at g1 g2 ⊢
      obtain ⟨H, rfl⟩ : ∃ H, G = H + 1 := ⟨G - 1, by omega⟩
      generalize hT : up2 J 68 x (nI v) = T
      have tq : ∀ q, q ≠ 68 → T q = J q := fun q hq => by rw [← hT, up2_ne hq]
      have tx : T 68 x = nI v := by rw [← hT, up2_s]
      have to' : ∀ o, o < x → T 68 o = nI (f o) := fun o ho => by rw [← hT, up2_i (by omega)]; exact hN o ho
      have TR : PlR P T := hR.congr (fun i _ => by rw [tq 60 (by decide)]) (fun k _ _ => tq k (by omega))
      have TJ : RJ P (Pn P) T := fun k a b k1 a1 b1 => by rw [tq 69 (by decide)]; exact hJ k a b k1 a1 b1
      have dr := r_isRight (FU := FU) (pl := pl) (nm := nm) (hd := hd) (rd := rd) hF TR hW TJ (f := f) (x := x) (y := v) (by omega) (by omega) (fun o ho => (hok o ho).1) to' tx
      have nxv : T 68 x + nI 1 = nI (v + 1) := by rw [tx, nI_add]
      rw [fX9_nextTurning_L26, if_neg (by rw [li_0, w_lt (by omega) (by omega)]; omega), fRb_60_12, aIb_68 (by omega), li_1, hx', sIb_68 (by omega), hT, fRb_60_12, aIb_68 (by omega), tx, fIb_60, TR.1, if_pos (by rw [w_lt (by omega) (by omega)]; omega), show rc 9 (some 60) = some 60 from rfl, w_bind, dn dr]
      by_cases ok : okB P f x v = true
      · have okn := okP_up hok (by omega) ok
        generalize hU : up2 T 68 (x + 1) (mI 1) = U
        have uq : ∀ q, q ≠ 68 → U q = J q := fun q hq => by rw [← hU, up2_ne hq, tq q hq]
        have UR : PlR P U := hR.congr (fun i _ => by rw [uq 60 (by decide)]) (fun k _ _ => uq k (by omega))
        have UJ : RJ P (Pn P) U := fun k a b k1 a1 b1 => by rw [uq 69 (by decide)]; exact hJ k a b k1 a1 b1
        have uo : ∀ o, o < x + 1 → U 68 o = nI (va_up f x v o) := by
          intro o ho
          rw [← hU, up2_i (by omega)]
          unfold va_up
          by_cases z : o = x
          · rw [if_pos z, z, tx]
          · rw [if_neg z]
            exact to' o (by omega)
        have ux : U 68 (x + 1) + nI 1 = nI 0 := by
          rw [← hU, up2_s]
          decide
        obtain ⟨F1, G1, J1, c1, c2, c3, c4, c5, c6⟩ := ihd (Pp P) (va_up f x v) (x + 1) 0 a F H U (by omega) (by omega) (by omega) (by omega) (by omega) UR UJ okn uo ux
        have j1q : ∀ q, q ≠ 68 → J1 q = J q := fun q hq => (c6 q hq).trans (uq q hq)
        have R1 : PlR P J1 := hR.congr (fun i _ => by rw [j1q 60 (by decide)]) (fun k _ _ => j1q k (by omega))
        have JJ1 : RJ P (Pn P) J1 := fun k a b k1 a1 b1 => by rw [j1q 69 (by decide)]; exact hJ k a b k1 a1 b1
        have j1x : J1 68 x = nI v := by
          rw [c5 x (by omega)]
          unfold va_up
          rw [if_pos rfl]
        have j1o : ∀ o, o < x → J1 68 o = nI (f o) := by
          intro o ho
          rw [c5 o (by omega)]
          unfold va_up
          rw [if_neg (by omega)]
        have tv : trT P act (d + 1) (va_up f x v) (x + 1) a = lpF (fun a y => if okB P (va_up f x v) (x + 1) y = true then trT P act d (va_up (va_up f x v) (x + 1) y) (x + 1 + 1) a else a) a 0 (Pp P) := rfl
        rw [← tv] at c1
        obtain ⟨F', G', J', b1, b2, b3, b4, b5, b6⟩ := ih f x (v + 1) (trT P act (d + 1) (va_up f x v) (x + 1) a) F1 G1 J1 h1 (by omega) c2 (by omega) (by omega) R1 JJ1 hok j1o (by rw [j1x, nI_add])
        refine ⟨F', G', J', ?_, b2, by omega, by omega, b5, fun q hq => (b6 q hq).trans (j1q q hq)⟩
        have lps : lpF (fun a y => if okB P f x y = true then trT P act (d + 1) (va_up f x y) (x + 1) a else a) a v (e + 1) = lpF (fun a y => if okB P f x y = true then trT P act (d + 1) (va_up f x y) (x + 1) a else a) (trT P act (d + 1) (va_up f x v) (x + 1) a) (v + 1) e := by
          show lpF _ (if okB P f x v = true then trT P act (d + 1) (va_up f x v) (x + 1) a else a) (v + 1) e = _
          rw [if_pos ok]
        have bk : nI (x + 1) + mI 1 = nI x := by
          rw [w_am (by omega)]
          rfl
        rw [bk] at c1
        rw [lps, ← b1, ← c1, b01_pos ok, if_pos (by decide), fIb_60, TR.1, w_sub (by omega), if_pos (by rw [w_eq (by omega) (by omega)]; omega), fRb_60_12, nI_add, sIb_68 (by omega), show (-nI 1 : Int32) = mI 1 from rfl, hU]
      · obtain ⟨F', G', J', c1, c2, c3, c4, c5, c6⟩ := ih f x (v + 1) a F H T h1 (by omega) (by omega) (by omega) (by omega) TR TJ hok to' nxv
        refine ⟨F', G', J', ?_, c2, by omega, by omega, c5, fun q hq => (c6 q hq).trans (tq q hq)⟩
        have lps : lpF (fun a y => if okB P f x y = true then trT P act (d + 1) (va_up f x y) (x + 1) a else a) a v (e + 1) = lpF (fun a y => if okB P f x y = true then trT P act (d + 1) (va_up f x y) (x + 1) a else a) a (v + 1) e := by
          show lpF _ (if okB P f x v = true then trT P act (d + 1) (va_up f x v) (x + 1) a else a) (v + 1) e = _
          rw [if_neg ok]
        rw [lps, ← c1, b01_neg ok, if_neg (fun h => h rfl)]
end Nam6
