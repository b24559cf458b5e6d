/-! a turn of the game, the reference -/
section Turn2
variable {FU ver : Nat} {P : Pln} {I J : Nat → Nat → Int32} {pl nm hd rd : Option Nat}
theorem r_turn184 (hF : 99999999 ≤ FU) (hR : PlR P J) (hW : WfP P) {t : Sd} {kn n : Nat} (ht : Vd P t) (hk : kn < 256) (h1 : J 60 21 = nI kn) (h2 : J 60 22 = nI n) : fX9_turn_b184 FU 60 (nI (cR t)) (J, R0 pl nm hd rd) = some (up2 (up2 (up2 J 60 20 (nI (cR t))) 60 22 (nI (n + 1))) 60 21 (nI (lookK P t kn)), R0 pl nm hd rd) := by
  generalize hT : up2 (up2 J 60 20 (nI (cR t))) 60 22 (nI (n + 1)) = T
  have TR : PlR P T := hR.congr (fun i hi => by rw [← hT, up2_i (by omega), up2_i (by omega)]) (fun k _ _ => by rw [← hT, up2_ne (by omega), up2_ne (by omega)])
  have d := r_look (FU := FU) (pl := pl) (nm := nm) (hd := hd) (rd := rd) (J := T) hF TR hW ht hk (by rw [← hT, up2_i (by decide), up2_s]) (by rw [← hT, up2_i (by decide), up2_i (by decide), h1])
  unfold fX9_turn_b184
  rw [pIb_60, fIb_60, up2_i (by decide), h2, li_1, nI_add, pIb_60, hT, show rc 9 (some 60) = some 60 from rfl, w_bind, dn1 d]
theorem r_turn61 (hF : 99999999 ≤ FU) (hR : PlR P J) (hW : WfP P) {s t : Sd} {m kn n kp : Nat} (hs : Vd P s) (hm : m ≤ 32) (hb : bhd P s m = some t) (hk : kn < 256) (hp : kp < 64) (h1 : J 60 20 = nI (cR s)) (h2 : J 60 21 = nI kn) (h3 : J 60 22 = nI n) (h4 : J 60 23 = nI kp) : ∃ J', fX9_turn_b61 FU 60 (nI m) (J, R0 pl nm hd rd) = some (J', R0 pl nm hd rd) ∧ J' 60 20 = nI (cR t) ∧ J' 60 21 = nI (lookK P t (knT P s t kn)) ∧ J' 60 22 = nI (n + 1) ∧ J' 60 23 = nI (kp + 1) ∧ J' 74 = va_up (J 74) kp (nI (cR s)) ∧ J' 75 = va_up (J 75) kp (nI kn) ∧ (∀ k, k ≠ 60 → k ≠ 74 → k ≠ 75 → J' k = J k) ∧ (∀ i, i < 20 ∨ 23 < i → J' 60 i = J 60 i) := by
  have hin := Vd_in hW hs
  have vt := bhd_Vd hW hs hb
  have hit := Vd_in hW vt
  have cl := cR_lt hin
  have clt := cR_lt hit
  generalize hT : up2 (up2 (up2 J 74 kp (nI (cR s))) 75 kp (nI kn)) 60 23 (nI (kp + 1)) = T
  have t1 : T 60 20 = nI (cR s) := by rw [← hT, up2_i (by decide), up2_k (by decide), up2_k (by decide), h1]
  have t2 : T 60 21 = nI kn := by rw [← hT, up2_i (by decide), up2_k (by decide), up2_k (by decide), h2]
  have t3 : T 60 22 = nI n := by rw [← hT, up2_i (by decide), up2_k (by decide), up2_k (by decide), h3]
  have t4 : T 60 23 = nI (kp + 1) := by rw [← hT, up2_s]
  have t74 : T 74 = va_up (J 74) kp (nI (cR s)) := by rw [← hT, up2_ne (by decide), up2_ne (by decide), up2_eq]
  have t75 : T 75 = va_up (J 75) kp (nI kn) := by rw [← hT, up2_ne (by decide), up2_eq, up2_ne (by decide)]
  have tk : ∀ k, k ≠ 60 → k ≠ 74 → k ≠ 75 → T k = J k := fun k k1 k2 k3 => by rw [← hT, up2_ne k1, up2_ne k3, up2_ne k2]
  have ti : ∀ i, i ≠ 23 → T 60 i = J 60 i := fun i hi => by rw [← hT, up2_i hi, up2_k (by decide), up2_k (by decide)]
  have TR : PlR P T := hR.congr (fun i hi => ti i (by omega)) (fun k _ _ => tk k (by omega) (by omega) (by omega))
  have d1 := r_bhd (FU := FU) (pl := pl) (nm := nm) (hd := hd) (rd := rd) hF TR hW hs hm
  rw [hb, Option.map_some, oI_some] at d1
  have dt := r_turn (FU := FU) (pl := pl) (nm := nm) (hd := hd) (rd := rd) (I := T) hin
  have kl := knT_lt (P := P) s t hk
  generalize hk2 : knT P s t kn = k2 at kl ⊢
  have d2 := r_turn184 (FU := FU) (pl := pl) (nm := nm) (hd := hd) (rd := rd) (J := up2 T 60 21 (nI k2)) (n := n) hF (TR.congr (fun i hi => by rw [up2_i (by omega)]) (fun k _ _ => by rw [up2_ne (by omega)])) hW vt kl (by rw [up2_s]) (by rw [up2_i (by decide), t3])
  refine ⟨up2 (up2 (up2 (up2 T 60 21 (nI k2)) 60 20 (nI (cR t))) 60 22 (nI (n + 1))) 60 21 (nI (lookK P t k2)), ?_, ?_, ?_, ?_, ?_, ?_, ?_, ?_, ?_⟩
  · have r1 := r_first (FU := FU) (pl := pl) (nm := nm) (hd := hd) (rd := rd) (I := T) hit
    have r2 := r_second (FU := FU) (pl := pl) (nm := nm) (hd := hd) (rd := rd) (I := T) hit
    have r3 := r_first (FU := FU) (pl := pl) (nm := nm) (hd := hd) (rd := rd) (I := T) hin
    have r4 := r_second (FU := FU) (pl := pl) (nm := nm) (hd := hd) (rd := rd) (I := T) hin
    have r5 := r_shut (FU := FU) (pl := pl) (nm := nm) (hd := hd) (rd := rd) (I := T) hin
    have r6 := r_runs (FU := FU) (pl := pl) (nm := nm) (hd := hd) (rd := rd) (I := T) hF TR hW hk hin.1 hin.2.1 hin.2.2.2.2
    unfold fX9_turn_b61
    rw [fRb_60_24, fIb_60, h4, fIb_60, h1, sIb_74 hp, fRb_60_25, fIb_60, up2_k (by decide), h4, fIb_60, up2_k (by decide), h2, sIb_75 hp, fIb_60, up2_k (by decide), up2_k (by decide), h4, li_1, nI_add, pIb_60, hT, fIb_60, t1, show rc 9 (some 60) = some 60 from rfl, w_bind, dn d1, fIb_60, t1, w_bind, dn dt]
    have ht := hin.2.2.2.1
    obtain z | z : s.2.2.2.1 = 0 ∨ s.2.2.2.1 = 1 := by omega
    · rw [z, if_pos (by decide), fIb_60, t2, w_bind, dn r1, w_bind, dn r2, pIb_60]
      have e : nI kn &&& ((((nI 1) <<< (nI t.1 &&& 31)) ||| ((nI 1) <<< (nI t.2.1 &&& 31))) ^^^ (-(nI 1))) = nI k2 := by
        rw [← hk2]
        unfold knT plcM
        rw [z, if_neg (by decide)]
        have q1 := hit.1
        have q2 := hit.2.1
        clear d1 dt d2 r1 r2 r3 r4 r5 r6
        simp (discharger := omega) only [li_0, li_1, li_2, li_3, li_4, li_5, li_6, li_7, li_8, li_9, li_10, li_11, li_12, li_13, li_14, li_15, li_16, li_17, li_18, li_19, li_20, li_21, li_22, li_23, li_24, li_25, li_26, li_27, li_28, li_29, li_30, li_31, li_32, li_33, li_34, li_35, li_36, li_37, li_38, li_39, li_40, li_41, li_42, li_43, li_44, li_45, li_46, li_47, li_48, li_49, li_50, li_51, li_52, li_53, li_54, li_55, li_56, li_57, li_58, li_59, li_60, li_61, li_62, li_63, li_64, li_65, li_66, li_67, li_68, li_69, li_70, li_71, li_72, li_73, li_74, li_75, li_76, li_77, li_78, li_79, li_80, li_81, li_82, li_83, li_84, li_85, li_86, li_87, li_88, li_89, li_90, li_91, li_92, li_93, li_94, li_95, li_96, li_97, li_98, li_99, li_100, li_101, li_102, li_103, li_104, li_105, li_106, li_107, li_108, li_109, li_110, li_111, li_112, li_113, li_114, li_115, li_116, li_117, li_118, li_119, li_120, li_121, li_122, li_123, li_124, li_125, li_126, li_127, li_128, li_144, li_150, li_200, li_255, li_384, li_512, li_999, li_1000, li_1024, li_1152, li_1920, li_3776, li_4096, li_9216, li_10000, li_100000, li_1073741824, li_m, w_lt, w_le, w_eq, w_mlt, w_mle, w_ltm, w_lem, w_meq, w_eqm, w_mm, w_mmlt, w_mmle, nI_add, w_sub, pk_mul, w_div, w_rem, w_and, w_or, w_shr, w_shl1, w_a31, w_andn]
      rw [e, d2]
    · rw [z, if_neg (by decide), fIb_60, t2, fIb_60, t1, w_bind, dn r3, fIb_60, t1, w_bind, dn r4, fIb_60, t1, w_bind, dn r5, w_bind, dn r6, pIb_60]
      have e : runsS P kn s.1 s.2.1 s.2.2.2.2 = k2 := by
        rw [← hk2]
        unfold knT
        rw [if_pos z]
      rw [e, d2]
  · rw [up2_i (by decide), up2_i (by decide), up2_s]
  · rw [up2_s]
  · rw [up2_i (by decide), up2_s]
  · rw [up2_i (by decide), up2_i (by decide), up2_i (by decide), up2_i (by decide), t4]
  · rw [up2_ne (by decide), up2_ne (by decide), up2_ne (by decide), up2_ne (by decide), t74]
  · rw [up2_ne (by decide), up2_ne (by decide), up2_ne (by decide), up2_ne (by decide), t75]
  · intro k k1 k2 k3
    rw [up2_ne k1, up2_ne k1, up2_ne k1, up2_ne k1, tk k k1 k2 k3]
  · intro i hi
    rw [up2_i (by omega), up2_i (by omega), up2_i (by omega), up2_i (by omega), ti i (by omega)]
def M74 (I : Nat → Nat → Int32) (A B : Nat → Int32) : Nat → Nat → Int32 := va_up (va_up I 74 A) 75 B
theorem M74_74 {A B : Nat → Int32} : M74 I A B 74 = A := rfl
theorem M74_75 {A B : Nat → Int32} : M74 I A B 75 = B := rfl
theorem M74_o {A B : Nat → Int32} {k : Nat} (h1 : k ≠ 74) (h2 : k ≠ 75) : M74 I A B k = I k := by
  unfold M74 va_up
  rw [if_neg h2, if_neg h1]
theorem M74_same : M74 I (I 74) (I 75) = I := by
  funext k
  unfold M74 va_up
  split
  · next h => rw [h]
  · split
    · next h => rw [h]
    · rfl
/-- a row moved down by one, up to k -/
def dwn (f : Nat → Int32) (k : Nat) : Nat → Int32 := fun j => if j < k then f (j + 1) else f j
theorem dwn_0 (f : Nat → Int32) : dwn f 0 = f := by
  funext j
  unfold dwn
  rw [if_neg (Nat.not_lt_zero j)]
theorem dwn_up (f : Nat → Int32) (k : Nat) : va_up (dwn f k) k (f (k + 1)) = dwn f (k + 1) := by
  funext j
  unfold va_up dwn
  by_cases h : j = k
  · rw [if_pos h, h, if_pos (Nat.lt_succ_self k)]
  · rw [if_neg h]
    by_cases z : j < k
    · rw [if_pos z, if_pos (by omega)]
    · rw [if_neg z, if_neg (by omega)]
theorem dwn_at (f : Nat → Int32) (k : Nat) : dwn f k (k + 1) = f (k + 1) := by
  unfold dwn
  rw [if_neg (by omega)]
theorem M74_up {A B A' B' : Nat → Int32} {i j : Nat} {x y : Int32} (h1 : va_up A i x = A') (h2 : va_up B j y = B') : up2 (up2 (M74 I A B) 74 i x) 75 j y = M74 I A' B' := by
  funext k
  by_cases z : k = 75
  · subst z
    rw [up2_eq, up2_ne (by decide), M74_75, M74_75, h2]
  · rw [up2_ne z]
    by_cases y : k = 74
    · subst y
      rw [up2_eq, M74_74, M74_74, h1]
    · rw [up2_ne y, M74_o y z, M74_o y z]
theorem r_shift (hF : 99999999 ≤ FU) {m : Int32} {A B : Nat → Int32} : ∃ G, fX9_turn_L11 FU 60 m FU (nI 0) (M74 J A B, R0 pl nm hd rd) = fX9_turn_L11 FU 60 m (G + 1) (nI 63) (M74 J (dwn A 63) (dwn B 63), R0 pl nm hd rd) := by
  have step : ∀ k, k < 63 → ∀ F, fX9_turn_L11 FU 60 m (F + 1) (nI k) (M74 J (dwn A k) (dwn B k), R0 pl nm hd rd) = fX9_turn_L11 FU 60 m F (nI (k + 1)) (M74 J (dwn A (k + 1)) (dwn B (k + 1)), R0 pl nm hd rd) := by
    intro k hk F
    rw [fX9_turn_L11]
    have f0 : ¬ (63 : Int32) ≤ nI k := by rw [li_63, w_le (by omega) (by omega)]; omega
    rw [if_neg f0, fRb_60_24, fRb_60_24, li_1, nI_add, aIb_74 (by omega), M74_74, dwn_at, sIb_74 (by omega), fRb_60_25, fRb_60_25, aIb_75 (by omega), up2_k (by decide), M74_75, dwn_at, sIb_75 (by omega), M74_up (dwn_up A k) (dwn_up B k)]
  have lp := lpU (fun F (q : Int32 × Mem) => fX9_turn_L11 FU 60 m F q.1 q.2) (fun k => (nI k, (M74 J (dwn A k) (dwn B k), R0 pl nm hd rd))) 63 step 63 0 FU (by omega) (by omega)
  simp only at lp
  rw [dwn_0, dwn_0] at lp
  exact ⟨FU - 63 - 1, by rw [lp]; congr 1; omega⟩
theorem r_turnT (hF : 99999999 ≤ FU) (hR : PlR P J) (hW : WfP P) {s t : Sd} {m kn n kp : Nat} (hs : Vd P s) (hm : m ≤ 32) (hb : bhd P s m = some t) (hk : kn < 256) (hp : kp ≤ 64) (h1 : J 60 20 = nI (cR s)) (h2 : J 60 21 = nI kn) (h3 : J 60 22 = nI n) (h4 : J 60 23 = nI kp) : ∃ J', fX9_turn FU 60 (nI m) (J, R0 pl nm hd rd) = some (J', R0 pl nm hd rd) ∧ J' 60 20 = nI (cR t) ∧ J' 60 21 = nI (lookK P t (knT P s t kn)) ∧ J' 60 22 = nI (n + 1) ∧ J' 60 23 = nI (if kp + 1 < 64 then kp + 1 else 64) ∧ J' 74 = (if kp < 64 then va_up (J 74) kp (nI (cR s)) else va_up (dwn (J 74) 63) 63 (nI (cR s))) ∧ J' 75 = (if kp < 64 then va_up (J 75) kp (nI kn) else va_up (dwn (J 75) 63) 63 (nI kn)) ∧ (∀ k, k ≠ 60 → k ≠ 74 → k ≠ 75 → J' k = J k) ∧ (∀ i, i < 20 ∨ 23 < i → J' 60 i = J 60 i) := by
  by_cases z : kp < 64
  · obtain ⟨J', d0, d1, d2, d3, d4, d5, d6, d7, d8⟩ := r_turn61 (FU := FU) (pl := pl) (nm := nm) (hd := hd) (rd := rd) hF hR hW hs hm hb hk z h1 h2 h3 h4
    refine ⟨J', ?_, d1, d2, d3, ?_, ?_, ?_, d7, d8⟩
    · unfold fX9_turn
      have f : ¬ nI kp = (64 : Int32) := by rw [li_64, w_eq (by omega) (by omega)]; omega
      rw [fIb_60, h4, if_pos f, d0]
    · rw [d4]
      congr 1
      split <;> omega
    · rw [d5, if_pos z]
    · rw [d6, if_pos z]
  · have e : kp = 64 := by omega
    subst e
    obtain ⟨G, hG⟩ := r_shift (FU := FU) (pl := pl) (nm := nm) (hd := hd) (rd := rd) (J := J) (A := J 74) (B := J 75) (m := nI m) hF
    rw [M74_same] at hG
    generalize hT : up2 (M74 J (dwn (J 74) 63) (dwn (J 75) 63)) 60 23 (nI 63) = T
    have tk : ∀ k, k ≠ 60 → k ≠ 74 → k ≠ 75 → T k = J k := fun k k1 k2 k3 => by rw [← hT, up2_ne k1, M74_o k2 k3]
    have ti : ∀ i, i ≠ 23 → T 60 i = J 60 i := fun i hi => by rw [← hT, up2_i hi, M74_o (by decide) (by decide)]
    have TR : PlR P T := hR.congr (fun i hi => ti i (by omega)) (fun k _ _ => tk k (by omega) (by omega) (by omega))
    obtain ⟨J', d0, d1, d2, d3, d4, d5, d6, d7, d8⟩ := r_turn61 (FU := FU) (pl := pl) (nm := nm) (hd := hd) (rd := rd) (J := T) (kp := 63) (n := n) hF TR hW hs hm hb hk (by decide) (by rw [ti 20 (by decide), h1]) (by rw [ti 21 (by decide), h2]) (by rw [ti 22 (by decide), h3]) (by rw [← hT, up2_s])
    refine ⟨J', ?_, d1, d2, d3, ?_, ?_, ?_, ?_, ?_⟩
    · unfold fX9_turn
      have f : ¬ ¬ nI 64 = (64 : Int32) := by decide
      rw [fIb_60, h4, if_neg f, li_0, hG, fX9_turn_L11]
      have f1 : (63 : Int32) ≤ nI 63 := by decide
      have f2 : nI 64 - (1 : Int32) = nI 63 := by decide
      rw [if_pos f1, fIb_60, M74_o (by decide) (by decide), h4, f2, pIb_60, hT, d0]
    · rw [d4]; rfl
    · rw [d5, if_neg z, ← hT, up2_ne (by decide), M74_74]
    · rw [d6, if_neg z, ← hT, up2_ne (by decide), M74_75]
    · intro k k1 k2 k3
      rw [d7 k k1 k2 k3, tk k k1 k2 k3]
    · intro i hi
      rw [d8 i hi, ti i (by omega)]
end Turn2
