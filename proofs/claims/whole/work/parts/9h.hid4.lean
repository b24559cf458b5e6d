/-! hidden, the class: solve -/
section Hid4
variable {FU ver : Nat} {P : Pln} {I J : Nat → Nat → Int32} {pl nm hd rd : Option Nat}
/-- all pairs' rows -/
def HL (P : Pln) (r : Nat) (I : Nat → Nat → Int32) : Prop := ∀ h i, isPr P h i = true → HB P r h i I
theorem pr8 (hW : WfP P) {h i : Nat} (hpr : isPr P h i = true) : h < 8 ∧ i < 8 := by
  have := isPr_iff.mp hpr
  have hp := wf_p hW
  omega
/-- one round: behind the hunters' moves, pairs from k on -/
theorem c_sol85 (hF : 99999999 ≤ FU) (hW : WfP P) (p6 : Pp P ≤ 6) {r : Nat} (hr : r < 12) {K : Int32 → Int32 → Mem → Option Mem} {mo : Int32} : ∀ d k I F, d + k = 64 → d < F → PlC 1 P I → HL P r I → (∀ h i s, isPr P h i = true → s < 2 ^ Pp P → I 33 ((h * 8 + i) * 64 + s) = nI (if h * 8 + i < k then mv P (r + 1) h i s else mv P r h i s)) → ∃ I', fX1_solve_L85 FU K 31 mo (nI (r + 1)) F (nI k) (I, R0 pl nm (some 1) rd) = fX1_solve_L120 FU K 31 (nI (r + 1)) FU mo (nI 0) (I', R0 pl nm (some 1) rd) ∧ HM P (r + 1) I' ∧ (∀ q, q ≠ 31 → q ≠ 33 → q ≠ 34 → I' q = I q) ∧ (∀ j, j ≠ 5 → I' 31 j = I 31 j) := by
  have hc : (1 : Nat) = 1 ∨ (1 : Nat) = 9 := Or.inl rfl
  intro d
  induction d with
  | zero =>
    intro k I F h1 h2 hC hL hM
    obtain ⟨G, rfl⟩ : ∃ G, F = G + 1 := ⟨F - 1, by omega⟩
    refine ⟨I, ?_, fun h i s h1 h2 => ?_, fun _ _ _ _ => rfl, fun _ _ => rfl⟩
    · rw [fX1_solve_L85, if_pos (by rw [li_64, w_le (by omega) (by omega)]; omega), li_0]
    · have := pr8 hW h1
      rw [hM h i s h1 h2, if_pos (by omega)]
  | succ d ih =>
    intro k I F h1 h2 hC hL hM
    obtain ⟨G, rfl⟩ : ∃ G, F = G + 1 := ⟨F - 1, by omega⟩
    have f0 : ¬ (64 : Int32) ≤ nI k := by rw [li_64, w_le (by omega) (by omega)]; omega
    obtain ⟨a, b, ha, hb, hk⟩ : ∃ a b, a < 8 ∧ b < 8 ∧ k = a * 8 + b := ⟨k / 8, k % 8, by omega, by omega, by omega⟩
    subst hk
    have dp := c_isPair (FU := FU) (pl := pl) (nm := nm) (hd := some 1) (rd := rd) hc hC hW ha hb
    rw [fX1_solve_L85, if_neg f0, fRb_31_1, show rc 3 (some 1) = some 1 from rfl, w_bind, dn dp]
    unfold fX1_solve_b111
    rw [li_1, nI_add]
    by_cases z : isPr P a b = true
    · obtain ⟨I1, a1, a2, a3, a4, a5⟩ := c_findMoved (FU := FU) (pl := pl) (nm := nm) (rd := rd) hF hC hW p6 hr z (hL a b z) (fun s hs => by rw [hM a b s z hs, if_neg (by omega)])
      obtain ⟨I2, b1, b2, b3, b4⟩ := ih (a * 8 + b + 1) I1 G (by omega) (by omega) (hC.congr (fun q _ _ => a4 q (by omega) (by omega) (by omega))) (fun h i p s hs => by rw [a4 32 (by decide) (by decide) (by decide)]; exact hL h i p s hs) (fun h i s p hs => by
        have hi8 := pr8 hW p
        by_cases y : h * 8 + i = a * 8 + b
        · have y1 : h = a := by omega
          have y2 : i = b := by omega
          subst y1 y2
          rw [a2 s hs, if_pos (by omega)]
        · have p64 : 2 ^ Pp P ≤ 64 := Nat.pow_le_pow_right (n := 2) (by decide) p6
          rw [a3 _ (by omega), hM h i s p hs]
          by_cases x : h * 8 + i < a * 8 + b
          · rw [if_pos x, if_pos (by omega)]
          · rw [if_neg x, if_neg (by omega)])
      refine ⟨I2, ?_, b2, fun q q1 q2 q3 => (b3 q q1 q2 q3).trans (a4 q q1 q2 q3), fun j hj => (b4 j hj).trans (a5 j hj)⟩
      rw [b01_pos z, if_neg (by decide), show rc 1 (some 31) = some 31 from rfl, w_bind, dn1 a1, b1]
    · obtain ⟨I2, b1, b2, b3, b4⟩ := ih (a * 8 + b + 1) I G (by omega) (by omega) hC hL (fun h i s p hs => by
        have hi8 := pr8 hW p
        have y : h * 8 + i ≠ a * 8 + b := by
          intro y
          have y1 : h = a := by omega
          have y2 : i = b := by omega
          subst y1 y2
          exact z p
        rw [hM h i s p hs]
        by_cases x : h * 8 + i < a * 8 + b
        · rw [if_pos x, if_pos (by omega)]
        · rw [if_neg x, if_neg (by omega)])
      refine ⟨I2, ?_, b2, b3, b4⟩
      rw [b01_neg z, if_pos (by decide), b1]
/-- one round: the hunters' pairs from k on -/
theorem c_sol120 (hF : 99999999 ≤ FU) (hW : WfP P) (p6 : Pp P ≤ 6) {r : Nat} (hr : r < 12) {K : Int32 → Int32 → Mem → Option Mem} : ∀ d k f I F, d + k = 64 → d < F → f ≤ 1 → PlC 1 P I → HM P (r + 1) I → (∀ h i s, isPr P h i = true → s < 2 ^ Pp P → I 32 ((h * 8 + i) * 64 + s) = oI (if h * 8 + i < k then lv P (r + 1) h i s else lv P r h i s)) → ∃ I' f', fX1_solve_L120 FU K 31 (nI (r + 1)) F (nI f) (nI k) (I, R0 pl nm (some 1) rd) = K (nI f') (nI (r + 2)) (I', R0 pl nm (some 1) rd) ∧ f' ≤ 1 ∧ (f' = 0 → f = 0 ∧ ∀ h i s, isPr P h i = true → k ≤ h * 8 + i → s < 2 ^ Pp P → lv P (r + 1) h i s = lv P r h i s) ∧ HL P (r + 1) I' ∧ (∀ q, q ≠ 32 → I' q = I q) := by
  have hc : (1 : Nat) = 1 ∨ (1 : Nat) = 9 := Or.inl rfl
  intro d
  induction d with
  | zero =>
    intro k f I F h1 h2 hf hC hM hL
    obtain ⟨G, rfl⟩ : ∃ G, F = G + 1 := ⟨F - 1, by omega⟩
    refine ⟨I, f, ?_, hf, fun e => ⟨e, fun h i s p hk => ?_⟩, fun h i p s hs => ?_, fun _ _ => rfl⟩
    · rw [fX1_solve_L120, if_pos (by rw [li_64, w_le (by omega) (by omega)]; omega), li_1, nI_add]
    · have := pr8 hW p
      omega
    · have := pr8 hW p
      rw [hL h i s p hs, if_pos (by omega)]
  | succ d ih =>
    intro k f I F h1 h2 hf hC hM hL
    obtain ⟨G, rfl⟩ : ∃ G, F = G + 1 := ⟨F - 1, by omega⟩
    have f0 : ¬ (64 : Int32) ≤ nI k := by rw [li_64, w_le (by omega) (by omega)]; omega
    obtain ⟨a, b, ha, hb, hk⟩ : ∃ a b, a < 8 ∧ b < 8 ∧ k = a * 8 + b := ⟨k / 8, k % 8, by omega, by omega, by omega⟩
    subst hk
    have dp := c_isPair (FU := FU) (pl := pl) (nm := nm) (hd := some 1) (rd := rd) hc hC hW ha hb
    rw [fX1_solve_L120, if_neg f0, fRb_31_1, show rc 3 (some 1) = some 1 from rfl, w_bind, dn dp]
    unfold fX1_solve_b151
    by_cases z : isPr P a b = true
    · obtain ⟨I1, f1, a1, a2, a3, a4, a5, a6⟩ := c_findLeast (FU := FU) (pl := pl) (nm := nm) (rd := rd) hF hC hW p6 hr z hM (fun s hs => by rw [hL a b s z hs, if_neg (by omega)])
      have nxt : ∀ f2, f2 ≤ 1 → (f2 = 0 → f = 0 ∧ f1 = 0) → ∃ I' f', fX1_solve_L120 FU K 31 (nI (r + 1)) G (nI f2) (nI (a * 8 + b + 1)) (I1, R0 pl nm (some 1) rd) = K (nI f') (nI (r + 2)) (I', R0 pl nm (some 1) rd) ∧ f' ≤ 1 ∧ (f' = 0 → f = 0 ∧ ∀ h i s, isPr P h i = true → a * 8 + b ≤ h * 8 + i → s < 2 ^ Pp P → lv P (r + 1) h i s = lv P r h i s) ∧ HL P (r + 1) I' ∧ (∀ q, q ≠ 32 → I' q = I q) := by
        intro f2 g1 g2
        obtain ⟨I2, f', b1, b2, b3, b4, b5⟩ := ih (a * 8 + b + 1) f2 I1 G (by omega) (by omega) g1 (hC.congr (fun q _ _ => a6 q (by omega))) (fun h i s p hs => by rw [a6 33 (by decide)]; exact hM h i s p hs) (fun h i s p hs => by
          have hi8 := pr8 hW p
          by_cases y : h * 8 + i = a * 8 + b
          · have y1 : h = a := by omega
            have y2 : i = b := by omega
            subst y1 y2
            rw [a4 s hs, if_pos (by omega)]
          · have p64 : 2 ^ Pp P ≤ 64 := Nat.pow_le_pow_right (n := 2) (by decide) p6
            rw [a5 _ (by omega), hL h i s p hs]
            by_cases x : h * 8 + i < a * 8 + b
            · rw [if_pos x, if_pos (by omega)]
            · rw [if_neg x, if_neg (by omega)])
        refine ⟨I2, f', b1, b2, fun e => ⟨(g2 (b3 e).1).1, fun h i s p hk hs => ?_⟩, b4, fun q hq => (b5 q hq).trans (a6 q hq)⟩
        have hi8 := pr8 hW p
        by_cases y : h * 8 + i = a * 8 + b
        · have y1 : h = a := by omega
          have y2 : i = b := by omega
          subst y1 y2
          exact a3 (g2 (b3 e).1).2 s hs
        · exact (b3 e).2 h i s p (by omega) hs
      rw [b01_pos z, if_neg (by decide), show rc 1 (some 31) = some 31 from rfl, w_bind, dn a1]
      rw [li_1, nI_add]
      by_cases w : f1 = 0
      · subst w
        rw [if_pos (by decide)]
        exact nxt f hf (fun e => ⟨e, rfl⟩)
      · rw [if_neg (by rw [li_0, w_eq (by omega) (by omega)]; exact w)]
        exact nxt 1 (Nat.le_refl 1) (fun e => absurd e (by decide))
    · obtain ⟨I2, f', b1, b2, b3, b4, b5⟩ := ih (a * 8 + b + 1) f I G (by omega) (by omega) hf hC hM (fun h i s p hs => by
        have hi8 := pr8 hW p
        have y : h * 8 + i ≠ a * 8 + b := by
          intro y
          have y1 : h = a := by omega
          have y2 : i = b := by omega
          subst y1 y2
          exact z p
        rw [hL h i s p hs]
        by_cases x : h * 8 + i < a * 8 + b
        · rw [if_pos x, if_pos (by omega)]
        · rw [if_neg x, if_neg (by omega)])
      refine ⟨I2, f', ?_, b2, fun e => ⟨(b3 e).1, fun h i s p hk hs => (b3 e).2 h i s p ?_ hs⟩, b4, b5⟩
      · rw [b01_neg z, if_pos (by decide), li_1, nI_add, b1]
      · have hi8 := pr8 hW p
        have y : h * 8 + i ≠ a * 8 + b := by
          intro y
          have y1 : h = a := by omega
          have y2 : i = b := by omega
          subst y1 y2
          exact z p
        omega
/-- nothing new in a round: nothing new ever -/
def lvSame (P : Pln) (r : Nat) : Prop := ∀ h i s, isPr P h i = true → s < 2 ^ Pp P → lv P (r + 1) h i s = lv P r h i s
theorem alD_cg (hp : Pp P ≤ 8) {T T' : Nat → Bool} {seen set : Nat} (hs : set < 2 ^ Pp P) (h : ∀ s, s < 2 ^ Pp P → T s = T' s) : alD P T seen set = alD P T' seen set := by
  unfold alD
  have := andn_le set seen
  rw [h _ (by omega)]
  congr 1
  rw [Bool.eq_iff_iff, allF_iff, allF_iff]
  constructor
  · intro e j j1 j2
    rw [← h _ (Nat.pow_lt_pow_right (by decide) (by omega))]
    exact e j j1 j2
  · intro e j j1 j2
    rw [h _ (Nat.pow_lt_pow_right (by decide) (by omega))]
    exact e j j1 j2
theorem isM_cg (hW : WfP P) {T T' : Nat → Bool} {a b set : Nat} (h : ∀ s, s < 2 ^ Pp P → T s = T' s) : isM P T a b set = isM P T' a b set := by
  have hp := wf_p hW
  unfold isM
  rw [alD_cg hp.2 (runsS_ltp hW) h]
  congr 1
  rw [Bool.eq_iff_iff, allF_iff, allF_iff]
  constructor
  · intro e j j1 j2
    rw [← alD_cg hp.2 (rch_ltp hW (by omega)) h]
    exact e j j1 j2
  · intro e j j1 j2
    rw [alD_cg hp.2 (rch_ltp hW (by omega)) h]
    exact e j j1 j2
theorem lvSame_s (hW : WfP P) {r : Nat} (h : lvSame P r) : lvSame P (r + 1) := by
  intro a b s pr hs
  have e0 := h a b s pr hs
  rw [lvm_33 (r + 1)]
  unfold lvm
  cases e : lv P (r + 1) a b s with
  | some j => rfl
  | none =>
    simp only
    rw [e] at e0
    have e1 := lvm_33 (P := P) r a b s
    rw [e] at e1
    unfold lvm at e1
    rw [← e0] at e1
    simp only at e1
    have c : anyB (fM P r a b s) 33 = false := by
      cases z : anyB (fM P r a b s) 33 with
      | false => rfl
      | true =>
        rw [z, if_pos rfl] at e1
        cases e1
    have cg : anyB (fM P (r + 1) a b s) 33 = anyB (fM P r a b s) 33 := by
      rw [Bool.eq_iff_iff, anyB_iff, anyB_iff]
      have fe : ∀ m, fM P (r + 1) a b s m = fM P r a b s m := by
        intro m
        unfold fM
        cases q : pAft P a b m with
        | none => rfl
        | some q' =>
          simp only
          have qok := (pAft_ok hW pr q).1
          exact isM_cg hW (fun t ht => by rw [h q'.1 q'.2 t qok ht])
      constructor
      · rintro ⟨m, m1, m2⟩
        exact ⟨m, m1, by rw [← fe]; exact m2⟩
      · rintro ⟨m, m1, m2⟩
        exact ⟨m, m1, by rw [fe]; exact m2⟩
    rw [cg, c, if_neg Bool.false_ne_true]
theorem lvSame_all (hW : WfP P) {r : Nat} (h : lvSame P r) : ∀ d h' i s, isPr P h' i = true → s < 2 ^ Pp P → lv P (r + d) h' i s = lv P r h' i s := by
  have ss : ∀ d, lvSame P (r + d) := by
    intro d
    induction d with
    | zero => exact h
    | succ d ih => exact lvSame_s hW ih
  intro d
  induction d with
  | zero => exact fun _ _ _ _ _ => rfl
  | succ d ih =>
    intro a b s pr hs
    rw [show r + (d + 1) = r + d + 1 by omega, ss d a b s pr hs, ih a b s pr hs]
/-- what the class holds when solved -/
def HidC (P : Pln) (I : Nat → Nat → Int32) : Prop := ∃ R, R ≤ 12 ∧ HL P R I ∧ HM P R I ∧ ∀ h i s, isPr P h i = true → s < 2 ^ Pp P → lv P 12 h i s = lv P R h i s
theorem c_sol70 (hF : 99999999 ≤ FU) (hW : WfP P) (p6 : Pp P ≤ 6) : ∀ d r f I F, d + r = 12 → d < F → f ≤ 1 → PlC 1 P I → HL P r I → HM P r I → (f = 0 → ∀ h i s, isPr P h i = true → s < 2 ^ Pp P → lv P 12 h i s = lv P r h i s) → ∃ I', fX1_solve_L70 FU 31 F (nI f) (nI (r + 1)) (I, R0 pl nm (some 1) rd) = some (I', R0 pl nm (some 1) rd) ∧ HidC P I' ∧ (∀ q, q < 31 ∨ 34 < q → I' q = I q) ∧ (∀ j, j ≠ 5 → I' 31 j = I 31 j) := by
  intro d
  induction d with
  | zero =>
    intro r f I F h1 h2 hf hC hL hM hs
    obtain ⟨G, rfl⟩ : ∃ G, F = G + 1 := ⟨F - 1, by omega⟩
    have e : r = 12 := by omega
    subst e
    refine ⟨I, ?_, ⟨12, Nat.le_refl _, hL, hM, fun _ _ _ _ _ => rfl⟩, fun _ _ => rfl, fun _ _ => rfl⟩
    rw [fX1_solve_L70, if_pos (by decide)]
  | succ d ih =>
    intro r f I F h1 h2 hf hC hL hM hs
    obtain ⟨G, rfl⟩ : ∃ G, F = G + 1 := ⟨F - 1, by omega⟩
    have f0 : ¬ (12 : Int32) < nI (r + 1) := by rw [li_12, w_lt (by omega) (by omega)]; omega
    rw [fX1_solve_L70, if_neg f0]
    by_cases z : f = 0
    · subst z
      rw [if_pos (by decide)]
      exact ⟨I, rfl, ⟨r, by omega, hL, hM, hs rfl⟩, fun _ _ => rfl, fun _ _ => rfl⟩
    · rw [if_neg (by rw [li_0, w_eq (by omega) (by omega)]; exact z)]
      obtain ⟨I1, a1, a2, a3, a4⟩ := c_sol85 (FU := FU) (pl := pl) (nm := nm) (rd := rd) hF hW p6 (r := r) (by omega) (K := fX1_solve_L70 FU 31 G) (mo := nI 0) 64 0 I FU (by omega) (by omega) hC hL (fun h i s p hs => by rw [if_neg (Nat.not_lt_zero _)]; exact hM h i s p hs)
      have hC1 : PlC 1 P I1 := hC.congr (fun q _ _ => a3 q (by omega) (by omega) (by omega))
      obtain ⟨I2, f2, b1, b2, b3, b4, b5⟩ := c_sol120 (FU := FU) (pl := pl) (nm := nm) (rd := rd) hF hW p6 (r := r) (by omega) (K := fX1_solve_L70 FU 31 G) 64 0 0 I1 FU (by omega) (by omega) (Nat.zero_le 1) hC1 a2 (fun h i s p hs => by rw [if_neg (Nat.not_lt_zero _), a3 32 (by decide) (by decide) (by decide)]; exact hL h i p s hs)
      have hC2 : PlC 1 P I2 := hC1.congr (fun q _ _ => b5 q (by omega))
      obtain ⟨I3, c1, c2, c3, c4⟩ := ih (r + 1) f2 I2 G (by omega) (by omega) b2 hC2 b4 (fun h i s p hs => by rw [b5 33 (by decide)]; exact a2 h i s p hs) (fun e => by
        have sm : lvSame P r := fun h i s p hs => (b3 e).2 h i s p (Nat.zero_le _) hs
        intro h i s p hs
        have q1 := lvSame_all hW sm (12 - r) h i s p hs
        have q2 := sm h i s p hs
        rw [show r + (12 - r) = 12 by omega] at q1
        rw [q1, q2])
      refine ⟨I3, ?_, c2, fun q hq => by rw [c3 q hq, b5 q (by omega), a3 q (by omega) (by omega) (by omega)], fun j hj => by rw [c4 j hj, b5 31 (by decide), a4 j hj]⟩
      rw [li_0, a1, b1, c1]
theorem c_sol28 (hF : 99999999 ≤ FU) : ∀ d k I F, d + k = 4096 → d < F → ∃ I', fX1_solve_L28 FU 31 F (nI k) (I, R0 pl nm hd rd) = fX1_solve_L70 FU 31 FU (nI 1) (nI 1) (I', R0 pl nm hd rd) ∧ (∀ j, k ≤ j → j < 4096 → I' 32 j = (if j % 64 = 0 then nI 0 else mI 1) ∧ I' 33 j = nI 0) ∧ (∀ j, j < k → I' 32 j = I 32 j ∧ I' 33 j = I 33 j) ∧ (∀ q, q ≠ 32 → q ≠ 33 → I' q = I q) := by
  intro d
  induction d with
  | zero =>
    intro k I F h1 h2
    obtain ⟨G, rfl⟩ : ∃ G, F = G + 1 := ⟨F - 1, by omega⟩
    refine ⟨I, ?_, fun j j1 j2 => by omega, fun _ _ => ⟨rfl, rfl⟩, fun _ _ _ => rfl⟩
    rw [fX1_solve_L28, if_pos (by rw [li_4096, w_le (by omega) (by omega)]; omega), li_1]
  | succ d ih =>
    intro k I F h1 h2
    obtain ⟨G, rfl⟩ : ∃ G, F = G + 1 := ⟨F - 1, by omega⟩
    have f0 : ¬ (4096 : Int32) ≤ nI k := by rw [li_4096, w_le (by omega) (by omega)]; omega
    have rem : nI k - nI k / (64 : Int32) * (64 : Int32) = nI (k % 64) := by simp (discharger := omega) only [li_0, li_1, li_2, li_3, li_4, li_5, li_6, li_7, li_8, li_9, li_10, li_11, li_12, li_13, li_14, li_15, li_16, li_17, li_18, li_19, li_20, li_21, li_22, li_23, li_24, li_25, li_26, li_27, li_28, li_29, li_30, li_31, li_32, li_33, li_34, li_35, li_36, li_37, li_38, li_39, li_40, li_41, li_42, li_43, li_44, li_45, li_46, li_47, li_48, li_49, li_50, li_51, li_52, li_53, li_54, li_55, li_56, li_57, li_58, li_59, li_60, li_61, li_62, li_63, li_64, li_65, li_66, li_67, li_68, li_69, li_70, li_71, li_72, li_73, li_74, li_75, li_76, li_77, li_78, li_79, li_80, li_81, li_82, li_83, li_84, li_85, li_86, li_87, li_88, li_89, li_90, li_91, li_92, li_93, li_94, li_95, li_96, li_97, li_98, li_99, li_100, li_101, li_102, li_103, li_104, li_105, li_106, li_107, li_108, li_109, li_110, li_111, li_112, li_113, li_114, li_115, li_116, li_117, li_118, li_119, li_120, li_121, li_122, li_123, li_124, li_125, li_126, li_127, li_128, li_144, li_150, li_200, li_255, li_384, li_512, li_999, li_1000, li_1024, li_1152, li_1920, li_3776, li_4096, li_9216, li_10000, li_100000, li_1073741824, li_m, w_lt, w_le, w_eq, w_mlt, w_mle, w_ltm, w_lem, w_meq, w_eqm, w_mm, w_mmlt, w_mmle, nI_add, w_sub, pk_mul, w_div, w_rem, w_and, w_or, w_shr, w_shl1, w_a31, w_andn]
    have go : ∀ v : Int32, v = (if k % 64 = 0 then nI 0 else mI 1) → ∃ I', fX1_solve_b52 FU (fX1_solve_L28 FU 31 G) 31 (nI k) (some 32) (nI k) v (I, R0 pl nm hd rd) = fX1_solve_L70 FU 31 FU (nI 1) (nI 1) (I', R0 pl nm hd rd) ∧ (∀ j, k ≤ j → j < 4096 → I' 32 j = (if j % 64 = 0 then nI 0 else mI 1) ∧ I' 33 j = nI 0) ∧ (∀ j, j < k → I' 32 j = I 32 j ∧ I' 33 j = I 33 j) ∧ (∀ q, q ≠ 32 → q ≠ 33 → I' q = I q) := by
      intro v hv
      obtain ⟨I', a1, a2, a3, a4⟩ := ih (k + 1) (up2 (up2 I 32 k v) 33 k (nI 0)) G (by omega) (by omega)
      refine ⟨I', ?_, fun j j1 j2 => ?_, fun j hj => ?_, fun q q1 q2 => by rw [a4 q q1 q2, up2_ne q2, up2_ne q1]⟩
      · unfold fX1_solve_b52
        rw [sIb_32 (by omega), fRb_31_3, li_0, sIb_33 (by omega), li_1, nI_add]
        exact a1
      · by_cases z : j = k
        · subst z
          have := a3 j (by omega)
          rw [this.1, this.2, up2_k (by decide), up2_s, up2_s, hv]
          exact ⟨rfl, rfl⟩
        · exact a2 j (by omega) j2
      · have := a3 j (by omega)
        rw [this.1, this.2, up2_k (by decide), up2_i (by omega), up2_i (by omega), up2_k (by decide)]
        exact ⟨rfl, rfl⟩
    rw [fX1_solve_L28, if_neg f0, fRb_31_2, rem]
    by_cases z : k % 64 = 0
    · rw [z, if_neg (by decide)]
      exact go 0 (by rw [if_pos z]; rfl)
    · rw [if_pos (by rw [li_0, w_eq (by omega) (by omega)]; exact z)]
      exact go (-1) (by rw [if_neg z]; rfl)
theorem c_hidSolve (hF : 99999999 ≤ FU) (hC : PlC 1 P I) (hW : WfP P) (p6 : Pp P ≤ 6) : ∃ I', fX1_solve FU 31 (some 1) (I, R0 pl nm hd rd) = some (I', R0 pl nm (some 1) rd) ∧ HidC P I' ∧ I' 31 0 = I 1 12 ∧ (∀ q, q < 31 ∨ 34 < q → I' q = I q) := by
  have hp := wf_p hW
  generalize hT : up2 I 31 0 (I 1 12) = T
  have tk : ∀ q, q ≠ 31 → T q = I q := fun q hq => by rw [← hT, up2_ne hq]
  obtain ⟨I1, a1, a2, a3, a4⟩ := c_sol28 (FU := FU) (pl := pl) (nm := nm) (hd := some 1) (rd := rd) hF 4096 0 T FU (by omega) (by omega)
  have hC1 : PlC 1 P I1 := hC.congr (fun q _ _ => by rw [a4 q (by omega) (by omega), tk q (by omega)])
  have p64 : 2 ^ Pp P ≤ 64 := Nat.pow_le_pow_right (n := 2) (by decide) p6
  obtain ⟨I2, b1, b2, b3, b4⟩ := c_sol70 (FU := FU) (pl := pl) (nm := nm) (rd := rd) hF hW p6 12 0 1 I1 FU (by omega) (by omega) (Nat.le_refl 1) hC1 (fun h i p s hs => by
    have := pr8 hW p
    rw [(a2 ((h * 8 + i) * 64 + s) (by omega) (by omega)).1]
    show _ = oI (if s = 0 then some 0 else none)
    by_cases z : s = 0
    · rw [if_pos z, if_pos (by omega)]
      rfl
    · rw [if_neg z, if_neg (by omega)]
      rfl) (fun h i s p hs => by
    have := pr8 hW p
    rw [(a2 ((h * 8 + i) * 64 + s) (by omega) (by omega)).2]
    rfl) (fun e => absurd e (by decide))
  refine ⟨I2, ?_, b2, ?_, fun q hq => by rw [b3 q hq, a4 q (by omega) (by omega), tk q (by omega)]⟩
  · unfold fX1_solve
    have x0 : T 1 0 = nI (Pp P) := by rw [tk 1 (by decide), hC.1]
    have a1 : fX1_solve_L28 FU 31 FU (0 : Int32) (T, R0 pl nm (some 1) rd) = _ := a1
    rw [show pR 1 (I, R0 pl nm hd rd) (some 31) 1 (some 1) = some (I, up2 (R0 pl nm hd rd) 31 1 (some 1)) from rfl, w_bind, r0_set_hd, fIb_1, pIb_31, hT, fRb_31_1, fIb_1, x0, if_pos (by rw [li_6, w_le (by omega) (by omega)]; omega), a1, b1]
  · rw [b4 0 (by decide), a4 31 (by decide) (by decide), ← hT, up2_s]
end Hid4
