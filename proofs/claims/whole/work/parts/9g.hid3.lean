/-! hidden, the class: findLeast -/
section Hid3
variable {FU ver : Nat} {P : Pln} {I J : Nat → Nat → Int32} {pl nm hd rd : Option Nat}
theorem alD_mono {T T' : Nat → Bool} (h : ∀ s, T s = true → T' s = true) {seen set : Nat} (e : alD P T seen set = true) : alD P T' seen set = true := by
  unfold alD at e ⊢
  rw [Bool.and_eq_true, allF_iff] at e ⊢
  refine ⟨h _ e.1, fun j j1 j2 => ?_⟩
  have := e.2 j j1 j2
  rw [Bool.or_eq_true] at this ⊢
  rcases this with z | z
  · exact Or.inl z
  · exact Or.inr (h _ z)
theorem isM_mono {T T' : Nat → Bool} (h : ∀ s, T s = true → T' s = true) {a b set : Nat} (e : isM P T a b set = true) : isM P T' a b set = true := by
  unfold isM at e ⊢
  rw [Bool.and_eq_true, allF_iff] at e ⊢
  refine ⟨fun j j1 j2 => ?_, alD_mono h e.2⟩
  have := e.1 j j1 j2
  rw [Bool.or_eq_true] at this ⊢
  rcases this with z | z
  · exact Or.inl z
  · exact Or.inr (alD_mono h z)
theorem lv_s {r h i s j : Nat} (e : lv P r h i s = some j) : lv P (r + 1) h i s = some j := by
  unfold lv
  rw [e]
theorem lv_mono {r h i s : Nat} (e : (lv P r h i s).isSome = true) : (lv P (r + 1) h i s).isSome = true := by
  obtain ⟨j, hj⟩ := Option.isSome_iff_exists.mp e
  rw [lv_s hj]
  rfl
theorem mv_iff {r h i s : Nat} : mv P (r + 1) h i s ≠ 0 ↔ isM P (fun s => (lv P r h i s).isSome) h i s = true := by
  have up : ∀ r, mv P r h i s ≠ 0 → isM P (fun s => (lv P r h i s).isSome) h i s = true := by
    intro r
    induction r with
    | zero => exact fun h => absurd rfl h
    | succ r ih =>
      intro e
      apply isM_mono (fun s hs => lv_mono hs)
      by_cases z : mv P r h i s = 0
      · have : mv P (r + 1) h i s = if isM P (fun s => (lv P r h i s).isSome) h i s = true then r + 1 else 0 := by
          show (if mv P r h i s ≠ 0 then _ else _) = _
          rw [if_neg (fun h => h z)]
        rw [this] at e
        apply Classical.byContradiction
        intro y
        rw [if_neg y] at e
        exact e rfl
      · exact ih z
  show (if mv P r h i s ≠ 0 then mv P r h i s else if isM P (fun s => (lv P r h i s).isSome) h i s = true then r + 1 else 0) ≠ 0 ↔ _
  by_cases z : mv P r h i s ≠ 0
  · rw [if_pos z]
    exact ⟨fun _ => up r z, fun _ => z⟩
  · rw [if_neg z]
    by_cases y : isM P (fun s => (lv P r h i s).isSome) h i s = true
    · rw [if_pos y]
      exact ⟨fun _ => y, fun _ => by omega⟩
    · rw [if_neg y]
      exact ⟨fun h => absurd rfl h, fun h => absurd h y⟩
/-- a move brings sureness -/
def fM (P : Pln) (r h i s m : Nat) : Bool := match pAft P h i m with
  | none => false
  | some q => isM P (fun s => (lv P r q.1 q.2 s).isSome) q.1 q.2 (andn s (plcM q.1 q.2))
/-- moves below m reckoned -/
def lvm (P : Pln) (r h i s m : Nat) : Option Nat := match lv P r h i s with
  | some j => some j
  | none => if anyB (fM P r h i s) m = true then some (r + 1) else none
theorem lvm_33 (r h i s : Nat) : lv P (r + 1) h i s = lvm P r h i s 33 := by
  rw [lv]
  rfl
theorem lvm_0 (r h i s : Nat) : lvm P r h i s 0 = lv P r h i s := by
  unfold lvm
  cases lv P r h i s with
  | none => rfl
  | some j => rfl
theorem lvm_le {r h i s m j : Nat} (e : lvm P r h i s m = some j) : j ≤ r + 1 := by
  unfold lvm at e
  cases q : lv P r h i s with
  | some k =>
    rw [q] at e
    have e := Option.some.inj e
    have := lv_le r h i s k q
    omega
  | none =>
    rw [q] at e
    simp only at e
    split at e
    · have e := Option.some.inj e
      omega
    · cases e
theorem lvm_s0 {r h i s m : Nat} (h1 : fM P r h i s m = false ∨ (lvm P r h i s m).isSome = true) : lvm P r h i s (m + 1) = lvm P r h i s m := by
  unfold lvm at h1 ⊢
  cases q : lv P r h i s with
  | some k => rfl
  | none =>
    rw [q] at h1
    simp only at h1 ⊢
    rw [anyB_s]
    cases z : anyB (fM P r h i s) m with
    | true => rfl
    | false =>
      rw [z] at h1
      rcases h1 with h1 | h1
      · rw [h1]
        rfl
      · rw [if_neg Bool.false_ne_true] at h1
        exact absurd h1 Bool.false_ne_true
theorem lvm_s1 {r h i s m : Nat} (h1 : fM P r h i s m = true) (h2 : ¬ (lvm P r h i s m).isSome = true) : lvm P r h i s (m + 1) = some (r + 1) := by
  unfold lvm at h2 ⊢
  cases q : lv P r h i s with
  | some k =>
    rw [q] at h2
    exact absurd rfl h2
  | none =>
    simp only
    rw [anyB_s, h1, Bool.or_true, if_pos rfl]
/-- all pairs' rows behind the hunters' move -/
def HM (P : Pln) (r : Nat) (I : Nat → Nat → Int32) : Prop := ∀ h i s, isPr P h i = true → s < 2 ^ Pp P → I 33 ((h * 8 + i) * 64 + s) = nI (mv P r h i s)
theorem c_least35 (hF : 99999999 ≤ FU) (hW : WfP P) (p6 : Pp P ≤ 6) {r h i m : Nat} {q : Nat × Nat} (hr : r < 12) (hh : h < 8) (hi : i < 8) (hq : pAft P h i m = some q) (hqp : isPr P q.1 q.2 = true) {K : Int32 → Int32 → Mem → Option (Int32 × Mem)} : ∀ e s f I F, e + s = 2 ^ Pp P → e < F → f ≤ 1 → PlC 1 P I → HM P (r + 1) I → (∀ s', s ≤ s' → s' < 2 ^ Pp P → I 32 ((h * 8 + i) * 64 + s') = oI (lvm P r h i s' m)) → ∃ I' f', fX1_findLeast_L35 FU K 31 (nI (h * 8 + i)) (nI (r + 1)) (nI m) (nI (q.1 * 8 + q.2)) F (nI f) (nI s) (I, R0 pl nm (some 1) rd) = K (nI f') (nI (m + 1)) (I', R0 pl nm (some 1) rd) ∧ f' ≤ 1 ∧ (f' = 0 → f = 0 ∧ ∀ s', s ≤ s' → s' < 2 ^ Pp P → lvm P r h i s' (m + 1) = lvm P r h i s' m) ∧ (∀ s', s ≤ s' → s' < 2 ^ Pp P → I' 32 ((h * 8 + i) * 64 + s') = oI (lvm P r h i s' (m + 1))) ∧ (∀ j, j < (h * 8 + i) * 64 + s ∨ (h * 8 + i) * 64 + 64 ≤ j → I' 32 j = I 32 j) ∧ (∀ k, k ≠ 32 → I' k = I k) := by
  have hc : (1 : Nat) = 1 ∨ (1 : Nat) = 9 := Or.inl rfl
  have hp := wf_p hW
  have p64 : 2 ^ Pp P ≤ 64 := Nat.pow_le_pow_right (n := 2) (by decide) p6
  have p1 : 1 ≤ 2 ^ Pp P := Nat.one_le_two_pow
  have qp := isPr_iff.mp hqp
  intro e
  induction e with
  | zero =>
    intro s f I F h1 h2 hf hC hM hb
    obtain ⟨G, rfl⟩ : ∃ G, F = G + 1 := ⟨F - 1, by omega⟩
    have da := c_allPlaces (FU := FU) (pl := pl) (nm := nm) (hd := some 1) (rd := rd) hc hC hW
    refine ⟨I, f, ?_, hf, fun e => ⟨e, fun s' s1 s2 => by omega⟩, fun s' s1 s2 => by omega, fun _ _ => rfl, fun _ _ => rfl⟩
    unfold fX1_findLeast_L35 fX1_findLeast_b97
    rw [fRb_31_1, show rc 3 (some 1) = some 1 from rfl, w_bind, dn da, if_pos (by rw [w_lt (by omega) (by omega)]; omega), li_1, nI_add]
  | succ e ih =>
    intro s f I F h1 h2 hf hC hM hb
    obtain ⟨G, rfl⟩ : ∃ G, F = G + 1 := ⟨F - 1, by omega⟩
    have da := c_allPlaces (FU := FU) (pl := pl) (nm := nm) (hd := some 1) (rd := rd) hc hC hW
    have f0 : ¬ nI (2 ^ Pp P - 1) < nI s := by rw [w_lt (by omega) (by omega)]; omega
    have hbs := hb s (Nat.le_refl s) (by omega)
    have e1 : nI (h * 8 + i) * (64 : Int32) + nI s = nI ((h * 8 + i) * 64 + s) := by
      clear hb hM ih
      simp (discharger := omega) only [li_0, li_1, li_2, li_3, li_4, li_5, li_6, li_7, li_8, li_9, li_10, li_11, li_12, li_13, li_14, li_15, li_16, li_17, li_18, li_19, li_20, li_21, li_22, li_23, li_24, li_25, li_26, li_27, li_28, li_29, li_30, li_31, li_32, li_33, li_34, li_35, li_36, li_37, li_38, li_39, li_40, li_41, li_42, li_43, li_44, li_45, li_46, li_47, li_48, li_49, li_50, li_51, li_52, li_53, li_54, li_55, li_56, li_57, li_58, li_59, li_60, li_61, li_62, li_63, li_64, li_65, li_66, li_67, li_68, li_69, li_70, li_71, li_72, li_73, li_74, li_75, li_76, li_77, li_78, li_79, li_80, li_81, li_82, li_83, li_84, li_85, li_86, li_87, li_88, li_89, li_90, li_91, li_92, li_93, li_94, li_95, li_96, li_97, li_98, li_99, li_100, li_101, li_102, li_103, li_104, li_105, li_106, li_107, li_108, li_109, li_110, li_111, li_112, li_113, li_114, li_115, li_116, li_117, li_118, li_119, li_120, li_121, li_122, li_123, li_124, li_125, li_126, li_127, li_128, li_144, li_150, li_200, li_255, li_384, li_512, li_999, li_1000, li_1024, li_1152, li_1920, li_3776, li_4096, li_9216, li_10000, li_100000, li_1073741824, li_m, w_lt, w_le, w_eq, w_mlt, w_mle, w_ltm, w_lem, w_meq, w_eqm, w_mm, w_mmlt, w_mmle, nI_add, w_sub, pk_mul, w_div, w_rem, w_and, w_or, w_shr, w_shl1, w_a31, w_andn]
    have q1 := oI_le (o := lvm P r h i s m) (fun j hj => by have := lvm_le hj; omega)
    have skip : lvm P r h i s (m + 1) = lvm P r h i s m → ∃ I' f', fX1_findLeast_b91 FU K (fX1_findLeast_L35 FU K 31 (nI (h * 8 + i)) (nI (r + 1)) (nI m) (nI (q.1 * 8 + q.2)) G) 31 (nI (h * 8 + i)) (nI (r + 1)) (nI f) (nI m) (nI (q.1 * 8 + q.2)) (nI s) (I, R0 pl nm (some 1) rd) = K (nI f') (nI (m + 1)) (I', R0 pl nm (some 1) rd) ∧ f' ≤ 1 ∧ (f' = 0 → f = 0 ∧ ∀ s', s ≤ s' → s' < 2 ^ Pp P → lvm P r h i s' (m + 1) = lvm P r h i s' m) ∧ (∀ s', s ≤ s' → s' < 2 ^ Pp P → I' 32 ((h * 8 + i) * 64 + s') = oI (lvm P r h i s' (m + 1))) ∧ (∀ j, j < (h * 8 + i) * 64 + s ∨ (h * 8 + i) * 64 + 64 ≤ j → I' 32 j = I 32 j) ∧ (∀ k, k ≠ 32 → I' k = I k) := by
      intro em
      obtain ⟨I', f', a1, a2, a3, a4, a5, a6⟩ := ih (s + 1) f I G (by omega) (by omega) hf hC hM (fun s' s1 s2 => hb s' (by omega) s2)
      refine ⟨I', f', ?_, a2, fun z => ⟨(a3 z).1, fun s' s1 s2 => ?_⟩, fun s' s1 s2 => ?_, fun j hj => a5 j (by omega), a6⟩
      · unfold fX1_findLeast_b91
        rw [li_1, nI_add]
        exact a1
      · by_cases y : s' = s
        · subst y
          exact em
        · exact (a3 z).2 s' (by omega) s2
      · by_cases y : s' = s
        · subst y
          rw [a5 _ (by omega), hbs, em]
        · exact a4 s' (by omega) s2
    rw [fX1_findLeast_L35, fRb_31_1, show rc 3 (some 1) = some 1 from rfl, w_bind, dn da, if_neg f0, fRb_31_2, e1, aIb_32 (by omega), hbs]
    by_cases z : (lvm P r h i s m).isSome = true
    · rw [if_pos (by rw [q1]; exact z)]
      exact skip (lvm_s0 (Or.inr z))
    · have dp := c_placesOf (FU := FU) (pl := pl) (nm := nm) (hd := some 1) (rd := rd) (I := I) (h := q.1) (i := q.2) (by omega) (by omega)
      have al := andn_le s (plcM q.1 q.2)
      have dm : fX1_moved FU (nI (q.1 * 8 + q.2)) (nI s) (I, R0 pl nm (some 1) rd) = some (nI ((q.1 * 8 + q.2) * 64 + andn s (plcM q.1 q.2)), (I, R0 pl nm (some 1) rd)) := by
        unfold fX1_moved
        rw [dn dp]
        clear hb hM ih skip
        simp (discharger := omega) only [li_0, li_1, li_2, li_3, li_4, li_5, li_6, li_7, li_8, li_9, li_10, li_11, li_12, li_13, li_14, li_15, li_16, li_17, li_18, li_19, li_20, li_21, li_22, li_23, li_24, li_25, li_26, li_27, li_28, li_29, li_30, li_31, li_32, li_33, li_34, li_35, li_36, li_37, li_38, li_39, li_40, li_41, li_42, li_43, li_44, li_45, li_46, li_47, li_48, li_49, li_50, li_51, li_52, li_53, li_54, li_55, li_56, li_57, li_58, li_59, li_60, li_61, li_62, li_63, li_64, li_65, li_66, li_67, li_68, li_69, li_70, li_71, li_72, li_73, li_74, li_75, li_76, li_77, li_78, li_79, li_80, li_81, li_82, li_83, li_84, li_85, li_86, li_87, li_88, li_89, li_90, li_91, li_92, li_93, li_94, li_95, li_96, li_97, li_98, li_99, li_100, li_101, li_102, li_103, li_104, li_105, li_106, li_107, li_108, li_109, li_110, li_111, li_112, li_113, li_114, li_115, li_116, li_117, li_118, li_119, li_120, li_121, li_122, li_123, li_124, li_125, li_126, li_127, li_128, li_144, li_150, li_200, li_255, li_384, li_512, li_999, li_1000, li_1024, li_1152, li_1920, li_3776, li_4096, li_9216, li_10000, li_100000, li_1073741824, li_m, w_lt, w_le, w_eq, w_mlt, w_mle, w_ltm, w_lem, w_meq, w_eqm, w_mm, w_mmlt, w_mmle, nI_add, w_sub, pk_mul, w_div, w_rem, w_and, w_or, w_shr, w_shl1, w_a31, w_andn]
      have hmv := hM q.1 q.2 (andn s (plcM q.1 q.2)) hqp (by omega)
      have ml := mv_le (P := P) (r + 1) q.1 q.2 (andn s (plcM q.1 q.2))
      have fe : fM P r h i s m = isM P (fun s => (lv P r q.1 q.2 s).isSome) q.1 q.2 (andn s (plcM q.1 q.2)) := by
        unfold fM
        rw [hq]
      rw [if_neg (by rw [q1]; exact z), fRb_31_3, dn dm, aIb_33 (by omega), hmv]
      by_cases y : mv P (r + 1) q.1 q.2 (andn s (plcM q.1 q.2)) = 0
      · rw [if_pos (by rw [li_0, w_le (by omega) (by omega)]; omega)]
        refine skip (lvm_s0 (Or.inl ?_))
        rw [fe]
        cases x : isM P (fun s => (lv P r q.1 q.2 s).isSome) q.1 q.2 (andn s (plcM q.1 q.2)) with
        | false => rfl
        | true => exact absurd y (mv_iff.mpr x)
      · have fx : fM P r h i s m = true := by
          rw [fe]
          exact mv_iff.mp y
        have nx := lvm_s1 fx z
        rw [if_neg (by rw [li_0, w_le (by omega) (by omega)]; omega), fRb_31_2, sIb_32 (by omega)]
        generalize hT : up2 I 32 ((h * 8 + i) * 64 + s) (nI (r + 1)) = T
        have tk : ∀ k, k ≠ 32 → T k = I k := fun k hk => by rw [← hT, up2_ne hk]
        have tj : ∀ j, j ≠ (h * 8 + i) * 64 + s → T 32 j = I 32 j := fun j hj => by rw [← hT, up2_i hj]
        obtain ⟨I', f', a1, a2, a3, a4, a5, a6⟩ := ih (s + 1) 1 T G (by omega) (by omega) (Nat.le_refl 1) (hC.congr (fun k _ _ => tk k (by omega))) (fun a b c d1 d2 => by rw [tk 33 (by decide)]; exact hM a b c d1 d2) (fun s' s1 s2 => by rw [tj _ (by omega)]; exact hb s' (by omega) s2)
        refine ⟨I', f', ?_, a2, fun z => absurd (a3 z).1 (by decide), fun s' s1 s2 => ?_, fun j hj => by rw [a5 j (by omega), tj j (by omega)], fun k hk => (a6 k hk).trans (tk k hk)⟩
        · unfold fX1_findLeast_b91
          rw [li_1, nI_add]
          exact a1
        · by_cases w : s' = s
          · subst w
            rw [a5 _ (by omega), ← hT, up2_s, nx]
            rfl
          · exact a4 s' (by omega) s2
theorem c_least5 (hF : 99999999 ≤ FU) (hW : WfP P) (p6 : Pp P ≤ 6) {r h i : Nat} (hr : r < 12) (hpr : isPr P h i = true) : ∀ e m f I F, e + m = 33 → e < F → f ≤ 1 → PlC 1 P I → HM P (r + 1) I → (∀ s, s < 2 ^ Pp P → I 32 ((h * 8 + i) * 64 + s) = oI (lvm P r h i s m)) → ∃ I' f', fX1_findLeast_L5 FU 31 (nI (h * 8 + i)) (nI (r + 1)) F (nI f) (nI m) (I, R0 pl nm (some 1) rd) = some (nI f', (I', R0 pl nm (some 1) rd)) ∧ f' ≤ 1 ∧ (f' = 0 → f = 0 ∧ ∀ s, s < 2 ^ Pp P → lvm P r h i s 33 = lvm P r h i s m) ∧ (∀ s, s < 2 ^ Pp P → I' 32 ((h * 8 + i) * 64 + s) = oI (lvm P r h i s 33)) ∧ (∀ j, j < (h * 8 + i) * 64 ∨ (h * 8 + i) * 64 + 64 ≤ j → I' 32 j = I 32 j) ∧ (∀ k, k ≠ 32 → I' k = I k) := by
  have hc : (1 : Nat) = 1 ∨ (1 : Nat) = 9 := Or.inl rfl
  have hp := wf_p hW
  have pr := isPr_iff.mp hpr
  intro e
  induction e with
  | zero =>
    intro m f I F h1 h2 hf hC hM hb
    obtain ⟨G, rfl⟩ : ∃ G, F = G + 1 := ⟨F - 1, by omega⟩
    have e : m = 33 := by omega
    subst e
    refine ⟨I, f, ?_, hf, fun e => ⟨e, fun _ _ => rfl⟩, hb, fun _ _ => rfl, fun _ _ => rfl⟩
    have o : nI f = 0 ∨ nI f = 1 := by
      obtain z | z : f = 0 ∨ f = 1 := by omega
      · subst z
        exact Or.inl rfl
      · subst z
        exact Or.inr rfl
    rw [fX1_findLeast_L5, if_pos (by decide), if_pos o]
  | succ e ih =>
    intro m f I F h1 h2 hf hC hM hb
    obtain ⟨G, rfl⟩ : ∃ G, F = G + 1 := ⟨F - 1, by omega⟩
    have f0 : ¬ (32 : Int32) < nI m := by rw [li_32, w_lt (by omega) (by omega)]; omega
    have dp := c_pairAfter (FU := FU) (pl := pl) (nm := nm) (hd := some 1) (rd := rd) hc hC hW (h := h) (i := i) (m := m) pr.1 pr.2.1 (by omega)
    rw [fX1_findLeast_L5, if_neg f0, fRb_31_1, show rc 3 (some 1) = some 1 from rfl, w_bind, dn dp]
    cases hq : pAft P h i m with
    | none =>
      have nx : ∀ s, lvm P r h i s (m + 1) = lvm P r h i s m := fun s => lvm_s0 (Or.inl (by unfold fM; rw [hq]))
      obtain ⟨I', f', a1, a2, a3, a4, a5, a6⟩ := ih (m + 1) f I G (by omega) (by omega) hf hC hM (fun s hs => by rw [nx]; exact hb s hs)
      refine ⟨I', f', ?_, a2, fun z => ⟨(a3 z).1, fun s hs => by rw [(a3 z).2 s hs, nx]⟩, a4, a5, a6⟩
      rw [if_neg (show ¬ (0 : Int32) ≤ pI2 none by decide)]
      unfold fX1_findLeast_b97
      rw [li_1, nI_add]
      exact a1
    | some q =>
      have qok := (pAft_ok hW hpr hq).1
      have qp := isPr_iff.mp qok
      obtain ⟨I1, f1, b1, b2, b3, b4, b5, b6⟩ := c_least35 (FU := FU) (pl := pl) (nm := nm) (rd := rd) hF hW p6 hr (h := h) (i := i) (by omega) (by omega) hq qok (K := fX1_findLeast_L5 FU 31 (nI (h * 8 + i)) (nI (r + 1)) G) (2 ^ Pp P) 0 f I FU (by omega) (by have : 2 ^ Pp P ≤ 64 := Nat.pow_le_pow_right (n := 2) (by decide) p6; omega) hf hC hM (fun s _ hs => hb s hs)
      obtain ⟨I', f', a1, a2, a3, a4, a5, a6⟩ := ih (m + 1) f1 I1 G (by omega) (by omega) b2 (hC.congr (fun k _ _ => b6 k (by omega))) (fun a b c d1 d2 => by rw [b6 33 (by decide)]; exact hM a b c d1 d2) (fun s hs => b4 s (Nat.zero_le s) hs)
      refine ⟨I', f', ?_, a2, fun z => ⟨(b3 (a3 z).1).1, fun s hs => by rw [(a3 z).2 s hs, (b3 (a3 z).1).2 s (Nat.zero_le s) hs]⟩, a4, fun j hj => (a5 j hj).trans (b5 j (by omega)), fun k hk => (a6 k hk).trans (b6 k hk)⟩
      have e0 : pI2 (some q) = nI (q.1 * 8 + q.2) := rfl
      rw [e0, if_pos (by rw [li_0, w_le (by omega) (by omega)]; omega), li_0, b1, a1]
theorem c_findLeast (hF : 99999999 ≤ FU) (hC : PlC 1 P I) (hW : WfP P) (p6 : Pp P ≤ 6) {r h i : Nat} (hr : r < 12) (hpr : isPr P h i = true) (hM : HM P (r + 1) I) (hb : HB P r h i I) : ∃ I' f', fX1_findLeast FU 31 (nI (h * 8 + i)) (nI (r + 1)) (I, R0 pl nm (some 1) rd) = some (nI f', (I', R0 pl nm (some 1) rd)) ∧ f' ≤ 1 ∧ (f' = 0 → ∀ s, s < 2 ^ Pp P → lv P (r + 1) h i s = lv P r h i s) ∧ HB P (r + 1) h i I' ∧ (∀ j, j < (h * 8 + i) * 64 ∨ (h * 8 + i) * 64 + 64 ≤ j → I' 32 j = I 32 j) ∧ (∀ k, k ≠ 32 → I' k = I k) := by
  obtain ⟨I', f', a1, a2, a3, a4, a5, a6⟩ := c_least5 (FU := FU) (pl := pl) (nm := nm) (rd := rd) hF hW p6 hr hpr 33 0 0 I FU (by omega) (by omega) (Nat.zero_le 1) hC hM (fun s hs => by rw [lvm_0]; exact hb s hs)
  refine ⟨I', f', a1, a2, fun z s hs => ?_, fun s hs => ?_, a5, a6⟩
  · rw [lvm_33, (a3 z).2 s hs, lvm_0]
  · rw [a4 s hs, lvm_33]
end Hid3
