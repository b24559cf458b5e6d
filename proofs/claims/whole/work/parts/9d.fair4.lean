/-! calls: fairer -/
section Fair4
variable {FU ver : Nat} {P : Pln} {I J : Nat → Nat → Int32} {pl nm hd rd : Option Nat} {L : Sd → Option Nat}
/-- the reference takes the lesser -/
theorem r_upd {α : Type} {fo : Fo} (h : okF fo) {f d : Nat} (hd' : d < 2000) {K : Int32 → Int32 → α} : (if fF fo < 0 then K (nI f) (nI d) else (if nI d < fN 0 fo then K (nI f) (nI d) else K (fF fo) (fN 0 fo))) = K (fF (fUp fo f d)) (fN 0 (fUp fo f d)) := by
  cases fo with
  | none =>
    have : fF none < 0 := by decide
    rw [if_pos this]
    rfl
  | some q =>
    obtain ⟨q1, q2⟩ := h q rfl
    have : ¬ fF (some q) < 0 := by
      show ¬ nI q.1 < 0
      rw [li_0, w_lt (by omega) (by omega)]
      omega
    rw [if_neg this]
    show (if nI d < nI q.2 then _ else _) = _
    by_cases z : d < q.2
    · have e : fUp (some q) f d = some (f, d) := by
        unfold fUp
        simp only
        rw [if_pos z]
      rw [if_pos (by rw [w_lt (by omega) (by omega)]; exact z), e]
      rfl
    · have e : fUp (some q) f d = some q := by
        unfold fUp
        simp only
        rw [if_neg z]
      rw [if_neg (by rw [w_lt (by omega) (by omega)]; exact z), e]
theorem r_fair16 (hF : 99999999 ≤ FU) (hW : WfP P) (h0 : shN P (Pn P) = 0) : ∀ d w J F, d + w = Pn P → d < F → PlR P J → ∃ J', fX9_fairer_L16 FU 60 F (fF (frW P w)) (fN 0 (frW P w)) (nI w) (J, R0 pl nm hd rd) = fX9_fairer_L60 FU 60 FU (fF (frW P (Pn P))) (fN 0 (frW P (Pn P))) (nI 0) (J', R0 pl nm hd rd) ∧ PlR P J' ∧ FR J J' := by
  have hn := wf_n hW
  intro d
  induction d with
  | zero =>
    intro w J F h1 h2 hR
    obtain ⟨G, rfl⟩ : ∃ G, F = G + 1 := ⟨F - 1, by omega⟩
    have e : w = Pn P := by omega
    subst e
    refine ⟨J, ?_, hR, FR.refl⟩
    rw [fX9_fairer_L16, fIb_60, hR.2.1, if_pos (by rw [w_le (by omega) (by omega)]; omega), li_0]
  | succ d ih =>
    intro w J F h1 h2 hR
    obtain ⟨G, rfl⟩ : ∃ G, F = G + 1 := ⟨F - 1, by omega⟩
    have f0 : ¬ nI (Pn P) ≤ nI w := by rw [w_le (by omega) (by omega)]; omega
    obtain ⟨J1, a1, a2, a3⟩ := r_without (FU := FU) (pl := pl) (nm := nm) (hd := hd) (rd := rd) hF hR hW h0 (w := w) (by omega)
    obtain ⟨J2, b1, b2, b3⟩ := ih (w + 1) J1 G (by omega) (by omega) a2
    refine ⟨J2, ?_, b2, a3.trans b3⟩
    rw [← b1, fX9_fairer_L16, fIb_60, hR.2.1, if_neg f0, show rc 9 (some 60) = some 60 from rfl, w_bind, dn a1]
    have k1 := r_upd (frW_ok (P := P) w (by omega)) (f := 100 + w) (uO_lt (woP P w (Pn P))) (K := fun x y => fX9_fairer_L16 FU 60 G x y (nI (w + 1)) (J1, R0 pl nm hd rd))
    unfold fX9_fairer_b44 fX9_fairer_b52
    rw [li_1, nI_add, li_100, nI_add]
    exact k1
theorem plr_cg {Q : Pln} (hR : PlR P J) (h1 : Pp Q = Pp P) (h2 : Pn Q = Pn P) (h3 : Ph Q = Ph P) (h4 : Ps Q = Ps P) (h5 : ∀ w, w < Pn P → Pk Q w = Pk P w ∧ Pa Q w = Pa P w ∧ Pb Q w = Pb P w) (h6 : Pg Q = Pg P) : PlR Q J := by
  obtain ⟨r0, r1, r2, r3, rk, ra, rb, rw_, rh⟩ := hR
  refine ⟨by rw [r0, h1], by rw [r1, h2], by rw [r2, h3], by rw [r3, h4], fun j hj => ?_, fun j hj => ?_, fun j hj => ?_, fun y hy => ?_, fun y hy => ?_⟩
  · rw [(h5 j (by omega)).1, rk j (by omega)]
  · rw [(h5 j (by omega)).2.1, ra j (by omega)]
  · rw [(h5 j (by omega)).2.2, rb j (by omega)]
  · rw [rw_ y (by omega)]
    unfold isWl
    rw [h6]
  · rw [rh y (by omega)]
    unfold isHl
    rw [h6]
theorem r_fair82 (hF : 99999999 ≤ FU) (hW : WfP P) (h0 : shN P (Pn P) = 0) (hn : Pn P < 16) {a : Nat} (ha : a < Pp P) {fo : Fo} (hfo : okF fo) {K : Int32 → Int32 → Int32 → Mem → Option (Int32 × Mem)} : ∀ e d J F, e + (a + 1 + d) = Pp P → e < F → PlR P J → ∃ J', fX9_fairer_L82 FU K 60 (nI a) F (fF (frB P a fo d)) (fN 0 (frB P a fo d)) (nI (a + 1 + d)) (J, R0 pl nm hd rd) = K (fF (frB P a fo (Pp P - (a + 1)))) (fN 0 (frB P a fo (Pp P - (a + 1)))) (nI (a + 1)) (J', R0 pl nm hd rd) ∧ PlR P J' ∧ FR J J' := by
  have hp := wf_p hW
  intro e
  induction e with
  | zero =>
    intro d J F h1 h2 hR
    obtain ⟨G, rfl⟩ : ∃ G, F = G + 1 := ⟨F - 1, by omega⟩
    have e : Pp P - (a + 1) = d := by omega
    refine ⟨J, ?_, hR, FR.refl⟩
    rw [e, fX9_fairer_L82, fIb_60, hR.1, if_pos (by rw [w_le (by omega) (by omega)]; omega), li_1, nI_add]
  | succ e ih =>
    intro d J F h1 h2 hR
    obtain ⟨G, rfl⟩ : ∃ G, F = G + 1 := ⟨F - 1, by omega⟩
    have f0 : ¬ nI (Pp P) ≤ nI (a + 1 + d) := by rw [w_le (by omega) (by omega)]; omega
    have db := r_isBeside (FU := FU) (pl := pl) (nm := nm) (hd := hd) (rd := rd) hF hR hW (x := a) (y := a + 1 + d) (by omega) (by omega)
    rw [fX9_fairer_L82, fIb_60, hR.1, if_neg f0, show rc 9 (some 60) = some 60 from rfl, w_bind, dn db]
    by_cases z : bsd P a (a + 1 + d) = true
    · have e1 : frB P a fo (d + 1) = frB P a fo d := by
        rw [frB, if_pos z]
      rw [b01_pos z, if_neg (by decide)]
      obtain ⟨J3, c1, c2⟩ := ih (d + 1) J G (by omega) (by omega) hR
      refine ⟨J3, ?_, c2⟩
      unfold fX9_fairer_b189
      rw [← c1, e1, li_1, nI_add]
      rfl
    · have e1 : frB P a fo (d + 1) = fUp (frB P a fo d) (200 + 10 * a + (a + 1 + d)) (uO (addW (woP P 99 (Pn P)) 0 a (a + 1 + d))) := by
        rw [frB, if_neg z]
      rw [b01_neg z, if_pos (by decide)]
      have r1 := hR.2.1
      have wf := woP_wf hW h0 99 (Pn P) (Nat.le_refl _)
      have hq := woP_p P 99 (Pn P)
      have hl : Pn (woP P 99 (Pn P)) = Pn P := by rw [woP_n, if_neg (by omega)]
      have hk := woP_k P 99 (Pn P)
      have ns : ¬ isSh 0 = true := by decide
      have wfT : WfP (addW (woP P 99 (Pn P)) 0 a (a + 1 + d)) := wf_add wf.1 (by decide) (by rw [hq.1]; exact ha) (by rw [hq.1]; omega) (by omega) (by omega) (fun y => absurd y ns)
      have hT0 := plr_add (k := 0) (a := a) (b := a + 1 + d) hR
      generalize hT : up2 (up2 (up2 (up2 J 61 (Pn P) (nI 0)) 62 (Pn P) (nI a)) 63 (Pn P) (nI (a + 1 + d))) 60 1 (nI (Pn P + 1)) = T at hT0
      have TR : PlR (addW (woP P 99 (Pn P)) 0 a (a + 1 + d)) T := by
        refine plr_cg hT0 hq.1 ?_ hq.2.1 hq.2.2.1 (fun w hw => ?_) hq.2.2.2
        · show Pn (woP P 99 (Pn P)) + 1 = Pn P + 1
          rw [hl]
        · have hw : w < Pn P + 1 := hw
          show va_up (Pk (woP P 99 (Pn P))) (Pn (woP P 99 (Pn P))) 0 w = va_up (Pk P) (Pn P) 0 w ∧ va_up (Pa (woP P 99 (Pn P))) (Pn (woP P 99 (Pn P))) a w = va_up (Pa P) (Pn P) a w ∧ va_up (Pb (woP P 99 (Pn P))) (Pn (woP P 99 (Pn P))) (a + 1 + d) w = va_up (Pb P) (Pn P) (a + 1 + d) w
          rw [hl]
          by_cases y : w = Pn P
          · subst y
            rw [va_1, va_1, va_1, va_1, va_1, va_1]
            exact ⟨rfl, rfl, rfl⟩
          · rw [va_o y, va_o y, va_o y, va_o y, va_o y, va_o y]
            have := hk w (by omega)
            rw [if_pos (by omega)] at this
            exact this
      have tk : ∀ k, k ≠ 60 → k ≠ 61 → k ≠ 62 → k ≠ 63 → T k = J k := fun k k1 k2 k3 k4 => by rw [← hT, up2_ne k1, up2_ne k4, up2_ne k3, up2_ne k2]
      have ti : ∀ i, i ≠ 1 → T 60 i = J 60 i := fun i hi => by rw [← hT, up2_i hi, up2_k (by decide), up2_k (by decide), up2_k (by decide)]
      have t1 : T 60 1 = nI (Pn P + 1) := by rw [← hT, up2_s]
      have tr : ∀ w, w < Pn P → T 61 w = J 61 w ∧ T 62 w = J 62 w ∧ T 63 w = J 63 w := by
        intro w hw
        rw [← hT]
        refine ⟨?_, ?_, ?_⟩
        · rw [up2_k (by decide), up2_k (by decide), up2_k (by decide), up2_i (by omega)]
        · rw [up2_k (by decide), up2_k (by decide), up2_i (by omega), up2_k (by decide)]
        · rw [up2_k (by decide), up2_i (by omega), up2_k (by decide), up2_k (by decide)]
      obtain ⟨J2, u1, u2, u3, u4⟩ := r_unfair (FU := FU) (pl := pl) (nm := nm) (hd := hd) (rd := rd) hF TR wfT
      generalize hV : up2 J2 60 1 (nI (Pn P)) = V
      have vi : ∀ i, i ≠ 9 → V 60 i = J 60 i := by
        intro i hi
        by_cases y : i = 1
        · rw [y, ← hV, up2_s, r1]
        · rw [← hV, up2_i y, u4 i hi, ti i y]
      have vk : ∀ k, k ≠ 60 → k ≠ 61 → k ≠ 62 → k ≠ 63 → k ≠ 66 → k ≠ 67 → V k = J k := fun k k1 k2 k3 k4 k5 k6 => by rw [← hV, up2_ne k1, u3 k k1 k5 k6, tk k k1 k2 k3 k4]
      have VR : PlR P V := by
        obtain ⟨r0, r1, r2, r3, rk, ra, rb, rw_, rh⟩ := hR
        refine ⟨?_, ?_, ?_, ?_, fun j hj => ?_, fun j hj => ?_, fun j hj => ?_, fun y hy => ?_, fun y hy => ?_⟩
        · rw [vi 0 (by decide), r0]
        · rw [vi 1 (by decide), r1]
        · rw [vi 2 (by decide), r2]
        · rw [vi 3 (by decide), r3]
        · rw [← hV, up2_ne (by decide), u3 61 (by decide) (by decide) (by decide), (tr j hj).1, rk j hj]
        · rw [← hV, up2_ne (by decide), u3 62 (by decide) (by decide) (by decide), (tr j hj).2.1, ra j hj]
        · rw [← hV, up2_ne (by decide), u3 63 (by decide) (by decide) (by decide), (tr j hj).2.2, rb j hj]
        · rw [vk 64 (by decide) (by decide) (by decide) (by decide) (by decide) (by decide), rw_ y hy]
        · rw [vk 65 (by decide) (by decide) (by decide) (by decide) (by decide) (by decide), rh y hy]
      have fr : FR J V := ⟨Or.inr (by rw [← hV, up2_i (by decide), u2]), vk, vi⟩
      obtain ⟨J3, c1, c2, c3⟩ := ih (d + 1) V G (by omega) (by omega) VR
      refine ⟨J3, ?_, c2, fr.trans c3⟩
      have s1 : nI (Pn P) + (1 : Int32) = nI (Pn P + 1) := by rw [li_1, nI_add]
      have s2 : nI (Pn P + 1) - (1 : Int32) = nI (Pn P) := by
        rw [li_1, w_sub (by omega)]
        rfl
      have x2 : J2 60 1 = nI (Pn P + 1) := by rw [u4 1 (by decide), t1]
      rw [← c1, e1, fRb_60_4, fIb_60, r1, sIb_61 (by omega), fRb_60_5, fIb_60, up2_k (by decide), r1, sIb_62 (by omega), fRb_60_6, fIb_60, up2_k (by decide), up2_k (by decide), r1, sIb_63 (by omega), fIb_60, up2_k (by decide), up2_k (by decide), up2_k (by decide), r1, s1, pIb_60, li_0, hT, w_bind, dn u1, fIb_60, x2, s2, pIb_60, hV]
      have k1 := r_upd (frB_ok (P := P) hfo (a := a) (by omega) d (by omega)) (f := 200 + 10 * a + (a + 1 + d)) (uO_lt (addW (woP P 99 (Pn P)) 0 a (a + 1 + d))) (K := fun x y => fX9_fairer_L82 FU K 60 (nI a) G x y (nI (a + 1 + (d + 1))) (V, R0 pl nm hd rd))
      unfold fX9_fairer_b174 fX9_fairer_b189
      rw [li_1, nI_add, li_200, li_10, pk_mul, nI_add, nI_add]
      exact k1
theorem r_fair60 (hF : 99999999 ≤ FU) (hW : WfP P) (h0 : shN P (Pn P) = 0) (hn : Pn P < 16) {fo : Fo} (hfo : okF fo) : ∀ e a J F, e + a = Pp P → e < F → PlR P J → ∃ J', fX9_fairer_L60 FU 60 F (fF (frA P fo a)) (fN 0 (frA P fo a)) (nI a) (J, R0 pl nm hd rd) = some (fF (frA P fo (Pp P)), (J', R0 pl nm hd rd)) ∧ PlR P J' ∧ FR J J' := by
  have hp := wf_p hW
  intro e
  induction e with
  | zero =>
    intro a J F h1 h2 hR
    obtain ⟨G, rfl⟩ : ∃ G, F = G + 1 := ⟨F - 1, by omega⟩
    have e : a = Pp P := by omega
    subst e
    refine ⟨J, ?_, hR, FR.refl⟩
    rw [fX9_fairer_L60, fIb_60, hR.1, if_pos (by rw [w_le (by omega) (by omega)]; omega)]
  | succ e ih =>
    intro a J F h1 h2 hR
    obtain ⟨G, rfl⟩ : ∃ G, F = G + 1 := ⟨F - 1, by omega⟩
    have f0 : ¬ nI (Pp P) ≤ nI a := by rw [w_le (by omega) (by omega)]; omega
    have f1 : ¬ (16 : Int32) ≤ nI (Pn P) := by rw [li_16, w_le (by omega) (by omega)]; omega
    obtain ⟨J1, a1, a2, a3⟩ := r_fair82 (FU := FU) (pl := pl) (nm := nm) (hd := hd) (rd := rd) hF hW h0 hn (a := a) (by omega) (frA_ok hp.2 hfo a (by omega)) (K := fX9_fairer_L60 FU 60 G) (Pp P - (a + 1)) 0 J FU (by omega) (by omega) hR
    obtain ⟨J2, b1, b2, b3⟩ := ih (a + 1) J1 G (by omega) (by omega) a2
    refine ⟨J2, ?_, b2, a3.trans b3⟩
    rw [← b1, fX9_fairer_L60, fIb_60, hR.1, if_neg f0, fIb_60, hR.2.1, if_neg f1, li_1, nI_add]
    exact a1
theorem r_fairer (hF : 99999999 ≤ FU) (hR : PlR P J) (hW : WfP P) (h0 : shN P (Pn P) = 0) : ∃ J', fX9_fairer FU 60 (J, R0 pl nm hd rd) = some (fF (frO P), (J', R0 pl nm hd rd)) ∧ PlR P J' ∧ FR J J' := by
  have hp := wf_p hW
  have hn := wf_n hW
  have dS := r_shutters (FU := FU) (pl := pl) (nm := nm) (hd := hd) (rd := rd) hF hR hW
  rw [h0] at dS
  obtain ⟨J1, a1, a2, a3⟩ := r_fair16 (FU := FU) (pl := pl) (nm := nm) (hd := hd) (rd := rd) hF hW h0 (Pn P) 0 J FU (by omega) (by omega) hR
  have a1 : fX9_fairer FU 60 (J, R0 pl nm hd rd) = fX9_fairer_L60 FU 60 FU (fF (frW P (Pn P))) (fN 0 (frW P (Pn P))) (nI 0) (J1, R0 pl nm hd rd) := by
    unfold fX9_fairer
    rw [show rc 9 (some 60) = some 60 from rfl, w_bind, dn dS, if_pos (by decide)]
    exact a1
  unfold frO
  by_cases z : Pn P < 16
  · rw [if_pos z]
    obtain ⟨J2, b1, b2, b3⟩ := r_fair60 (FU := FU) (pl := pl) (nm := nm) (hd := hd) (rd := rd) hF hW h0 z (frW_ok (P := P) (Pn P) hn) (Pp P) 0 J1 FU (by omega) (by omega) a2
    exact ⟨J2, a1.trans b1, b2, a3.trans b3⟩
  · rw [if_neg z]
    refine ⟨J1, ?_, a2, a3⟩
    obtain ⟨G, hG⟩ : ∃ G, FU = G + 1 := ⟨FU - 1, by omega⟩
    have f0 : ¬ nI (Pp P) ≤ nI 0 := by rw [w_le (by omega) (by omega)]; omega
    have f1 : (16 : Int32) ≤ nI (Pn P) := by rw [li_16, w_le (by omega) (by omega)]; omega
    rw [a1, show fX9_fairer_L60 FU 60 FU (fF (frW P (Pn P))) (fN 0 (frW P (Pn P))) (nI 0) (J1, R0 pl nm hd rd) = fX9_fairer_L60 FU 60 (G + 1) (fF (frW P (Pn P))) (fN 0 (frW P (Pn P))) (nI 0) (J1, R0 pl nm hd rd) by rw [← hG], fX9_fairer_L60, fIb_60, a2.1, if_neg f0, fIb_60, a2.2.1, if_pos f1]
/-- what the class keeps of fairer -/
def K0 (P : Pln) (ver : Nat) (I : Nat → Nat → Int32) : Prop := I 0 9 = mI 1 ∨ ∃ v, I 0 9 = nI v ∧ v ≤ ver ∧ (v = ver → I 0 8 = fF (frO P))
theorem k_fairer (hF : 99999999 ≤ FU) (hC : PlC 1 P I) (hR : PlR P J) (hW : WfP P) (h9 : I 9 0 = nI (Pp P)) (hv : I 1 12 = nI ver) (hver : ver < 2 ^ 30) (hK : K0 P ver I) : ∃ r, (∃ I' pl', fX8_fairer FU 0 (I, R0 pl nm hd rd) = some (r, (I', R0 pl' nm hd rd)) ∧ I' 9 0 = nI (Pp P) ∧ K0 P ver I' ∧ FP pl I pl' I' ∧ (∀ k, 0 < k → k < 9 ∨ 27 < k → I' k = I k)) ∧ (∀ pl2, ∃ J', fX9_fairer FU 60 (J, R0 pl2 nm hd rd) = some (r, (J', R0 pl2 nm hd rd)) ∧ PlR P J' ∧ FR J J') := by
  have h2 := wf_sh hW
  have c9 := hC.2.2.1
  by_cases z : shN P (Pn P) = 0
  · refine ⟨fF (frO P), ?_, fun pl2 => r_fairer (FU := FU) (pl := pl2) (nm := nm) (hd := hd) (rd := rd) hF hR hW z⟩
    rw [z] at c9
    by_cases y : I 0 9 = nI ver
    · have e8 : I 0 8 = fF (frO P) := by
        rcases hK with e | ⟨v, e1, e2, e3⟩
        · rw [e] at y
          have : (mI 1 = nI ver) = _ := w_meq (by omega) (by omega)
          rw [this] at y
          omega
        · rw [e1] at y
          exact e3 ((nI_eq (by omega) (by omega)).mp y)
      refine ⟨I, pl, ?_, h9, hK, Or.inl ⟨rfl, fun _ _ _ => rfl⟩, fun _ _ _ => rfl⟩
      unfold fX8_fairer
      rw [fRb_0_0, fIb_1, c9, if_pos (by decide), fIb_0, fRb_0_0, fIb_1, hv, if_pos y, fIb_0, e8]
    · obtain ⟨I1, pl1, a1, a2, a3, a4⟩ := c_fairest (FU := FU) (pl := pl) (nm := nm) (hd := hd) (rd := rd) hF hC hW z h9
      refine ⟨up2 (up2 I1 0 8 (fF (frO P))) 0 9 (nI ver), pl1, ?_, ?_, Or.inr ⟨ver, ?_, Nat.le_refl _, fun _ => ?_⟩, ?_, fun k k0 hk => ?_⟩
      · have x1 : up2 I1 0 8 (fF (frO P)) 1 12 = nI ver := by rw [up2_k (by decide), a4 1 (by omega), hv]
        have x2 : up2 (up2 I1 0 8 (fF (frO P))) 0 9 (nI ver) 0 8 = fF (frO P) := by rw [up2_i (by decide), up2_s]
        unfold fX8_fairer
        rw [fRb_0_0, fIb_1, c9, if_pos (by decide), fIb_0, fRb_0_0, fIb_1, hv, if_neg y, show rc 8 (some 0) = some 0 from rfl, w_bind, dn a1, pIb_0, fRb_0_0, fIb_1, x1, pIb_0, fIb_0, x2]
      · rw [up2_k (by decide), up2_k (by decide), a2]
      · rw [up2_s]
      · rw [up2_i (by decide), up2_s]
      · rcases a3 with ⟨b1, b2⟩ | b
        · exact Or.inl ⟨b1, fun k k1 k2 => by rw [up2_ne (by omega), up2_ne (by omega), b2 k k1 k2]⟩
        · exact Or.inr b
      · rw [up2_ne (by omega), up2_ne (by omega), a4 k hk]
  · refine ⟨-3, ⟨I, pl, ?_, h9, hK, Or.inl ⟨rfl, fun _ _ _ => rfl⟩, fun _ _ _ => rfl⟩, fun pl2 => ⟨J, ?_, hR, FR.refl⟩⟩
    · unfold fX8_fairer
      rw [fRb_0_0, fIb_1, c9, if_neg (by rw [li_0, w_le (by omega) (by omega)]; omega)]
    · have dS := r_shutters (FU := FU) (pl := pl2) (nm := nm) (hd := hd) (rd := rd) hF hR hW
      unfold fX9_fairer
      rw [show rc 9 (some 60) = some 60 from rfl, w_bind, dn dS, if_neg (by rw [li_0, w_le (by omega) (by omega)]; omega)]
end Fair4
