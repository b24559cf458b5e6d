/-! calls: turnings, alike -/
section Nam7
variable {FU ver : Nat} {P : Pln} {I J : Nat → Nat → Int32} {pl nm hd rd : Option Nat}
theorem lpF_sum {ok : Nat → Bool} {t : Nat → Nat → Nat} {c : Nat → Nat} (h : ∀ a y, t y a = a + c y) : ∀ e a v, lpF (fun a y => if ok y = true then t y a else a) a v e + sm (fun y => if ok y = true then c y else 0) v = a + sm (fun y => if ok y = true then c y else 0) (v + e) := by
  intro e
  induction e with
  | zero => exact fun _ _ => rfl
  | succ e ih =>
    intro a v
    show lpF (fun a y => if ok y = true then t y a else a) (if ok v = true then t v a else a) (v + 1) e + _ = _
    have := ih (if ok v = true then t v a else a) (v + 1)
    have s1 : sm (fun y => if ok y = true then c y else 0) (v + 1) = sm (fun y => if ok y = true then c y else 0) v + (if ok v = true then c v else 0) := rfl
    rw [s1, show v + 1 + e = v + (e + 1) by omega] at this
    by_cases z : ok v = true
    · rw [if_pos z] at this ⊢
      rw [if_pos z] at this
      have q := h a v
      omega
    · rw [if_neg z] at this ⊢
      rw [if_neg z] at this
      omega
theorem trT_count : ∀ d f x a, trT P (fun a _ => a + 1) d f x a = a + nT P d f x := by
  intro d
  induction d with
  | zero => exact fun _ _ _ => rfl
  | succ d ih =>
    intro f x a
    have := lpF_sum (ok := okB P f x) (t := fun y a => trT P (fun a _ => a + 1) d (va_up f x y) (x + 1) a) (c := fun y => nT P d (va_up f x y) (x + 1)) (fun a y => ih _ _ _) (Pp P) a 0
    rw [Nat.zero_add] at this
    exact this
/-- the lesser of a and all rows that go on so -/
def mnS (P : Pln) (h i r : Nat) (S : (Nat → Nat) → Prop) (a m : Nat) : Prop := m ≤ a ∧ (∀ g, Aut P g → S g → m ≤ rowF h i r g) ∧ (m = a ∨ ∃ g, Aut P g ∧ S g ∧ m = rowF h i r g)
def actM (h i r : Nat) (a : Nat) (f : Nat → Nat) : Nat := if a ≤ rowF h i r f then a else rowF h i r f
theorem rowF_cg {h i r : Nat} {f g : Nat → Nat} {p : Nat} (hh : h < p) (hi : i < p) (hr : r < p) (e : ∀ o, o < p → g o = f o) : rowF h i r g = rowF h i r f := by
  unfold rowF
  rw [e h hh, e i hi, e r hr]
theorem trT_min {h i r : Nat} (hh : h < Pp P) (hi : i < Pp P) (hr : r < Pp P) : ∀ d f x a, d + x = Pp P → okP P f x → mnS P h i r (fun g => ∀ o, o < x → g o = f o) a (trT P (actM h i r) d f x a) := by
  intro d
  induction d with
  | zero =>
    intro f x a hx hf
    have e : x = Pp P := by omega
    subst e
    show mnS P h i r _ a (if a ≤ rowF h i r f then a else rowF h i r f)
    by_cases z : a ≤ rowF h i r f
    · rw [if_pos z]
      exact ⟨Nat.le_refl a, fun g _ hg => by rw [rowF_cg hh hi hr hg]; exact z, Or.inl rfl⟩
    · rw [if_neg z]
      exact ⟨by omega, fun g _ hg => by rw [rowF_cg hh hi hr hg]; exact Nat.le_refl _, Or.inr ⟨f, hf, fun _ _ => rfl, rfl⟩⟩
  | succ d ih =>
    intro f x a hx hf
    have loop : ∀ e v a, e + v = Pp P → mnS P h i r (fun g => (∀ o, o < x → g o = f o) ∧ v ≤ g x) a (lpF (fun a y => if okB P f x y = true then trT P (actM h i r) d (va_up f x y) (x + 1) a else a) a v e) := by
      intro e
      induction e with
      | zero =>
        intro v a hv
        refine ⟨Nat.le_refl a, fun g hg hS => ?_, Or.inl rfl⟩
        have := (hg x (by omega)).1
        have := hS.2
        omega
      | succ e ihe =>
        intro v a hv
        show mnS P h i r _ a (lpF _ (if okB P f x v = true then trT P (actM h i r) d (va_up f x v) (x + 1) a else a) (v + 1) e)
        by_cases ok : okB P f x v = true
        · rw [if_pos ok]
          obtain ⟨m1, m2, m3⟩ := ih (va_up f x v) (x + 1) a (by omega) (okP_up hf (by omega) ok)
          obtain ⟨n1, n2, n3⟩ := ihe (v + 1) (trT P (actM h i r) d (va_up f x v) (x + 1) a) (by omega)
          have ext : ∀ g : Nat → Nat, ((∀ o, o < x → g o = f o) ∧ g x = v) ↔ (∀ o, o < x + 1 → g o = va_up f x v o) := by
            intro g
            constructor
            · rintro ⟨q1, q2⟩ o ho
              unfold va_up
              by_cases z : o = x
              · rw [if_pos z, z, q2]
              · rw [if_neg z]
                exact q1 o (by omega)
            · intro q
              refine ⟨fun o ho => ?_, ?_⟩
              · rw [q o (by omega)]
                unfold va_up
                rw [if_neg (by omega)]
              · rw [q x (by omega)]
                unfold va_up
                rw [if_pos rfl]
          refine ⟨by omega, fun g hg hS => ?_, ?_⟩
          · by_cases z : g x = v
            · have := m2 g hg ((ext g).mp ⟨hS.1, z⟩)
              omega
            · exact n2 g hg ⟨hS.1, by have := hS.2; omega⟩
          · rcases n3 with n3 | ⟨g, g1, g2, g3⟩
            · rcases m3 with m3 | ⟨g, g1, g2, g3⟩
              · exact Or.inl (n3.trans m3)
              · have q := (ext g).mpr g2
                exact Or.inr ⟨g, g1, ⟨q.1, by rw [q.2]; exact Nat.le_refl v⟩, n3.trans g3⟩
            · exact Or.inr ⟨g, g1, ⟨g2.1, by have := g2.2; omega⟩, g3⟩
        · rw [if_neg ok]
          obtain ⟨n1, n2, n3⟩ := ihe (v + 1) a (by omega)
          refine ⟨n1, fun g hg hS => ?_, ?_⟩
          · apply n2 g hg
            refine ⟨hS.1, ?_⟩
            have := hS.2
            have : g x ≠ v := by
              intro z
              apply ok
              have gx := (hg x (by omega)).2
              rw [z] at gx
              rw [← gx]
              exact okB_cg (fun o ho => (hS.1 o ho).symm) v
            omega
          · rcases n3 with n3 | ⟨g, g1, g2, g3⟩
            · exact Or.inl n3
            · exact Or.inr ⟨g, g1, ⟨g2.1, by have := g2.2; omega⟩, g3⟩
    obtain ⟨l1, l2, l3⟩ := loop (Pp P) 0 a (by omega)
    refine ⟨l1, fun g hg hS => l2 g hg ⟨hS, Nat.zero_le _⟩, ?_⟩
    rcases l3 with l3 | ⟨g, g1, g2, g3⟩
    · exact Or.inl l3
    · exact Or.inr ⟨g, g1, g2.1, g3⟩
theorem cb_ok : ∀ p, 3 ≤ p → p ≤ 8 → p * (1 + cb (p - 1)) + 1 < 99999999 := by
  intro p h1 h2
  obtain z | z | z | z | z | z : p = 3 ∨ p = 4 ∨ p = 5 ∨ p = 6 ∨ p = 7 ∨ p = 8 := by omega
  · subst z; decide
  · subst z; decide
  · subst z; decide
  · subst z; decide
  · subst z; decide
  · subst z; decide
/-- all turnings, one behind the other -/
theorem r_all (hF : 99999999 ≤ FU) (hR : PlR P J) (hW : WfP P) (hJ : RJ P (Pn P) J) {act : Nat → (Nat → Nat) → Nat} {a : Nat} {out : Nat → Int32} {Kf : Nat → Nat → Int32 → Mem → Option (Int32 × Mem)} (hK : ∀ F a f J, PlR P J → Aut P f → (∀ o, o < Pp P → J 68 o = nI (f o)) → Kf (F + 1) a (nI 1) (J, R0 pl nm hd rd) = bd2 (fX9_nextTurning FU 60 (0 : Int32) (J, R0 pl nm hd rd)) (fun r M => Kf F (act a f) r M)) (h0 : ∀ F a M, Kf (F + 1) a (nI 0) M = some (out a, M)) : ∃ J', bd2 (fX9_nextTurning FU 60 (1 : Int32) (J, R0 pl nm hd rd)) (fun r M => Kf FU a r M) = some (out (trT P act (Pp P) (fun j => j) 0 a), (J', R0 pl nm hd rd)) ∧ (∀ q, q ≠ 68 → J' q = J q) := by
  have hp := wf_p hW
  have cost := cb_ok (Pp P) hp.1 hp.2
  generalize hT : up2 J 68 0 (mI 1) = T
  have tq : ∀ q, q ≠ 68 → T q = J q := fun q hq => by rw [← hT, up2_ne hq]
  have TR : PlR P T := hR.congr (fun i _ => by rw [tq 60 (by decide)]) (fun k _ _ => tq k (by omega))
  have TJ : RJ P (Pn P) T := fun k a b k1 a1 b1 => by rw [tq 69 (by decide)]; exact hJ k a b k1 a1 b1
  obtain ⟨F', G', J', c1, c2, c3, c4, c5, c6⟩ := r_sub (FU := FU) (pl := pl) (nm := nm) (hd := hd) (rd := rd) hF hW hK (Pp P - 1) (Pp P) (fun j => j) 0 0 a FU FU T (by omega) (by omega) (Nat.le_refl FU) (by omega) (by omega) TR TJ (fun k hk => by omega) (fun o ho => by omega) (by rw [← hT, up2_s]; decide)
  obtain ⟨G0, hG0⟩ : ∃ G0, G' = G0 + 1 := ⟨G' - 1, by omega⟩
  obtain ⟨F0, hF0⟩ : ∃ F0, F' = F0 + 1 := ⟨F' - 1, by omega⟩
  subst hG0 hF0
  refine ⟨J', ?_, fun q hq => (c6 q hq).trans (tq q hq)⟩
  have st : fX9_nextTurning FU 60 (1 : Int32) (J, R0 pl nm hd rd) = fX9_nextTurning_L26 FU 60 FU (nI 0) (T, R0 pl nm hd rd) := by
    unfold fX9_nextTurning fX9_nextTurning_b14
    rw [if_neg (by decide), if_neg (by decide), fRb_60_12, li_0, sIb_68 (by decide), show (-1 : Int32) = mI 1 from rfl, hT]
  have pd : Pp P - 1 + 1 = Pp P := by omega
  have tv : trT P act (Pp P) (fun j => j) 0 a = lpF (fun a y => if okB P (fun j => j) 0 y = true then trT P act (Pp P - 1) (va_up (fun j => j) 0 y) (0 + 1) a else a) a 0 (Pp P) := by
    conv => lhs; rw [← pd]
    rfl
  rw [st, c1, fX9_nextTurning_L26, if_pos (by decide), w_bd2, tv]
  exact h0 F0 _ _
def NCs (P : Pln) (ver : Nat) (nm : Option Nat) (I : Nat → Nat → Int32) (nm' : Option Nat) (I' : Nat → Nat → Int32) : Prop := (nm' = nm ∧ I' = I) ∨ (nm' = some 1 ∧ CJ P (Pn P) I' ∧ I' 28 1 = nI ver ∧ (I' 28 2 = mI 1 ∨ I' 28 2 = nI (nTur P)) ∧ ∀ q, q ≠ 28 → q ≠ 29 → q ≠ 30 → I' q = I q)
def NO (P : Pln) (ver : Nat) (pl nm hd rd : Option Nat) (I J : Nat → Nat → Int32) (o8 : Option (Int32 × Mem)) (o9 : Mem → Option (Int32 × Mem)) : Prop := ∃ r, (∃ I' nm', o8 = some (r, (I', R0 pl nm' hd rd)) ∧ NCs P ver nm I nm' I') ∧ (∀ nm2, ∃ J', o9 (J, R0 pl nm2 hd rd) = some (r, (J', R0 pl nm2 hd rd)) ∧ ∀ q, q ≠ 68 → q ≠ 69 → J' q = J q)
theorem r_turnings (hF : 99999999 ≤ FU) (hR : PlR P J) (hW : WfP P) : ∃ J', fX9_turnings FU 60 (J, R0 pl nm hd rd) = some (nI (nTur P), (J', R0 pl nm hd rd)) ∧ ∀ q, q ≠ 68 → q ≠ 69 → J' q = J q := by
  obtain ⟨J1, a1, a2, a3⟩ := r_countWays (FU := FU) (pl := pl) (nm := nm) (hd := hd) (rd := rd) hF hR hW
  have R1 : PlR P J1 := hR.congr (fun i _ => by rw [a3 60 (by decide)]) (fun k _ _ => a3 k (by omega))
  obtain ⟨J2, b1, b2⟩ := r_all (FU := FU) (pl := pl) (nm := nm) (hd := hd) (rd := rd) hF R1 hW a2 (act := fun a _ => a + 1) (a := 0) (out := nI) (Kf := fun F a r M => fX9_turnings_L12 FU 60 F (nI a) r M) (fun F a f J hR' hA hN => by
    show fX9_turnings_L12 FU 60 (F + 1) (nI a) (nI 1) (J, R0 pl nm hd rd) = _
    rw [fX9_turnings_L12, if_neg (by decide), show rc 9 (some 60) = some 60 from rfl, w_bind, li_1, nI_add]) (fun F a M => by
    show fX9_turnings_L12 FU 60 (F + 1) (nI a) (nI 0) M = _
    rw [fX9_turnings_L12, if_pos (by decide)])
  rw [trT_count, Nat.zero_add] at b1
  refine ⟨J2, ?_, fun q q1 q2 => (b2 q q1).trans (a3 q q2)⟩
  unfold fX9_turnings
  rw [show rc 9 (some 60) = some 60 from rfl, w_bind, dn1 a1, w_bind]
  exact b1
theorem k_turnings (hF : 99999999 ≤ FU) (hC : PlC 1 P I) (hR : PlR P J) (hW : WfP P) (hv : I 1 12 = nI ver) (hver : ver < 2 ^ 30) (hK : K28 P ver nm I) : NO P ver pl nm hd rd I J (fX8_turnings FU 0 (I, R0 pl nm hd rd)) (fX9_turnings FU 60) := by
  obtain ⟨I', a1, a2, a3, a4, a5⟩ := c_countOf (FU := FU) (pl := pl) (nm := nm) (hd := hd) (rd := rd) hF hC hW hv hver hK
  refine ⟨nI (nTur P), ⟨I', some 1, ?_, Or.inr ⟨rfl, a2, a3, Or.inr a4, a5⟩⟩, fun nm2 => r_turnings (FU := FU) (pl := pl) (nm := nm2) (hd := hd) (rd := rd) hF hR hW⟩
  unfold fX8_turnings
  rw [fRb_0_3, fRb_0_0, show rc 2 (some 28) = some 28 from rfl, w_bind, dn a1]
def clm (a : Nat) : Nat := if a ≤ 1000 then a else 1000
theorem r_alike13 (hF : 99999999 ≤ FU) (hR : PlR P J) (hW : WfP P) {h i r : Nat} (hh : h < Pp P) (hi : i < Pp P) (hr : r < Pp P) : ∃ J' v, fX9_alike_b13 FU 60 (nI h) (nI r) (nI i) (J, R0 pl nm hd rd) = some (nI v, (J', R0 pl nm hd rd)) ∧ AL P h i r v ∧ ∀ q, q ≠ 68 → q ≠ 69 → J' q = J q := by
  have hp := wf_p hW
  have d1 := r_isPlace (FU := FU) (pl := pl) (nm := nm) (hd := hd) (rd := rd) hR hW (x := h) (by omega)
  have d2 := r_isPlace (FU := FU) (pl := pl) (nm := nm) (hd := hd) (rd := rd) hR hW (x := i) (by omega)
  have d3 := r_isPlace (FU := FU) (pl := pl) (nm := nm) (hd := hd) (rd := rd) hR hW (x := r) (by omega)
  rw [b01_pos hh] at d1
  rw [b01_pos hi] at d2
  rw [b01_pos hr] at d3
  have rl : ∀ f, Aut P f → rowF h i r f < 1000 := by
    intro f hf
    obtain ⟨f1, _, _⟩ := (aut_iff hW).mp hf
    have q4 := (f1 r hr).1
    have q5 := srt_lt (f1 h hh).1 (f1 i hi).1
    unfold rowF
    omega
  obtain ⟨J1, a1, a2, a3⟩ := r_countWays (FU := FU) (pl := pl) (nm := nm) (hd := hd) (rd := rd) hF hR hW
  have R1 : PlR P J1 := hR.congr (fun i _ => by rw [a3 60 (by decide)]) (fun k _ _ => a3 k (by omega))
  obtain ⟨J2, b1, b2⟩ := r_all (FU := FU) (pl := pl) (nm := nm) (hd := hd) (rd := rd) hF R1 hW a2 (act := actM h i r) (a := 1000) (out := fun a => nI (clm a)) (Kf := fun F a x M => fX9_alike_L59 FU 60 (nI h) (nI r) (nI i) F (nI (clm a)) x M) (fun F a f J hR' hA hN => by
    obtain ⟨f1, _, _⟩ := (aut_iff hW).mp hA
    have lh := (f1 h hh).1
    have li := (f1 i hi).1
    have lr := (f1 r hr).1
    have rf := rl f hA
    have cl : clm a ≤ 1000 := by
      unfold clm
      split <;> omega
    -- the row, as it is reckoned
    have rowE : ∀ s : Int32, s = nI (100 * (srt (f h) (f i)).1 + 10 * (srt (f h) (f i)).2) → fX9_alike_b113 FU (fX9_alike_L59 FU 60 (nI h) (nI r) (nI i) F) 60 (nI h) (nI r) (nI i) (nI (clm a)) s (J, R0 pl nm hd rd) = bd2 (fX9_nextTurning FU 60 (0 : Int32) (J, R0 pl nm hd rd)) (fun r' M => fX9_alike_L59 FU 60 (nI h) (nI r) (nI i) F (nI (clm (actM h i r a f))) r' M) := by
      intro s hs
      unfold fX9_alike_b113 fX9_alike_b136
      have e : s + nI (f r) = nI (rowF h i r f) := by
        rw [hs, nI_add]
        rfl
      rw [fRb_60_12, aIb_68 (by omega), hN r hr, e, show rc 9 (some 60) = some 60 from rfl, w_bind, w_bind]
      by_cases z : a ≤ rowF h i r f
      · have c1 : clm a = a := by
          unfold clm
          rw [if_pos (by omega)]
        have c2 : actM h i r a f = a := by
          unfold actM
          rw [if_pos z]
        rw [c1, c2, c1, if_pos (by rw [w_le (by omega) (by omega)]; exact z)]
      · have c2 : actM h i r a f = rowF h i r f := by
          unfold actM
          rw [if_neg z]
        have c3 : clm (rowF h i r f) = rowF h i r f := by
          unfold clm
          rw [if_pos (by omega)]
        have c4 : rowF h i r f < clm a := by
          unfold clm
          split <;> omega
        rw [c2, c3, if_neg (by rw [w_le (by omega) (by omega)]; omega)]
    show fX9_alike_L59 FU 60 (nI h) (nI r) (nI i) (F + 1) (nI (clm a)) (nI 1) (J, R0 pl nm hd rd) = _
    rw [fX9_alike_L59, if_neg (by decide), fRb_60_12, aIb_68 (by omega), hN h hh, fRb_60_12, aIb_68 (by omega), hN i hi]
    by_cases z : f h < f i
    · rw [if_neg (by rw [w_le (by omega) (by omega)]; omega)]
      apply rowE
      unfold srt
      rw [if_pos z, li_100, li_10, pk_mul, pk_mul, nI_add]
    · rw [if_pos (by rw [w_le (by omega) (by omega)]; omega)]
      apply rowE
      unfold srt
      rw [if_neg z, li_100, li_10, pk_mul, pk_mul, nI_add]) (fun F a M => by
    show fX9_alike_L59 FU 60 (nI h) (nI r) (nI i) (F + 1) (nI (clm a)) (nI 0) M = _
    rw [fX9_alike_L59, if_pos (by decide)])
  obtain ⟨m1, m2, m3⟩ := trT_min hh hi hr (Pp P) (fun j => j) 0 1000 (by omega) (fun k hk => by omega)
  have c0 : clm (trT P (actM h i r) (Pp P) (fun j => j) 0 1000) = trT P (actM h i r) (Pp P) (fun j => j) 0 1000 := by
    unfold clm
    rw [if_pos m1]
  rw [c0] at b1
  refine ⟨J2, _, ?_, ⟨?_, fun f hf => m2 f hf (fun o ho => by omega)⟩, fun q q1 q2 => (b2 q q1).trans (a3 q q2)⟩
  · unfold fX9_alike_b13
    rw [show rc 9 (some 60) = some 60 from rfl, w_bind, dn d1, if_neg (by decide), w_bind, dn d2, if_neg (by decide), w_bind, dn d3, if_pos (by decide), w_bind, dn1 a1, w_bind]
    exact b1
  · rcases m3 with m3 | ⟨g, g1, _, g3⟩
    · have q := m2 (fun j => j) (aut_id P hW) (fun _ _ => rfl)
      have := rl (fun j => j) (aut_id P hW)
      omega
    · exact ⟨g, g1, g3.symm⟩
theorem k_alike (hF : 99999999 ≤ FU) (hC : PlC 1 P I) (hR : PlR P J) (hW : WfP P) (hv : I 1 12 = nI ver) (hver : ver < 2 ^ 30) (hK : K28 P ver nm I) (x1 x2 x3 : Int32) : NO P ver pl nm hd rd I J (fX8_alike FU 0 x1 x2 x3 (I, R0 pl nm hd rd)) (fX9_alike FU 60 x1 x2 x3) := by
  have hc : (1 : Nat) = 1 ∨ (1 : Nat) = 9 := Or.inl rfl
  have hp := wf_p hW
  have hp2 := wf_h hW
  have R2 := hR.2.2.1
  have dp := c_pairOf (FU := FU) (pl := pl) (nm := nm) (hd := hd) (rd := rd) hc hC hW x1 x2
  have v9 : ∀ nm2, fX9_alike FU 60 x1 x2 x3 (J, R0 pl nm2 hd rd) = fX9_alike_b13 FU 60 x1 x3 (secI P x1 x2) (J, R0 pl nm2 hd rd) := by
    intro nm2
    unfold fX9_alike secI
    rcases hp2 with z | z
    · rw [fIb_60, R2, z, if_neg (by decide), if_pos rfl]
    · rw [fIb_60, R2, z, if_pos (by decide), if_neg (by decide)]
  have no : fX8_alike FU 0 x1 x2 x3 (I, R0 pl nm hd rd) = some (-2, (I, R0 pl nm hd rd)) → (∀ nm2, fX9_alike_b13 FU 60 x1 x3 (secI P x1 x2) (J, R0 pl nm2 hd rd) = some (-2, (J, R0 pl nm2 hd rd))) → NO P ver pl nm hd rd I J (fX8_alike FU 0 x1 x2 x3 (I, R0 pl nm hd rd)) (fX9_alike FU 60 x1 x2 x3) := fun a b => ⟨-2, ⟨I, nm, a, Or.inl ⟨rfl, rfl⟩⟩, fun nm2 => ⟨J, by rw [v9, b nm2], fun _ _ _ => rfl⟩⟩
  rcases c_pair13 (FU := FU) (pl := pl) (nm := nm) (hd := hd) (rd := rd) hc hC hW x1 (secI P x1 x2) with e | ⟨h, i, hh, hi, ex, ey, e⟩
  · apply no
    · unfold fX8_alike
      rw [fRb_0_0, show rc 3 (some 1) = some 1 from rfl, w_bind, dn (dp.trans e), if_pos (by decide)]
    · intro nm2
      unfold fX9_alike_b13
      rcases r_place (FU := FU) (pl := pl) (nm := nm2) (hd := hd) (rd := rd) hR hW x1 with ⟨d1, _⟩ | ⟨a, ha, ea, d1⟩
      · rw [show rc 9 (some 60) = some 60 from rfl, w_bind, dn d1, if_pos (by decide)]
      · rcases r_place (FU := FU) (pl := pl) (nm := nm2) (hd := hd) (rd := rd) hR hW (secI P x1 x2) with ⟨d2, _⟩ | ⟨b, hb, eb, d2⟩
        · rw [show rc 9 (some 60) = some 60 from rfl, w_bind, dn d1, if_neg (by decide), w_bind, dn d2, if_pos (by decide)]
        · exfalso
          rw [eb, ea] at e
          have dh1 := c_has (FU := FU) (pl := pl) (nm := nm) (hd := hd) (rd := rd) hc hC hW (x := a) (by omega)
          have dh2 := c_has (FU := FU) (pl := pl) (nm := nm) (hd := hd) (rd := rd) hc hC hW (x := b) (by omega)
          have es := c_sortedPair (FU := FU) (pl := pl) (nm := nm) (hd := hd) (rd := rd) (I := I) (x := a) (y := b) (by omega) (by omega)
          have sl := srt_lt ha hb
          unfold fX3_pairOf_b13 at e
          simp (discharger := omega) only [li_0, li_1, li_2, li_3, li_4, li_5, li_6, li_7, li_8, li_9, li_10, li_11, li_12, li_13, li_14, li_15, li_16, li_17, li_18, li_19, li_20, li_21, li_22, li_23, li_24, li_25, li_26, li_27, li_28, li_29, li_30, li_31, li_32, li_33, li_34, li_35, li_36, li_37, li_38, li_39, li_40, li_41, li_42, li_43, li_44, li_45, li_46, li_47, li_48, li_49, li_50, li_51, li_52, li_53, li_54, li_55, li_56, li_57, li_58, li_59, li_60, li_61, li_62, li_63, li_64, li_65, li_66, li_67, li_68, li_69, li_70, li_71, li_72, li_73, li_74, li_75, li_76, li_77, li_78, li_79, li_80, li_81, li_82, li_83, li_84, li_85, li_86, li_87, li_88, li_89, li_90, li_91, li_92, li_93, li_94, li_95, li_96, li_97, li_98, li_99, li_100, li_101, li_102, li_103, li_104, li_105, li_106, li_107, li_108, li_109, li_110, li_111, li_112, li_113, li_114, li_115, li_116, li_117, li_118, li_119, li_120, li_121, li_122, li_123, li_124, li_125, li_126, li_127, li_128, li_144, li_150, li_200, li_255, li_384, li_512, li_999, li_1000, li_1024, li_1152, li_1920, li_3776, li_4096, li_9216, li_10000, li_100000, li_1073741824, li_m, ↓rcb_P hc, ↓fIb_P hc, ↓pIb_P hc, ↓fRb_P1 hc, ↓aIb_P1 hc, ↓sIb_P1 hc, ↓fRb_P2 hc, ↓aIb_P2 hc, ↓sIb_P2 hc, ↓fRb_P3 hc, ↓aIb_P3 hc, ↓sIb_P3 hc, ↓fRb_P4 hc, ↓aIb_P4 hc, ↓sIb_P4 hc, ↓fRb_P5 hc, ↓aIb_P5 hc, ↓sIb_P5 hc, ↓fRb_P6 hc, ↓aIb_P6 hc, ↓sIb_P6 hc, ↓fRb_P7 hc, ↓aIb_P7 hc, ↓sIb_P7 hc, rc_P hc, fI_P hc, fR_P hc, pI_P hc, r0_P1 hc, aI_P1 hc, sI_P1 hc, r0_P2 hc, aI_P2 hc, sI_P2 hc, r0_P3 hc, aI_P3 hc, sI_P3 hc, r0_P4 hc, aI_P4 hc, sI_P4 hc, r0_P5 hc, aI_P5 hc, sI_P5 hc, r0_P6 hc, aI_P6 hc, sI_P6 hc, r0_P7 hc, aI_P7 hc, sI_P7 hc, ↓dn dh1, ↓dn dh2, ↓dn es, w_bind, w_bd2, b01_eq0, b01_ok, b01_ok2, w_lt, w_le, w_eq, w_mlt, w_mle, w_ltm, w_lem, w_meq, w_eqm, w_mm, w_mmlt, w_mmle, nI_add, w_sub, pk_mul, w_div, w_rem, w_and, w_or, w_shr, w_shl1, w_a31, w_andn, ↓reduceIte, Nat.reduceAdd, Nat.reduceEqDiff, Nat.zero_lt_one, Nat.not_lt_zero, Nat.one_ne_zero, Nat.zero_ne_one, not_true_eq_false, not_false_eq_true, Bool.false_eq_true, Bool.true_eq_false, n_leT, n_leF, n_ltT, n_ltF, n_eqT, n_eqF, and_true, true_and, and_false, false_and, or_true, true_or, or_false, false_or, not_true_eq_false, not_false_eq_true] at e
          have e := (Prod.mk.inj (Option.some.inj e)).1
          have : (nI ((srt a b).1 * 8 + (srt a b).2) = mI 1) = _ := w_eqm (by omega) (by omega)
          rw [this] at e
          omega
  · have sl := srt_lt hh hi
    have f0 : ¬ nI ((srt h i).1 * 8 + (srt h i).2) < 0 := by rw [li_0, w_lt (by omega) (by omega)]; omega
    rcases c_place (FU := FU) (pl := pl) (nm := nm) (hd := hd) (rd := rd) hc hC hW x3 with ⟨cn, nx⟩ | ⟨r, hr, er, cy⟩
    · apply no
      · unfold fX8_alike
        rw [fRb_0_0, show rc 3 (some 1) = some 1 from rfl, w_bind, dn (dp.trans e), if_neg f0, fRb_0_0, show rc 3 (some 1) = some 1 from rfl, w_bind, dn cn, if_neg (fun h => h rfl)]
      · intro nm2
        have d1 := r_isPlace (FU := FU) (pl := pl) (nm := nm2) (hd := hd) (rd := rd) hR hW (x := h) (by omega)
        have d2 := r_isPlace (FU := FU) (pl := pl) (nm := nm2) (hd := hd) (rd := rd) hR hW (x := i) (by omega)
        rw [b01_pos hh] at d1
        rw [b01_pos hi] at d2
        rw [ey, ex]
        unfold fX9_alike_b13
        rcases r_place (FU := FU) (pl := pl) (nm := nm2) (hd := hd) (rd := rd) hR hW x3 with ⟨d3, _⟩ | ⟨b, hb, eb, _⟩
        · rw [show rc 9 (some 60) = some 60 from rfl, w_bind, dn d1, if_neg (by decide), w_bind, dn d2, if_neg (by decide), w_bind, dn d3, if_neg (fun h => h rfl)]
        · exact absurd eb (nx b hb)
    · subst er
      obtain ⟨I', v, a1, a2, a3, a4, a5, a6⟩ := c_leastRow (FU := FU) (pl := pl) (nm := nm) (hd := hd) (rd := rd) hF hC hW hv hver hK sl.1 sl.2.1 hr
      have al : AL P h i r v := by
        rcases srt_cases h i with ⟨s1, s2⟩ | ⟨s1, s2⟩
        · rw [← s1, ← s2] at a2
          exact a2
        · rw [← s1, ← s2] at a2
          exact AL_swap a2
      refine ⟨nI v, ⟨I', some 1, ?_, Or.inr ⟨rfl, a3, a4, a5, a6⟩⟩, fun nm2 => ?_⟩
      · unfold fX8_alike
        rw [fRb_0_0, show rc 3 (some 1) = some 1 from rfl, w_bind, dn (dp.trans e), if_neg f0, fRb_0_0, show rc 3 (some 1) = some 1 from rfl, w_bind, dn cy, if_pos (by decide), fRb_0_3, fRb_0_0, show rc 2 (some 28) = some 28 from rfl, w_bind, dn a1]
      · obtain ⟨J', w, b1, b2, b3⟩ := r_alike13 (FU := FU) (pl := pl) (nm := nm2) (hd := hd) (rd := rd) hF hR hW hh hi hr
        refine ⟨J', ?_, b3⟩
        rw [v9, ey, ex, b1, AL_one b2 al]
end Nam7
