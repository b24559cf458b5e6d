/-! texts: both read a whole text alike: its parts -/
section ParC
variable {FU : Nat} {I J : Nat → Nat → Int32} {pl nm hd pz nz hz dz : Option Nat} {b : Nat → Int32} {n r : Nat} {v : Nat → Int32}
theorem l_half (hF : 99999999 ≤ FU) {k t i : Nat} {K : Mem → Option Mem} (hk : k < 2) (ht : t < 6) (hC : CSt b n r i 0 v I) (hT : TkJ b n i J) (h28 : J 60 28 = nI t) : (∃ I' i' J' x c, rX FU (6 + k) (rE FU (1 + k) (rX FU 59 K)) (I, R0 pl nm hd (some r)) = K (I', R0 pl nm hd (some r)) ∧ CSt b n r i' 0 v I' ∧ Fz I I' ∧ (∀ j, j < 3 → j ≠ 1 + k → I' 48 j = I 48 j) ∧ I' 48 (1 + k) = x ∧ cdV v c x ∧ (∀ F, fX9_isText_L11 FU 60 (F + 1) (nI k) (J, R0 pz nz hz dz) = fX9_isText_L11 FU 60 F (nI (k + 1)) (J', R0 pz nz hz dz)) ∧ TkJ b n i' J' ∧ CdA J' (2 * t + k) c ∧ FS (2 * t + k) J J') ∨ (∃ I' j J', rX FU (6 + k) (rE FU (1 + k) (rX FU 59 K)) (I, R0 pl nm hd (some r)) = K (I', R0 pl nm hd (some r)) ∧ CFt b n r j I' ∧ Fz I I' ∧ (∀ F, fX9_isText_L11 FU 60 (F + 1) (nI k) (J, R0 pz nz hz dz) = some (nI 0, (J', R0 pz nz hz dz))) ∧ J' 60 35 = nI (sS b n j) ∧ FS (2 * t + k) J J') := by
  have rc9 : rc 9 (some 60) = some 60 := rfl
  have z0 : nI 0 = (0 : Int32) := rfl
  have key := r_isKey (FU := FU) (pl := pz) (nm := nz) (hd := hz) (rd := dz) (k := k) (by omega) hT
  have zN : ¬ (2 : Int32) ≤ nI k := by rw [li_2, w_le (by decide) (by omega)]; omega
  rcases c_expect (FU := FU) (pl := pl) (nm := nm) (hd := hd) hF (c := 6 + k) (by omega) hC with ⟨t1, I1, d1, d2, d3⟩ | ⟨t1, I1, d1, d2, d3⟩
  · have i120 := tok120 hC t1 (by omega) (by omega)
    obtain ⟨J1, a1, a2, a3, a4⟩ := r_tok (FU := FU) (pl := pz) (nm := nz) (hd := hz) (rd := dz) hF hT
    have s16 : 2 * t + k < 16 := by omega
    have T2 : TkJ b n (i + 1) (up2 J1 60 41 (nI (2 * t + k))) := a2.keep (up2_ne (by decide)) (fun j hj => up2_i (by omega))
    have F1 : FS (2 * t + k) J (up2 J1 60 41 (nI (2 * t + k))) := fs_60 (fun q hq => by rw [up2_ne hq, a3 q hq]) (fun j hj => by rw [up2_i (by omega), a4 j (by omega) (by omega) (by omega) (by omega)])
    obtain ⟨J2, p1, p2, p3⟩ := r_part0 (FU := FU) (pz := pz) (nz := nz) (hz := hz) (dz := dz) s16 T2 (up2_s)
    have h28' : J1 60 28 = nI t := by rw [a4 28 (by decide) (by decide) (by decide) (by decide), h28]
    have text : ∀ F, fX9_isText_L11 FU 60 (F + 1) (nI k) (J, R0 pz nz hz dz) = bd2 (fX9_part_L36 FU 60 FU (nI 1) (nI 1) (J2, R0 pz nz hz dz)) fun r43 M43 => if ¬ r43 = 0 then ((rc 9 (some 60)).bind fun b52 => (fX9_next FU b52 M43).bind fun M52 => (fX9_isText_L11 FU 60 F) (nI k + 1) M52) else (some ((0 : Int32), M43)) := by
      intro F
      conv => lhs; unfold fX9_isText_L11
      rw [if_neg zN, rc9, w_bind, dn key, b01_pos t1, if_pos (by decide), w_bind, dn1 a1, fIb_60, h28', li_2, pk_mul, nI_add, pIb_60, w_bind, p1]
    have sp := l_E hF (b := b) (n := n) (r := r) (v := v) (pl := pl) (nm := nm) (hd := hd) (pz := pz) (nz := nz) (hz := hz) (dz := dz) (i + 1) [] [] 0 (2 * t + k) I1 J2 ⟨d2, p2, by show 0 + 0 < i + 1; omega, by omega, Nat.le_refl 0⟩ (fun j hj => absurd hj (Nat.succ_ne_zero j))
    rcases sp with ⟨x, I2, i2, em, pe, c1, J3, y, g1, g2, g3, g4, g5, g6, g7, g8, g9, g10, g11, g12⟩ | ⟨x, I2, j, J3, g1, g2, g3, g4, g5, g6⟩
    · have P2 := g2.put (f := 1 + k) (by omega) x
      have cls : rX FU (6 + k) (rE FU (1 + k) (rX FU 59 K)) (I, R0 pl nm hd (some r)) = rX FU 59 K (up2 I2 48 (1 + k) x, R0 pl nm hd (some r)) := by
        unfold rX rE
        rw [dn1 d1, dn g1, pIb_48]
      have run : fX9_part_L36 FU 60 FU (nI 1) (nI 1) (J2, R0 pz nz hz dz) = fX9_part_L36 FU 60 (FU - (i2 - (i + 1))) (nI 0) y (J3, R0 pz nz hz dz) := by
        have := g8 (FU - (i2 - (i + 1)))
        rw [show FU - (i2 - (i + 1)) + (i2 - (i + 1)) = FU by omega] at this
        exact this
      obtain ⟨G, hG⟩ : ∃ G, FU - (i2 - (i + 1)) = G + 1 := ⟨FU - (i2 - (i + 1)) - 1, by omega⟩
      have z2 : Fz I (up2 I2 48 (1 + k) x) := fun q hq => by rw [up2_ne hq, g3.1 q hq, d3.1 q hq]
      have zf : ∀ j, j < 3 → j ≠ 1 + k → up2 I2 48 (1 + k) x 48 j = I 48 j := fun j hj hne => by rw [up2_i hne, g3.2 j (Or.inl hj), d3.2 j (Or.inl hj)]
      rcases c_expect (FU := FU) (pl := pl) (nm := nm) (hd := hd) hF (c := 59) (by decide) P2 with ⟨t2, I3, q1, q2, q3⟩ | ⟨t2, I3, q1, q2, q3⟩
      · left
        obtain ⟨J4, k1, k2, k3⟩ := m_semi (FU := FU) (pl := pz) (nm := nz) (hd := hz) (rd := dz) hF (x := y) (o := 0) (S := []) g5 t2 (fun j hj => absurd hj (Nat.succ_ne_zero j)) g9 g6
        obtain ⟨J5, n1, n2, n3, n4⟩ := r_tok (FU := FU) (pl := pz) (nm := nz) (hd := hz) (rd := dz) hF k2.1
        have cl : (em ++ pe.reverse).length < 120 := by
          simp only [List.length_append, List.length_reverse, List.length_nil] at g11 ⊢
          omega
        have eo : [] ++ em ++ pe.reverse = em ++ pe.reverse := rfl
        rw [eo] at k2
        refine ⟨I3, i2 + 1, J5, x, em ++ pe.reverse, ?_, q2, z2.trans q3.1, fun j hj hne => by rw [q3.2 j (Or.inl hj), zf j hj hne], by rw [q3.2 (1 + k) (by omega), up2_s], g10, fun F => ?_, n2, ⟨?_, cl, fun j hj => ?_⟩, (F1.trans p3).trans ((g7.fs.trans k3.fs).trans (fs_60 n3 (fun j hj => n4 j (by omega) (by omega) (by omega) (by omega))))⟩
        · rw [cls]
          unfold rX
          rw [dn1 q1]
        · rw [text, run, hG, dn (k1 G), if_pos rfl, if_pos (by decide), rc9, w_bind, dn1 n1, li_1, nI_add]
        · rw [n3 77 (by decide)]
          exact k2.2.2.2.2.2.2.1.1
        · rw [n3 78 (by decide)]
          exact k2.2.2.2.2.2.2.1.2 j hj
      · right
        obtain ⟨c2, e2, hc2⟩ := code_of b n i2
        have z59 : c2 ≠ 59 := fun z => t2 (by rw [e2, z])
        have no := m_no0 (FU := FU) (pl := pz) (nm := nz) (hd := hz) (rd := dz) (x := y) hc2 e2 z59 (by
          obtain ⟨x1, x2, x3, x4, x5, x6⟩ := g12
          have q := fun d (hd' : d < 62) => code_ne (d := d) e2 hc2 hd'
          rw [Ne, q 42 (by decide)] at x2
          rw [Ne, q 43 (by decide)] at x3
          rw [Ne, q 45 (by decide)] at x4
          rw [Ne, q 9 (by decide)] at x5
          rw [Ne, q 8 (by decide)] at x6
          by_cases z41 : c2 = 41
          · exact Or.inl ⟨z41, rfl⟩
          by_cases z60 : c2 = 60 ∨ c2 = 61
          · right; right
            refine ⟨z60, x1 ?_⟩
            rcases z60 with z | z
            · exact Or.inl (by rw [e2, z])
            · exact Or.inr (by rw [e2, z])
          · right; left
            refine ⟨z41, ?_⟩
            rcases sg_no hc2 with w | w
            · exfalso; omega
            · exact w) g6
        refine ⟨I3, i2, J3, ?_, q2, z2.trans q3.1, fun F => ?_, g6.at, (F1.trans p3).trans g7.fs⟩
        · rw [cls]
          unfold rX
          rw [dn1 q1]
        · rw [text, run, hG, dn (no G), if_neg (fun h => h z0)]
          rfl
    · right
      have P2 := g2.put (f := 1 + k) (by omega) x
      obtain ⟨I3, q1, q2, q3⟩ := fz_X (FU := FU) (pl := pl) (nm := nm) (hd := hd) hF (c := 59) (k := K) P2
      refine ⟨I3, j, J3, ?_, q2, ?_, fun F => ?_, g5, (F1.trans p3).trans g6.fs⟩
      · have : rX FU (6 + k) (rE FU (1 + k) (rX FU 59 K)) (I, R0 pl nm hd (some r)) = rX FU 59 K (up2 I2 48 (1 + k) x, R0 pl nm hd (some r)) := by
          unfold rX rE
          rw [dn1 d1, dn g1, pIb_48]
        rw [this, q1]
      · exact Fz.trans (fun q hq => by rw [up2_ne hq, g3.1 q hq, d3.1 q hq]) q3
      · rw [text]
        have := g4 FU (by omega)
        rw [dn this, if_neg (fun h => h z0)]
        rfl
  · right
    obtain ⟨I2, b1, b2, b3⟩ := fz_E (FU := FU) (pl := pl) (nm := nm) (hd := hd) hF (f := 1 + k) (k := rX FU 59 K) (by omega) d2
    obtain ⟨I3, b4, b5, b6⟩ := fz_X (FU := FU) (pl := pl) (nm := nm) (hd := hd) hF (c := 59) (k := K) b2
    refine ⟨I3, i, J, ?_, b5, (Fz.trans d3.1 b3).trans b6, fun F => ?_, hT.2.2, fs_60 (fun _ _ => rfl) (fun _ _ => rfl)⟩
    · have : rX FU (6 + k) (rE FU (1 + k) (rX FU 59 K)) (I, R0 pl nm hd (some r)) = rE FU (1 + k) (rX FU 59 K) (I1, R0 pl nm hd (some r)) := by
        unfold rX
        rw [dn1 d1]
      rw [this, b1, b4]
    · conv => lhs; unfold fX9_isText_L11
      rw [if_neg zN, rc9, w_bind, dn key, b01_neg t1, if_neg (fun h => h z0)]
      rfl
theorem tk_end {i : Nat} (hT : TkJ b n i J) : J 60 33 = nI 0 ↔ cT b n i = nI 12 := by
  obtain ⟨_, h, _⟩ := hT
  rcases h with ⟨e, t⟩ | ⟨e, t, w⟩ | ⟨m, hm, e, t, w⟩ | ⟨m, hm, e, t, w⟩ | ⟨g, t, w⟩ | ⟨e, t⟩
  · rw [t, e]; exact ⟨fun _ => rfl, fun _ => rfl⟩
  · rw [t, e]; decide
  · rw [t, e, nI_eq (by omega) (by omega), nI_eq (by omega) (by omega)]; omega
  · rw [t, e, nI_eq (by omega) (by omega), nI_eq (by omega) (by omega)]; omega
  · obtain ⟨m, e, m1, m2⟩ := isS_ge g
    rw [t, e, nI_eq (by omega) (by omega), nI_eq (by omega) (by omega)]; omega
  · rw [t, e]; decide
/-- what a text leaves alone in the reference -/
def FW (t : Nat) (J J' : Nat → Nat → Int32) : Prop := (∀ q, q ≠ 60 → q ≠ 77 → q ≠ 78 → q ≠ 79 → q ≠ 80 → J' q = J q) ∧ (∀ j, j ≠ 2 * t → j ≠ 2 * t + 1 → J' 77 j = J 77 j) ∧ (∀ j, j < 240 * t ∨ 240 * t + 240 ≤ j → J' 78 j = J 78 j) ∧ (∀ j, j < 32 ∨ 41 < j → J' 60 j = J 60 j)
theorem FW.trans {t : Nat} {J1 J2 : Nat → Nat → Int32} (a : FW t J J1) (c : FW t J1 J2) : FW t J J2 := ⟨fun q q1 q2 q3 q4 q5 => (c.1 q q1 q2 q3 q4 q5).trans (a.1 q q1 q2 q3 q4 q5), fun j h1 h2 => (c.2.1 j h1 h2).trans (a.2.1 j h1 h2), fun j hj => (c.2.2.1 j hj).trans (a.2.2.1 j hj), fun j hj => (c.2.2.2 j hj).trans (a.2.2.2 j hj)⟩
theorem FS.fw {t k : Nat} {J' : Nat → Nat → Int32} (hk : k < 2) (a : FS (2 * t + k) J J') : FW t J J' := ⟨a.1, fun j h1 h2 => a.2.1 j (by omega), fun j hj => a.2.2.1 j (by omega), a.2.2.2⟩
theorem l_read (hF : 99999999 ≤ FU) {t : Nat} {rd : Option Nat} (ht : t < 6) (hB : BR r) (h48 : r ≠ 48) (hL : aL2 (some r) = some (nI 120)) (hn : n ≤ 120) (hb : ∀ j, j < n → I r j = b j) (hv : ∀ k, k < 6 → I 49 k = v k) (h27 : J 60 27 = nI n) (h28 : J 60 28 = nI t) (h76 : ∀ j, j < n → J 76 j = b j) : (∃ I' J' x1 x2 c1 c2, fX4_read FU 48 (some r) (nI n) (I, R0 pl nm hd rd) = some (I', R0 pl nm hd (some r)) ∧ I' 48 3 = mI 1 ∧ Fz I I' ∧ I' 48 1 = x1 ∧ I' 48 2 = x2 ∧ cdV v c1 x1 ∧ cdV v c2 x2 ∧ fX9_isText FU 60 (J, R0 pz nz hz dz) = some (nI 1, (J', R0 pz nz hz dz)) ∧ CdA J' (2 * t) c1 ∧ CdA J' (2 * t + 1) c2 ∧ FW t J J') ∨ (∃ I' j J', fX4_read FU 48 (some r) (nI n) (I, R0 pl nm hd rd) = some (I', R0 pl nm hd (some r)) ∧ I' 48 3 = nI (sS b n j) ∧ Fz I I' ∧ fX9_isText FU 60 (J, R0 pz nz hz dz) = some (nI 0, (J', R0 pz nz hz dz)) ∧ J' 60 35 = nI (sS b n j) ∧ FW t J J') := by
  have rc9 : rc 9 (some 60) = some 60 := rfl
  have z0 : nI 0 = (0 : Int32) := rfl
  obtain ⟨I1, a1, a2, a3⟩ := c_read0 (FU := FU) (pl := pl) (nm := nm) (hd := hd) (rd := rd) hF hB h48 hL hn hb hv
  have R0' : RdR b n 0 (up2 J 60 32 (nI 0)) := ⟨hn, by rw [up2_i (by decide), h27], fun j hj => by rw [up2_k (by decide)]; exact h76 j hj, up2_s, Nat.zero_le n⟩
  obtain ⟨J1, b1, b2, b3, b4, b5, b6⟩ := r_next (FU := FU) (pl := pz) (nm := nz) (hd := hz) (rd := dz) hF R0'
  have T0 : TkJ b n 0 J1 := ⟨b2, b3, b4⟩
  have W0 : FW t J J1 := by
    have : FS (2 * t + 0) J J1 := fs_60 (fun q hq => by rw [b5 q hq, up2_ne hq]) (fun j hj => by rw [b6 j (by omega) (by omega) (by omega) (by omega), up2_i (by omega)])
    exact this.fw (by decide)
  have tx : fX9_isText FU 60 (J, R0 pz nz hz dz) = fX9_isText_L11 FU 60 FU (nI 0) (J1, R0 pz nz hz dz) := by
    unfold fX9_isText
    rw [pIb_60, rc9, w_bind]
    have b1' : fX9_next FU 60 (up2 J 60 32 0, R0 pz nz hz dz) = some (J1, R0 pz nz hz dz) := b1
    rw [dn1 b1']
    rfl
  obtain ⟨G, hG⟩ : ∃ G, FU = G + 3 := ⟨FU - 3, by omega⟩
  have g28 : J1 60 28 = nI t := by rw [W0.2.2.2 28 (by decide), h28]
  rcases l_half (pz := pz) (nz := nz) (hz := hz) (dz := dz) (pl := pl) (nm := nm) (hd := hd) (K := rX FU 7 (rE FU 2 (rX FU 59 (rX FU 12 some)))) hF (k := 0) (by decide) ht a2 T0 g28 with ⟨I2, i2, J2, x1, c1, d1, d2, d3, d4, d5, d6, d7, d8, d9, d10⟩ | ⟨I2, j, J2, d1, d2, d3, d4, d5, d6⟩
  · have e28 : J2 60 28 = nI t := by rw [d10.2.2.2 28 (by decide), g28]
    have tx2 : fX9_isText FU 60 (J, R0 pz nz hz dz) = fX9_isText_L11 FU 60 (G + 2) (nI 1) (J2, R0 pz nz hz dz) := by
      rw [tx]
      have := d7 (G + 2)
      rw [show fX9_isText_L11 FU 60 FU = fX9_isText_L11 FU 60 (G + 3) by rw [hG]]
      exact this
    rcases l_half (pz := pz) (nz := nz) (hz := hz) (dz := dz) (pl := pl) (nm := nm) (hd := hd) (K := rX FU 12 some) hF (k := 1) (by decide) ht d2 d8 e28 with ⟨I3, i3, J3, x2, c2, f1, f2, f3, f4, f5, f6, f7, f8, f9, f10⟩ | ⟨I3, j, J3, f1, f2, f3, f4, f5, f6⟩
    · have W3 : FW t J J3 := (W0.trans (d10.fw (by decide))).trans (f10.fw (by decide))
      have tx3 : fX9_isText FU 60 (J, R0 pz nz hz dz) = some (if cT b n i3 = nI 12 then nI 1 else nI 0, (J3, R0 pz nz hz dz)) := by
        rw [tx2, f7 (G + 1)]
        conv => lhs; unfold fX9_isText_L11
        rw [if_pos (by decide), fIb_60]
        by_cases z : cT b n i3 = nI 12
        · rw [if_pos z, (tk_end f8).mpr z, if_neg (fun h => h z0)]
          rfl
        · rw [if_neg z, if_pos (show ¬ J3 60 33 = 0 from fun q => z ((tk_end f8).mp q))]
          rfl
      have cls : ∀ I4, fX4_expect FU 48 (nI 12) (I3, R0 pl nm hd (some r)) = some (I4, R0 pl nm hd (some r)) → fX4_read FU 48 (some r) (nI n) (I, R0 pl nm hd rd) = some (I4, R0 pl nm hd (some r)) := by
        intro I4 h4
        rw [a1]
        have q1 : rX FU 6 (rE FU 1 (rX FU 59 (rX FU 7 (rE FU 2 (rX FU 59 (rX FU 12 some)))))) (I1, R0 pl nm hd (some r)) = rX FU 7 (rE FU 2 (rX FU 59 (rX FU 12 some))) (I2, R0 pl nm hd (some r)) := d1
        have q2 : rX FU 7 (rE FU 2 (rX FU 59 (rX FU 12 some))) (I2, R0 pl nm hd (some r)) = rX FU 12 some (I3, R0 pl nm hd (some r)) := f1
        rw [q1, q2]
        unfold rX
        rw [dn1 h4]
      rcases c_expect (FU := FU) (pl := pl) (nm := nm) (hd := hd) hF (c := 12) (by decide) f2 with ⟨t1, I4, q1, q2, q3⟩ | ⟨t1, I4, q1, q2, q3⟩
      · left
        refine ⟨I4, J3, x1, x2, c1, c2, cls I4 q1, q2.2.2.1, ((a3.trans d3).trans f3).trans q3.1, ?_, ?_, d6, f6, ?_, d9.keep f10 (by omega), f9, W3⟩
        · rw [q3.2 1 (by decide), f4 1 (by decide) (by decide)]
          exact d5
        · rw [q3.2 2 (by decide)]
          exact f5
        · rw [tx3, if_pos t1]
      · right
        exact ⟨I4, i3, J3, cls I4 q1, q2.2, ((a3.trans d3).trans f3).trans q3.1, by rw [tx3, if_neg t1], f8.2.2, W3⟩
    · right
      obtain ⟨I4, q1, q2, q3⟩ := fz_X (FU := FU) (pl := pl) (nm := nm) (hd := hd) hF (c := 12) (k := some) f2
      refine ⟨I4, j, J3, ?_, q2.2, ((a3.trans d3).trans f3).trans q3, ?_, f5, (W0.trans (d10.fw (by decide))).trans (f6.fw (by decide))⟩
      · have w1 : rX FU 6 (rE FU 1 (rX FU 59 (rX FU 7 (rE FU 2 (rX FU 59 (rX FU 12 some)))))) (I1, R0 pl nm hd (some r)) = rX FU 7 (rE FU 2 (rX FU 59 (rX FU 12 some))) (I2, R0 pl nm hd (some r)) := d1
        have w2 : rX FU 7 (rE FU 2 (rX FU 59 (rX FU 12 some))) (I2, R0 pl nm hd (some r)) = rX FU 12 some (I3, R0 pl nm hd (some r)) := f1
        rw [a1, w1, w2, q1]
      · rw [tx2]
        exact f4 (G + 1)
  · right
    obtain ⟨I3, q1, q2, q3⟩ := fz_X (FU := FU) (pl := pl) (nm := nm) (hd := hd) hF (c := 7) (k := rE FU 2 (rX FU 59 (rX FU 12 some))) d2
    obtain ⟨I4, q4, q5, q6⟩ := fz_E (FU := FU) (pl := pl) (nm := nm) (hd := hd) hF (f := 2) (k := rX FU 59 (rX FU 12 some)) (Or.inr rfl) q2
    obtain ⟨I5, q7, q8, q9⟩ := fz_X (FU := FU) (pl := pl) (nm := nm) (hd := hd) hF (c := 59) (k := rX FU 12 some) q5
    obtain ⟨I6, r1, r2, r3⟩ := fz_X (FU := FU) (pl := pl) (nm := nm) (hd := hd) hF (c := 12) (k := some) q8
    refine ⟨I6, j, J2, ?_, r2.2, ((((a3.trans d3).trans q3).trans q6).trans q9).trans r3, ?_, d5, W0.trans (d6.fw (by decide))⟩
    · have w1 : rX FU 6 (rE FU 1 (rX FU 59 (rX FU 7 (rE FU 2 (rX FU 59 (rX FU 12 some)))))) (I1, R0 pl nm hd (some r)) = rX FU 7 (rE FU 2 (rX FU 59 (rX FU 12 some))) (I2, R0 pl nm hd (some r)) := d1
      rw [a1, w1, q1, q4, q7, r1]
    · rw [tx]
      have := d4 (G + 2)
      rw [show fX9_isText_L11 FU 60 FU = fX9_isText_L11 FU 60 (G + 3) by rw [hG]]
      exact this
end ParC
