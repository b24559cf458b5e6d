/-! the start: the first text -/
section Rule0
variable {FU : Nat} {I J : Nat → Nat → Int32} {pz nz hz dz : Option Nat}
def tx0 : List Nat := [103, 114, 97, 100, 101, 32, 108, 111, 110, 103, 101, 115, 116, 32, 42, 32, 49, 48, 32, 43, 32, 112, 117, 122, 122, 108, 101, 115, 32, 59, 32, 102, 97, 105, 114, 32, 119, 111, 110, 32, 42, 32, 50, 32, 61, 32, 97, 108, 108, 32, 59]
def b0 (j : Nat) : Int32 := nI (tx0.getD j 0)
theorem c0_0 : cT b0 51 0 = nI 6 := by decide +kernel
theorem c0_1 : cT b0 51 1 = nI 2 := by decide +kernel
theorem c0_2 : cT b0 51 2 = nI 42 := by decide +kernel
theorem c0_3 : cT b0 51 3 = nI 11 := by decide +kernel
theorem c0_4 : cT b0 51 4 = nI 43 := by decide +kernel
theorem c0_5 : cT b0 51 5 = nI 3 := by decide +kernel
theorem c0_6 : cT b0 51 6 = nI 59 := by decide +kernel
theorem c0_7 : cT b0 51 7 = nI 7 := by decide +kernel
theorem c0_8 : cT b0 51 8 = nI 0 := by decide +kernel
theorem c0_9 : cT b0 51 9 = nI 42 := by decide +kernel
theorem c0_10 : cT b0 51 10 = nI 11 := by decide +kernel
theorem c0_11 : cT b0 51 11 = nI 61 := by decide +kernel
theorem c0_12 : cT b0 51 12 = nI 1 := by decide +kernel
theorem c0_13 : cT b0 51 13 = nI 59 := by decide +kernel
theorem c0_14 : cT b0 51 14 = nI 12 := by decide +kernel
theorem v0_3 : vT b0 51 3 = nI 10 := by decide +kernel
theorem v0_10 : vT b0 51 10 = nI 2 := by decide +kernel
/-- a part of the first text: the reference goes its way -/
theorem r_go (hF : 99999999 ≤ FU) {k t i : Nat} (hk : k < 2) (ht : t < 6) (hT : TkJ b0 51 i J) (h28 : J 60 28 = nI t) (e : cT b0 51 i = nI (6 + k)) {c : List Int32} (hc : c.length < 120) {i2 : Nat} (run : ∀ J2, MS b0 51 (i + 1) 0 [] [] 0 (2 * t + k) false J2 → ∃ J3, fX9_part_L36 FU 60 FU (nI 1) (nI 1) (J2, R0 pz nz hz dz) = some (nI 1, (J3, R0 pz nz hz dz)) ∧ (∃ cp, MS b0 51 i2 0 [] c 0 (2 * t + k) cp J3) ∧ FM 0 (2 * t + k) J2 J3) : ∃ J', (∀ F, fX9_isText_L11 FU 60 (F + 1) (nI k) (J, R0 pz nz hz dz) = fX9_isText_L11 FU 60 F (nI (k + 1)) (J', R0 pz nz hz dz)) ∧ TkJ b0 51 (i2 + 1) J' ∧ CdA J' (2 * t + k) c ∧ FS (2 * t + k) J J' := by
  have rc9 : rc 9 (some 60) = some 60 := rfl
  have key := r_isKey (FU := FU) (pl := pz) (nm := nz) (hd := hz) (rd := dz) (k := k) (by omega) hT
  have zN : ¬ (2 : Int32) ≤ nI k := by rw [li_2, w_le (by decide) (by omega)]; omega
  obtain ⟨J1, a1, a2, a3, a4⟩ := r_tok (FU := FU) (pl := pz) (nm := nz) (hd := hz) (rd := dz) hF hT
  have s16 : 2 * t + k < 16 := by omega
  have T2 : TkJ b0 51 (i + 1) (up2 J1 60 41 (nI (2 * t + k))) := a2.keep (up2_ne (by decide)) (fun j hj => up2_i (by omega))
  have F1 : FS (2 * t + k) J (up2 J1 60 41 (nI (2 * t + k))) := fs_60 (fun q hq => by rw [up2_ne hq, a3 q hq]) (fun j hj => by rw [up2_i (by omega), a4 j (by omega) (by omega) (by omega) (by omega)])
  obtain ⟨J2, p1, p2, p3⟩ := r_part0 (FU := FU) (pz := pz) (nz := nz) (hz := hz) (dz := dz) s16 T2 (up2_s)
  have h28' : J1 60 28 = nI t := by rw [a4 28 (by decide) (by decide) (by decide) (by decide), h28]
  obtain ⟨J3, q1, ⟨cp, q2⟩, q3⟩ := run J2 p2
  obtain ⟨J4, n1, n2, n3, n4⟩ := r_tok (FU := FU) (pl := pz) (nm := nz) (hd := hz) (rd := dz) hF q2.1
  refine ⟨J4, fun F => ?_, n2, ⟨?_, hc, fun j hj => ?_⟩, (F1.trans p3).trans (q3.fs.trans (fs_60 n3 (fun j hj => n4 j (by omega) (by omega) (by omega) (by omega))))⟩
  · conv => lhs; unfold fX9_isText_L11
    rw [if_neg zN, rc9, w_bind, dn key, b01_pos e, if_pos (by decide), w_bind, dn1 a1, fIb_60, h28', li_2, pk_mul, nI_add, pIb_60, w_bind, p1, dn q1, if_pos (by decide), w_bind, dn1 n1, li_1, nI_add]
  · rw [n3 77 (by decide)]
    exact q2.2.2.2.2.2.2.1.1
  · rw [n3 78 (by decide)]
    exact q2.2.2.2.2.2.2.1.2 j hj
theorem top_n (l : Nat) : topL [] l := fun j hj => absurd hj (Nat.succ_ne_zero j)
theorem top_1 {w : Int32} {l : Nat} (h : rk w < l) : topL [w] l := topL_app (S := []) h
def cd1 : List Int32 := [nI 10002, nI 10, mI 8, nI 10003, mI 6]
def cd2 : List Int32 := [nI 10000, nI 2, mI 8, nI 10001, mI 5]
theorem run_1 (hF : 99999999 ≤ FU) (J2 : Nat → Nat → Int32) (h : MS b0 51 1 0 [] [] 0 (2 * 0 + 0) false J2) : ∃ J3, fX9_part_L36 FU 60 FU (nI 1) (nI 1) (J2, R0 pz nz hz dz) = some (nI 1, (J3, R0 pz nz hz dz)) ∧ (∃ cp, MS b0 51 6 0 [] cd1 0 (2 * 0 + 0) cp J3) ∧ FM 0 (2 * 0 + 0) J2 J3 := by
  obtain ⟨G, hG⟩ : ∃ G, FU = G + 6 := ⟨FU - 6, by omega⟩
  have lp : fX9_part_L36 FU 60 FU = fX9_part_L36 FU 60 (G + 6) := by rw [hG]
  obtain ⟨A1, a1, a2, a3⟩ := m_atom (FU := FU) (pl := pz) (nm := nz) (hd := hz) (rd := dz) hF (m := 0) (x := nI 1) (S := []) (by decide) (Or.inr (by decide)) c0_1 (by decide) (top_n 7) (Or.inr rfl) (by decide) h
  obtain ⟨A2, b1, b2, b3⟩ := m_bin (FU := FU) (pl := pz) (nm := nz) (hd := hz) (rd := dz) hF (w := mI 8) (c := 42) (pe := []) (S := []) (x := nI 1) (o := 0) (by decide) (Or.inr (Or.inr (Or.inr (Or.inr (Or.inr (Or.inr ⟨rfl, rfl⟩)))))) c0_2 (top_n _) (fun v hv => absurd hv List.not_mem_nil) (fun z => absurd z (by decide)) (by decide) a2
  obtain ⟨A3, c1, c2, c3⟩ := m_atom (FU := FU) (pl := pz) (nm := nz) (hd := hz) (rd := dz) hF (m := 0) (x := nI 0) (S := [mI 8]) (by decide) (Or.inl rfl) c0_3 (by decide) (top_1 (by decide)) (Or.inl rfl) (by decide) b2
  obtain ⟨A4, d1, d2, d3⟩ := m_bin (FU := FU) (pl := pz) (nm := nz) (hd := hz) (rd := dz) hF (w := mI 6) (c := 43) (pe := [mI 8]) (S := []) (x := nI 0) (o := 0) (by decide) (Or.inr (Or.inr (Or.inr (Or.inr (Or.inl ⟨rfl, rfl⟩))))) c0_4 (top_n _) (fun v hv => by rw [List.mem_singleton.mp hv]; decide) (fun z => absurd z (by decide)) (by decide) c2
  obtain ⟨A5, e1, e2, e3⟩ := m_atom (FU := FU) (pl := pz) (nm := nz) (hd := hz) (rd := dz) hF (m := 0) (x := nI 0) (S := [mI 6]) (by decide) (Or.inr (by decide)) c0_5 (by decide) (top_1 (by decide)) (Or.inl rfl) (by decide) d2
  obtain ⟨A6, f1, f2, f3⟩ := m_semi (FU := FU) (pl := pz) (nm := nz) (hd := hz) (rd := dz) hF (x := nI 0) (o := 0) (S := []) (pe := [mI 6]) (by decide) c0_6 (top_n 1) (fun v hv => by rw [List.mem_singleton.mp hv]; decide) e2
  have f4 : ∃ cp, MS b0 51 6 0 [] cd1 0 (2 * 0 + 0) cp A6 := by
    rw [v0_3] at f2
    exact ⟨_, f2⟩
  refine ⟨A6, ?_, f4, ((((a3.trans b3).trans c3).trans d3).trans e3).trans f3⟩
  rw [lp, a1 (G + 5), b1 (G + 4)]
  exact (c1 (G + 3)).trans ((d1 (G + 2)).trans ((e1 (G + 1)).trans (f1 G)))
theorem run_2 (hF : 99999999 ≤ FU) (J2 : Nat → Nat → Int32) (h : MS b0 51 8 0 [] [] 0 (2 * 0 + 1) false J2) : ∃ J3, fX9_part_L36 FU 60 FU (nI 1) (nI 1) (J2, R0 pz nz hz dz) = some (nI 1, (J3, R0 pz nz hz dz)) ∧ (∃ cp, MS b0 51 13 0 [] cd2 0 (2 * 0 + 1) cp J3) ∧ FM 0 (2 * 0 + 1) J2 J3 := by
  obtain ⟨G, hG⟩ : ∃ G, FU = G + 6 := ⟨FU - 6, by omega⟩
  have lp : fX9_part_L36 FU 60 FU = fX9_part_L36 FU 60 (G + 6) := by rw [hG]
  obtain ⟨A1, a1, a2, a3⟩ := m_atom (FU := FU) (pl := pz) (nm := nz) (hd := hz) (rd := dz) hF (m := 0) (x := nI 1) (S := []) (by decide) (Or.inr (by decide)) c0_8 (by decide) (top_n 7) (Or.inr rfl) (by decide) h
  obtain ⟨A2, b1, b2, b3⟩ := m_bin (FU := FU) (pl := pz) (nm := nz) (hd := hz) (rd := dz) hF (w := mI 8) (c := 42) (pe := []) (S := []) (x := nI 1) (o := 0) (by decide) (Or.inr (Or.inr (Or.inr (Or.inr (Or.inr (Or.inr ⟨rfl, rfl⟩)))))) c0_9 (top_n _) (fun v hv => absurd hv List.not_mem_nil) (fun z => absurd z (by decide)) (by decide) a2
  obtain ⟨A3, c1, c2, c3⟩ := m_atom (FU := FU) (pl := pz) (nm := nz) (hd := hz) (rd := dz) hF (m := 0) (x := nI 0) (S := [mI 8]) (by decide) (Or.inl rfl) c0_10 (by decide) (top_1 (by decide)) (Or.inl rfl) (by decide) b2
  obtain ⟨A4, d1, d2, d3⟩ := m_bin (FU := FU) (pl := pz) (nm := nz) (hd := hz) (rd := dz) hF (w := mI 5) (c := 61) (pe := [mI 8]) (S := []) (x := nI 0) (o := 0) (by decide) (Or.inr (Or.inr (Or.inr (Or.inl ⟨rfl, rfl⟩)))) c0_11 (top_n _) (fun v hv => by rw [List.mem_singleton.mp hv]; decide) (fun _ => rfl) (by decide) c2
  obtain ⟨A5, e1, e2, e3⟩ := m_atom (FU := FU) (pl := pz) (nm := nz) (hd := hz) (rd := dz) hF (m := 0) (x := nI 0) (S := [mI 5]) (by decide) (Or.inr (by decide)) c0_12 (by decide) (top_1 (by decide)) (Or.inl rfl) (by decide) d2
  obtain ⟨A6, f1, f2, f3⟩ := m_semi (FU := FU) (pl := pz) (nm := nz) (hd := hz) (rd := dz) hF (x := nI 0) (o := 0) (S := []) (pe := [mI 5]) (by decide) c0_13 (top_n 1) (fun v hv => by rw [List.mem_singleton.mp hv]; decide) e2
  have f4 : ∃ cp, MS b0 51 13 0 [] cd2 0 (2 * 0 + 1) cp A6 := by
    rw [v0_10] at f2
    exact ⟨_, f2⟩
  refine ⟨A6, ?_, f4, ((((a3.trans b3).trans c3).trans d3).trans e3).trans f3⟩
  rw [lp, a1 (G + 5), b1 (G + 4)]
  exact (c1 (G + 3)).trans ((d1 (G + 2)).trans ((e1 (G + 1)).trans (f1 G)))
theorem rule_0 (hF : 99999999 ≤ FU) (h27 : J 60 27 = nI 51) (h28 : J 60 28 = nI 0) (h76 : ∀ j, j < 51 → J 76 j = b0 j) : ∃ J', fX9_isText FU 60 (J, R0 pz nz hz dz) = some (nI 1, (J', R0 pz nz hz dz)) ∧ CdA J' 0 cd1 ∧ CdA J' 1 cd2 := by
  have rc9 : rc 9 (some 60) = some 60 := rfl
  have R0' : RdR b0 51 0 (up2 J 60 32 (nI 0)) := ⟨by decide, by rw [up2_i (by decide), h27], fun j hj => by rw [up2_k (by decide)]; exact h76 j hj, up2_s, Nat.zero_le 51⟩
  obtain ⟨J1, b1, b2, b3, b4, b5, b6⟩ := r_next (FU := FU) (pl := pz) (nm := nz) (hd := hz) (rd := dz) hF R0'
  have T0 : TkJ b0 51 0 J1 := ⟨b2, b3, b4⟩
  have g28 : J1 60 28 = nI 0 := by rw [b6 28 (by decide) (by decide) (by decide) (by decide), up2_i (by decide), h28]
  obtain ⟨J2, a1, a2, a3, a4⟩ := r_go hF (k := 0) (t := 0) (by decide) (by decide) T0 g28 c0_0 (c := cd1) (by decide) (fun J2 h => run_1 hF J2 h)
  have k28 : J2 60 28 = nI 0 := by rw [a4.2.2.2 28 (by decide), g28]
  obtain ⟨J3, d1, d2, d3, d4⟩ := r_go hF (k := 1) (t := 0) (by decide) (by decide) a2 k28 c0_7 (c := cd2) (by decide) (fun J2 h => run_2 hF J2 h)
  obtain ⟨G, hG⟩ : ∃ G, FU = G + 3 := ⟨FU - 3, by omega⟩
  refine ⟨J3, ?_, a3.keep d4 (by decide), d3⟩
  unfold fX9_isText
  rw [pIb_60, rc9, w_bind]
  have b1' : fX9_next FU 60 (up2 J 60 32 0, R0 pz nz hz dz) = some (J1, R0 pz nz hz dz) := b1
  rw [dn1 b1', show fX9_isText_L11 FU 60 FU = fX9_isText_L11 FU 60 (G + 3) by rw [hG]]
  refine (a1 (G + 2)).trans ((d1 (G + 1)).trans ?_)
  conv => lhs; unfold fX9_isText_L11
  have z0 : J3 60 33 = 0 := (tk_end d2).mpr c0_14
  rw [if_pos (by decide), fIb_60, z0, if_neg (fun h => h rfl)]
  rfl
/-- the class reads the first text alike, however often -/
theorem rdg_0 (hF : 99999999 ≤ FU) : Rdg FU 51 b0 cd1 cd2 := by
  intro v pl nm hd rd r I q1 q2 q3 q4 q5
  have hJ : ∃ J : Nat → Nat → Int32, J = fun q j => if q = 60 then (if j = 27 then nI 51 else nI 0) else b0 j := ⟨_, rfl⟩
  obtain ⟨J, eJ⟩ := hJ
  have u1 : J 60 27 = nI 51 := by rw [eJ]; rfl
  have u2 : J 60 28 = nI 0 := by rw [eJ]; rfl
  have u4 : ∀ j, j < 51 → J 76 j = b0 j := fun j _ => by rw [eJ]; rfl
  obtain ⟨J1, a1, a2, a3⟩ := rule_0 (pz := none) (nz := none) (hz := none) (dz := none) hF u1 u2 u4
  rcases l_read (pl := pl) (nm := nm) (hd := hd) (rd := rd) (pz := none) (nz := none) (hz := none) (dz := none) hF (t := 0) (by decide) q1 q2 q3 (by decide) q4 q5 u1 u2 u4 with ⟨I3, J3, y1, y2, d1, d2, e1, e2, e3, e4, e5, e6, e7, e8, e9, e10, _⟩ | ⟨I3, j, J3, e1, e2, e3, e4, _, _⟩
  · have eJ : J3 = J1 := by
      rw [a1] at e8
      exact (congrArg (fun q => q.2.1) (Option.some.inj e8)).symm
    rw [eJ] at e9 e10
    rw [CdA.uniq e9 a2] at e6
    rw [CdA.uniq e10 a3] at e7
    exact ⟨I3, y1, y2, e1, e3, e4, e5, e6, e7⟩
  · rw [a1] at e4
    have e0 : nI 1 = nI 0 := congrArg (fun q => q.1) (Option.some.inj e4)
    exact absurd e0 (by decide)
end Rule0
