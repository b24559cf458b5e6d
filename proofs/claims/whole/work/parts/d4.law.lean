/-! the law: its loop -/
section Law
variable {FU ver N : Nat} {P : Pln} {g : Option Gme} {T : Txt} {D : Dtx} {S : Sht} {I J : Nat → Nat → Int32} {pl nm hd rd : Option Nat} {L : Nat} {xs : Nat → Int32}
theorem back_go (hW : WfP P) (hg : WGo P g) (hC : CG g I) (hR : RG g J) : GO P g I J (R0 pl nm hd rd) (fX8_back FU 0 (I, R0 pl nm hd rd)) (fX9_back FU 60 (J, R0 pl nm hd rd)) := by
  obtain ⟨x, g', w, n, c, J', b1, b2, b3, b4⟩ := k_back (FU := FU) (pl := pl) (nm := nm) (hd := hd) (rd := rd) hW hg hC hR
  exact ⟨x, g', w, n, c, J', b1, b2, b3, fun i hi => b4 i (by omega)⟩
theorem scr_at {i : Nat} (hL : L ≤ 3073) (h : i < L) : scr L xs (nI i) = some (xs i) := by
  unfold scr
  rw [nI_clamp (by omega), if_neg]
  rintro (z | z)
  · rw [li_0, w_lt (by omega) (by decide)] at z
    omega
  · omega
theorem law_end {i : Nat} (hL : L ≤ 3073) (hi : i < 4000) : (Int32.ofNat L - (6 : Int32) < nI i) = (L < i + 6) := by
  have e : Int32.ofNat L = nI L := rfl
  rw [e, li_6]
  by_cases h6 : 6 ≤ L
  · rw [w_sub h6, w_lt (by omega) (by omega)]
    apply propext
    omega
  · have z : nI L - nI 6 = mI (6 - L) := by
      obtain rfl | rfl | rfl | rfl | rfl | rfl : L = 0 ∨ L = 1 ∨ L = 2 ∨ L = 3 ∨ L = 4 ∨ L = 5 := by omega
      all_goals decide
    rw [z, w_mlt (by omega) (by omega)]
    apply propext
    omega
theorem lg_same (x : Int64) : lg_cmp x x = 0 := by
  unfold lg_cmp
  simp
theorem law_step (hF : 99999999 ≤ FU) (hL : L ≤ 3073) {i : Nat} (hi : i + 6 ≤ L) (hN : N < 2 ^ 20) {F : Nat} (h : INV FU N pl nm hd rd I) (ih : ∀ pl' nm' hd' rd' I', INV FU (N + 1) pl' nm' hd' rd' I' → ∃ M, fL_law_L28 FU L xs F (nI (i + 6)) (I', R0 pl' nm' hd' rd') = some (1, M)) : ∃ M, fL_law_L28 FU L xs (F + 1) (nI i) (I, R0 pl nm hd rd) = some (1, M) := by
  have h0 := h
  obtain ⟨P, ver, g, T, D, S, hW, hC, hR⟩ := h
  have hv : ver < 2 ^ 30 := by have := hW.2.1; omega
  have hn2 : 40 * N < 2 ^ 29 := by omega
  have rc8 : rc 8 (some 0) = some 0 := rfl
  have rc9 : rc 9 (some 60) = some 60 := rfl
  have s0 := scr_at (xs := xs) hL (i := i) (by omega)
  have s1 : scr L xs (nI i + 1) = some (xs (i + 1)) := by rw [li_1, nI_add]; exact scr_at hL (by omega)
  have s2 : scr L xs (nI i + 2) = some (xs (i + 2)) := by rw [li_2, nI_add]; exact scr_at hL (by omega)
  have s3 : scr L xs (nI i + 3) = some (xs (i + 3)) := by rw [li_3, nI_add]; exact scr_at hL (by omega)
  have s4 : scr L xs (nI i + 4) = some (xs (i + 4)) := by rw [li_4, nI_add]; exact scr_at hL (by omega)
  have s5 : scr L xs (nI i + 5) = some (xs (i + 5)) := by rw [li_5, nI_add]; exact scr_at hL (by omega)
  have nxt : ∀ pl' nm' hd' rd' I', INV FU (N + 1) pl' nm' hd' rd' I' → ∃ M, fL_law_b1207 FU L xs (fL_law_L28 FU L xs F) (nI i) (I', R0 pl' nm' hd' rd') = some (1, M) := by
    intro pl' nm' hd' rd' I' hI
    unfold fL_law_b1207
    rw [li_6, nI_add]
    exact ih pl' nm' hd' rd' I' hI
  have fin : ∀ {f8 f9 : Mem → Option (Int32 × Mem)}, Ste FU N pl nm hd rd I f8 f9 → ∃ M, (bd2 (f8 (I, R0 pl nm hd rd)) fun r1 M1 => bd2 (f9 M1) fun r2 M2 => if r1 = r2 then fL_law_b1207 FU L xs (fL_law_L28 FU L xs F) (nI i) M2 else some ((0 : Int32), M2)) = some (1, M) := by
    rintro f8 f9 ⟨x, I', J', pl', nm', hd', rd', a, b, c⟩
    rw [dn a, dn b, if_pos rfl]
    exact nxt pl' nm' hd' rd' J' c
  have finL : ∀ {f8 f9 : Mem → Option (Int64 × Mem)}, Ste FU N pl nm hd rd I f8 f9 → ∃ M, (bd2 (f8 (I, R0 pl nm hd rd)) fun r1 M1 => bd2 (f9 M1) fun r2 M2 => if lg_cmp r1 r2 = 0 then fL_law_b1207 FU L xs (fL_law_L28 FU L xs F) (nI i) M2 else some ((0 : Int32), M2)) = some (1, M) := by
    rintro f8 f9 ⟨x, I', J', pl', nm', hd', rd', a, b, c⟩
    rw [dn a, dn b, if_pos (lg_same x)]
    exact nxt pl' nm' hd' rd' J' c
  rw [fL_law_L28, if_neg (by rw [law_end hL (by omega)]; omega), s0, w_bind]
  by_cases z0 : (xs i &&& (31 : Int32)) = (0 : Int32)
  · rw [if_pos z0]
    simp only [s1, s2, s3, s4, s5, w_bind, rc8, rc9]
    exact fin (f8 := fX8_way FU 0 _ _ _) (f9 := fX9_way FU 60 _ _ _) (s_PO hW hC hR (fun J hJ => k_way hF hC.1 hJ.1 hW.1 _ _ _))
  rw [if_neg z0]
  by_cases z1 : (xs i &&& (31 : Int32)) = (1 : Int32)
  · rw [if_pos z1]
    simp only [s1, s2, s3, s4, s5, w_bind, rc8, rc9]
    exact fin (f8 := fX8_unway FU 0) (f9 := fX9_unway FU 60) (s_PO hW hC hR (fun J hJ => k_unway hF hC.1 hJ.1 hW.1))
  rw [if_neg z1]
  by_cases z2 : (xs i &&& (31 : Int32)) = (2 : Int32)
  · rw [if_pos z2]
    simp only [s1, s2, s3, s4, s5, w_bind, rc8, rc9]
    exact fin (f8 := fX8_wayTold FU 0 _ _) (f9 := fX9_wayTold FU 60 _ _) (s_RO hW hC hR (k_wayTold hF hC.1 hR.1 hW.1 _ _))
  rw [if_neg z2]
  by_cases z3 : (xs i &&& (31 : Int32)) = (3 : Int32)
  · rw [if_pos z3]
    simp only [s1, s2, s3, s4, s5, w_bind, rc8, rc9]
    exact fin (f8 := fX8_ground FU 0 _ _) (f9 := fX9_ground FU 60 _ _) (s_PO hW hC hR (fun J hJ => k_ground hF hC.1 hJ.1 hW.1 _ _))
  rw [if_neg z3]
  by_cases z4 : (xs i &&& (31 : Int32)) = (4 : Int32)
  · rw [if_pos z4]
    simp only [s1, s2, s3, s4, s5, w_bind, rc8, rc9]
    exact fin (f8 := fX8_tell FU 0 _ _) (f9 := fX9_tell FU 60 _ _) (s_PO hW hC hR (fun J hJ => k_tell hC.1 hJ.1 hW.1 _ _))
  rw [if_neg z4]
  by_cases z5 : (xs i &&& (31 : Int32)) = (5 : Int32)
  · rw [if_pos z5]
    simp only [s1, s2, s3, s4, s5, w_bind, rc8, rc9]
    exact fin (f8 := fX8_length FU 0 _ _ _ _ _) (f9 := fX9_length FU 60 _ _ _ _ _) (s_SO hW hC hR (fun J hJ => k_length hF (hC.hs hW hN hJ) _ _ _ _ _))
  rw [if_neg z5]
  by_cases z6 : (xs i &&& (31 : Int32)) = (6 : Int32)
  · rw [if_pos z6]
    simp only [s1, s2, s3, s4, s5, w_bind, rc8, rc9]
    exact fin (f8 := fX8_best FU 0 _ _ _ _ _) (f9 := fX9_best FU 60 _ _ _ _ _) (s_SO hW hC hR (fun J hJ => k_best hF (hC.hs hW hN hJ) _ _ _ _ _))
  rw [if_neg z6]
  by_cases z7 : (xs i &&& (31 : Int32)) = (7 : Int32)
  · rw [if_pos z7]
    simp only [s1, s2, s3, s4, s5, w_bind, rc8, rc9]
    exact fin (f8 := fX8_moves FU 0 _ _ _ _ _) (f9 := fX9_moves FU 60 _ _ _ _ _) (s_SO hW hC hR (fun J hJ => k_moves hF (hC.hs hW hN hJ) _ _ _ _ _))
  rw [if_neg z7]
  by_cases z8 : (xs i &&& (31 : Int32)) = (8 : Int32)
  · rw [if_pos z8]
    simp only [s1, s2, s3, s4, s5, w_bind, rc8, rc9]
    exact fin (f8 := fX8_solved FU 0 _) (f9 := fX9_solved FU 60 _) (s_SO hW hC hR (fun J hJ => k_solved hF (hC.hs hW hN hJ) _))
  rw [if_neg z8]
  by_cases z9 : (xs i &&& (31 : Int32)) = (9 : Int32)
  · rw [if_pos z9]
    simp only [s1, s2, s3, s4, s5, w_bind, rc8, rc9]
    exact fin (f8 := fX8_puzzle FU 0 _ _) (f9 := fX9_puzzle FU 60 _ _) (s_SO hW hC hR (fun J hJ => k_puzzle hF (hC.hs hW hN hJ) _ _))
  rw [if_neg z9]
  by_cases z10 : (xs i &&& (31 : Int32)) = (10 : Int32)
  · rw [if_pos z10]
    simp only [s1, s2, s3, s4, s5, w_bind, rc8, rc9]
    exact fin (f8 := fX8_turnings FU 0) (f9 := fX9_turnings FU 60) (s_NO hW hC hR (fun J hJ => k_turnings hF hC.1 hJ.1 hW.1 hC.2.2.1 hv hC.2.2.2.2.2.2.1))
  rw [if_neg z10]
  by_cases z11 : (xs i &&& (31 : Int32)) = (11 : Int32)
  · rw [if_pos z11]
    simp only [s1, s2, s3, s4, s5, w_bind, rc8, rc9]
    exact fin (f8 := fX8_alike FU 0 _ _ _) (f9 := fX9_alike FU 60 _ _ _) (s_NO hW hC hR (fun J hJ => k_alike hF hC.1 hJ.1 hW.1 hC.2.2.1 hv hC.2.2.2.2.2.2.1 _ _ _))
  rw [if_neg z11]
  by_cases z12 : (xs i &&& (31 : Int32)) = (12 : Int32)
  · rw [if_pos z12]
    simp only [s1, s2, s3, s4, s5, w_bind, rc8, rc9]
    exact fin (f8 := fX8_fairer FU 0) (f9 := fX9_fairer FU 60) (s_fairer hF hN hW hC hR)
  rw [if_neg z12]
  by_cases z13 : (xs i &&& (31 : Int32)) = (13 : Int32)
  · rw [if_pos z13]
    simp only [s1, s2, s3, s4, s5, w_bind, rc8, rc9]
    exact fin (f8 := fX8_sees FU 0 _ _) (f9 := fX9_sees FU 60 _ _) (s_RO hW hC hR (k_sees hF hC.1 hR.1 hW.1 _ _))
  rw [if_neg z13]
  by_cases z14 : (xs i &&& (31 : Int32)) = (14 : Int32)
  · rw [if_pos z14]
    simp only [s1, s2, s3, s4, s5, w_bind, rc8, rc9]
    exact fin (f8 := fX8_sure FU 0 _ _ _) (f9 := fX9_sure FU 60 _ _ _) (s_HO hW hC hR (fun J hJ => k_sure hF hC.1 hJ.1 hW.1 hC.2.2.1 hv hC.2.2.2.2.2.1 hJ.2.2.1 hJ.2.2.2.1 _ _ _))
  rw [if_neg z14]
  by_cases z15 : (xs i &&& (31 : Int32)) = (15 : Int32)
  · rw [if_pos z15]
    simp only [s1, s2, s3, s4, s5, w_bind, rc8, rc9]
    exact fin (f8 := fX8_first FU 0 _ _ _) (f9 := fX9_first FU 60 _ _ _) (s_HO hW hC hR (fun J hJ => k_first hF hC.1 hJ.1 hW.1 hC.2.2.1 hv hC.2.2.2.2.2.1 hJ.2.2.1 hJ.2.2.2.1 _ _ _))
  rw [if_neg z15]
  by_cases z16 : (xs i &&& (31 : Int32)) = (16 : Int32)
  · rw [if_pos z16]
    simp only [s1, s2, s3, s4, s5, w_bind, rc8, rc9]
    exact fin (f8 := fX8_start FU 0 _ _ _) (f9 := fX9_start FU 60 _ _ _) (s_GO hW hC hR (fun J hJ => k_start hF hC.1 hJ.1 hW.1 hW.2.2.2.1 hC.2.2.2.2.2.2.2.1 hJ.2.2.2.2.1 _ _ _))
  rw [if_neg z16]
  by_cases z17 : (xs i &&& (31 : Int32)) = (17 : Int32)
  · rw [if_pos z17]
    simp only [s1, s2, s3, s4, s5, w_bind, rc8, rc9]
    exact fin (f8 := fX8_move FU 0 _) (f9 := fX9_move FU 60 _) (s_MO hW hC hR (fun J hJ => k_move hF (hC.hs hW hN hJ) hW.2.2.1 hn2 hW.2.2.2.1 hC.2.2.2.2.2.2.2.1 hJ.2.2.2.2.1 _))
  rw [if_neg z17]
  by_cases z18 : (xs i &&& (31 : Int32)) = (18 : Int32)
  · rw [if_pos z18]
    simp only [s1, s2, s3, s4, s5, w_bind, rc8, rc9]
    exact fin (f8 := fX8_play FU 0 _) (f9 := fX9_play FU 60 _) (s_MO hW hC hR (fun J hJ => k_play hF (hC.hs hW hN hJ) hW.2.2.1 hn2 hW.2.2.2.1 hC.2.2.2.2.2.2.2.1 hJ.2.2.2.2.1 _))
  rw [if_neg z18]
  by_cases z19 : (xs i &&& (31 : Int32)) = (19 : Int32)
  · rw [if_pos z19]
    simp only [s1, s2, s3, s4, s5, w_bind, rc8, rc9]
    exact fin (f8 := fX8_back FU 0) (f9 := fX9_back FU 60) (s_GO hW hC hR (fun J hJ => back_go hW.1 hW.2.2.2.1 hC.2.2.2.2.2.2.2.1 hJ.2.2.2.2.1))
  rw [if_neg z19]
  by_cases z20 : (xs i &&& (31 : Int32)) = (20 : Int32)
  · rw [if_pos z20]
    simp only [s1, s2, s3, s4, s5, w_bind, rc8, rc9]
    exact fin (f8 := fX8_told FU 0 _) (f9 := fX9_told FU 60 _) (s_SO hW hC hR (fun J hJ => k_told hF (hC.hs hW hN hJ) hW.2.2.2.1 hC.2.2.2.2.2.2.2.1 hJ.2.2.2.2.1 _))
  rw [if_neg z20]
  by_cases z21 : (xs i &&& (31 : Int32)) = (21 : Int32)
  · rw [if_pos z21]
    simp only [s1, s2, s3, s4, s5, w_bind, rc8, rc9]
    exact fin (f8 := fX8_feed FU 0 _ _) (f9 := fX9_feed FU 60 _ _) (s_TO hW hC hR (fun J hJ => k_feed hF hW.2.2.2.2.1 hC.2.2.2.2.2.2.2.2.1 hJ.2.2.2.2.2.1 _ _))
  rw [if_neg z21]
  by_cases z22 : (xs i &&& (31 : Int32)) = (22 : Int32)
  · rw [if_pos z22]
    simp only [s1, s2, s3, s4, s5, w_bind, rc8, rc9]
    exact fin (f8 := fX8_text FU 0) (f9 := fX9_text FU 60) (s_text hF hW hC hR)
  rw [if_neg z22]
  by_cases z23 : (xs i &&& (31 : Int32)) = (23 : Int32)
  · rw [if_pos z23]
    simp only [s1, s2, s3, s4, s5, w_bind, rc8, rc9]
    exact fin (f8 := fX8_force FU 0 _) (f9 := fX9_force FU 60 _) (s_TO hW hC hR (fun J hJ => k_force hW.2.2.2.2.1 hC.2.2.2.2.2.2.2.2.1 hJ.2.2.2.2.2.1 _))
  rw [if_neg z23]
  by_cases z24 : (xs i &&& (31 : Int32)) = (24 : Int32)
  · rw [if_pos z24]
    simp only [s1, s2, s3, s4, s5, w_bind, rc8, rc9]
    exact finL (f8 := fX8_says FU 0 _) (f9 := fX9_says FU 60 _) (s_says hF hN hW hC hR _)
  rw [if_neg z24]
  by_cases z25 : (xs i &&& (31 : Int32)) = (25 : Int32)
  · rw [if_pos z25]
    simp only [s1, s2, s3, s4, s5, w_bind, rc8, rc9]
    exact fin (f8 := fX8_count FU 0 _) (f9 := fX9_count FU 60 _) (s_RO hW hC hR (k_count hF hC.1 hR.1 hW.1 hC.2.2.2.2.2.2.2.1 hR.2.2.2.2.1 hW.2.2.2.2.1 hC.2.2.2.2.2.2.2.2.1 hR.2.2.2.2.2.1 _))
  rw [if_neg z25]
  by_cases z26 : (xs i &&& (31 : Int32)) = (26 : Int32)
  · rw [if_pos z26]
    simp only [s1, s2, s3, s4, s5, w_bind, rc8, rc9]
    exact fin (f8 := fX8_sheet FU 0 _ _ _) (f9 := fX9_sheet FU 60 _ _ _) (s_SH hW hC hR (fun J hJ => k_sheet hF hC.2.2.2.2.2.2.2.2.2.2 hJ.2.2.2.2.2.2.2 hW.2.2.2.2.2.2 _ _ _))
  rw [if_neg z26]
  by_cases z27 : (xs i &&& (31 : Int32)) = (27 : Int32)
  · rw [if_pos z27]
    simp only [s1, s2, s3, s4, s5, w_bind, rc8, rc9]
    exact fin (f8 := fX8_cell FU 0 _ _ _) (f9 := fX9_cell FU 60 _ _ _) (s_SH hW hC hR (fun J hJ => k_cell hC.2.2.2.2.2.2.2.2.2.2 hJ.2.2.2.2.2.2.2 hW.2.2.2.2.2.2 _ _ _))
  rw [if_neg z27]
  by_cases z28 : (xs i &&& (31 : Int32)) = (28 : Int32)
  · rw [if_pos z28]
    simp only [s1, s2, s3, s4, s5, w_bind, rc8, rc9]
    exact fin (f8 := fX8_ways FU 0 _ _ _ _) (f9 := fX9_ways FU 60 _ _ _ _) (s_WO hW hC hR (fun J hJ => k_ways hF hW.2.2.2.2.2.2 hC.1 hJ.1 hW.1 hC.2.2.2.2.2.2.2.2.2.2 hJ.2.2.2.2.2.2.2 _ _ _ _))
  rw [if_neg z28]
  by_cases z29 : (xs i &&& (31 : Int32)) = (29 : Int32)
  · rw [if_pos z29]
    simp only [s1, s2, s3, s4, s5, w_bind, rc8, rc9]
    exact fin (f8 := fX8_taken FU 0 _ _) (f9 := fX9_taken FU 60 _ _) (s_RO hW hC hR (k_taken hF hC.1 hR.1 hW.1 _ _))
  rw [if_neg z29]
  exact nxt pl nm hd rd I ⟨P, ver, g, T, D, S, hW.up, hC, hR⟩
theorem law_loop (hF : 99999999 ≤ FU) (hL : L ≤ 3073) : ∀ d N i F pl nm hd rd I, L < i + 6 * d + 6 → d < F → i = 6 * N + 1 → INV FU N pl nm hd rd I → i < L + 6 → ∃ M, fL_law_L28 FU L xs F (nI i) (I, R0 pl nm hd rd) = some (1, M) := by
  intro d
  induction d with
  | zero =>
    intro N i F pl nm hd rd I h1 h2 h3 hI h4
    obtain ⟨G, rfl⟩ : ∃ G, F = G + 1 := ⟨F - 1, by omega⟩
    refine ⟨(I, R0 pl nm hd rd), ?_⟩
    rw [fL_law_L28, if_pos (by rw [law_end hL (by omega)]; omega)]
  | succ d ih =>
    intro N i F pl nm hd rd I h1 h2 h3 hI h4
    obtain ⟨G, rfl⟩ : ∃ G, F = G + 1 := ⟨F - 1, by omega⟩
    by_cases z : L < i + 6
    · refine ⟨(I, R0 pl nm hd rd), ?_⟩
      rw [fL_law_L28, if_pos (by rw [law_end hL (by omega)]; omega)]
    · exact law_step hF hL (by omega) (by omega) hI (fun pl' nm' hd' rd' I' h => ih (N + 1) (i + 6) G pl' nm' hd' rd' I' (by omega) (by omega) (by omega) h (by omega))
/-- from the start on -/
theorem law_all (hF : 99999999 ≤ FU) (hL : L ≤ 3073) (h : INV FU 0 pl nm hd rd I) : ∃ M, fL_law_L28 FU L xs FU (nI 1) (I, R0 pl nm hd rd) = some (1, M) := law_loop hF hL 600 0 1 FU pl nm hd rd I (by omega) (by omega) rfl h (by omega)
end Law
