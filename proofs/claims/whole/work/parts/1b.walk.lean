set_option maxHeartbeats 4000000 in
set_option maxRecDepth 100000 in
theorem jX2_keepNamesBelow_L2 {ad : Nat → Nat} {ca : Nat → ClassId} {D : va_G} {FU d : Nat} {N : Mem}   {x0 : Nat} {x1 : Int32}   : ∀ (F : Nat) (x2 : Int32) (M : Mem), fX2_keepNamesBelow_L2 FU  x0 x1 F x2 M = some N → J ad ca D cX2_keepNamesBelow RX2 3 (d + 1) (Gt ad ca D none (QV N)) 2 [(0, vR (some x0)), (1, vI x1), (2, vI x2)] [] M := by
  intro F
  induction F with
  | zero =>
    intro x2 M h
    rw [fX2_keepNamesBelow_L2] at h
    cases h
  | succ F hk2 =>
    intro x2 M h
    rw [fX2_keepNamesBelow_L2] at h
    refine J_iload_n (pc := 2) (q := 2) rfl rfl dX2_keepNamesBelow_2 ?_
    refine J_iload_n (pc := 3) (q := 1) rfl rfl dX2_keepNamesBelow_3 ?_
    refine J_icge (pc := 4) (tgt := 20) (by decide) dX2_keepNamesBelow_4 (fun hc4 => ?_) (fun hc4 => ?_)
    · rw [if_pos hc4] at h
      exact J_vret (pc := 20) (qv_of h) dX2_keepNamesBelow_20
    · rw [if_neg hc4] at h
      refine J_aload_n (pc := 7) (q := 0) rfl rfl dX2_keepNamesBelow_7 ?_
      refine J_iload_n (pc := 8) (q := 2) rfl rfl dX2_keepNamesBelow_8 ?_
      refine J_iload_n (pc := 9) (q := 2) rfl rfl dX2_keepNamesBelow_9 ?_
      obtain ⟨b10, hb10, g_1⟩ := bnd h
      obtain ⟨r10, M10, h10, g_2⟩ := bnd2 g_1
      refine J_callVI (pc := 10) (as := [vI x2, vI x2]) (tX2_give (d := d)  h10) cf_X2_give cv_X2_give clF2 hb10 ml_RX2_56 (by omega) (Nat.le_of_ble_eq_true rfl) dX2_keepNamesBelow_10 ?_
      refine J_pop (pc := 13) rfl dX2_keepNamesBelow_13 ?_
      refine J_iinc (pc := 14) (q := 2) rfl (v := x2 + (1 : Int32)) rfl (by decide) (lv' := [(0, vR (some x0)), (1, vI x1), (2, vI (x2 + (1 : Int32)))]) rfl dX2_keepNamesBelow_14 ?_
      refine J_goto (pc := 17) (tgt := 2) (by decide) dX2_keepNamesBelow_17 ?_
      exact hk2 _ _ g_2
set_option maxHeartbeats 4000000 in
set_option maxRecDepth 100000 in
theorem tX2_keepNamesBelow {ad : Nat → Nat} {ca : Nat → ClassId} {D : va_G} {FU d : Nat} {N : Mem}  {x0 : Nat} {x1 : Int32} {M : Mem}  (h : fX2_keepNamesBelow FU  x0 x1 M = some N) : Ct ad ca D yX2_keepNamesBelow cX2_keepNamesBelow 3 none (d + 1) [vR (some x0), vI x1] M (QV N) := by
  refine Ct_of (by decide) (Nat.le_of_ble_eq_true rfl) ?_
  show J ad ca D cX2_keepNamesBelow RX2 3 (d + 1) (Gt ad ca D none (QV N)) 0 [(0, vR (some x0)), (1, vI x1)] [] M
  unfold fX2_keepNamesBelow at h
  refine J_iconst (pc := 0) (v := (0 : Int32)) (by decide) dX2_keepNamesBelow_0 ?_
  refine J_istore_n (pc := 1) rfl (by decide) (lv' := [(0, vR (some x0)), (1, vI x1), (2, vI (0 : Int32))]) rfl dX2_keepNamesBelow_1 ?_
  exact jX2_keepNamesBelow_L2  FU _ _ h
set_option maxHeartbeats 4000000 in
set_option maxRecDepth 100000 in
theorem jX2_canNameRest_b85 {ad : Nat → Nat} {ca : Nat → ClassId} {D : va_G} {FU d : Nat} {r : Int32} {N : Mem} {g_X2_canNameRest : Nat → Int32 → Mem → Option (Int32 × Mem)} {k32 : Int32 → Mem → Option (Int32 × Mem)} {x0 : Nat} {x1 : Int32} {x2 : Int32} {M : Mem} (H_X2_canNameRest : ∀ (z : Nat) (y0 : Int32) (M : Mem) (r : Int32) (N : Mem), g_X2_canNameRest z y0 M = some (r, N) → Ct ad ca D yX2_canNameRest cX2_canNameRest 3 (some .boolean) d [vR (some z), vI y0] M (QI r N)) (hk32 : ∀ (y2 : Int32) (M : Mem), k32 y2 M = some (r, N) → J ad ca D cX2_canNameRest RX2 3 (d + 1) (Gt ad ca D (some .boolean) (QI r N)) 32 [(0, vR (some x0)), (1, vI x1), (2, vI y2)] [] M) (h : fX2_canNameRest_b85 FU g_X2_canNameRest k32 x0 x1 x2 M = some (r, N)) : J ad ca D cX2_canNameRest RX2 3 (d + 1) (Gt ad ca D (some .boolean) (QI r N)) 85 [(0, vR (some x0)), (1, vI x1), (2, vI x2)] [] M := by
  unfold fX2_canNameRest_b85 at h
  refine J_iinc (pc := 85) (q := 2) rfl (v := x2 + (1 : Int32)) rfl (by decide) (lv' := [(0, vR (some x0)), (1, vI x1), (2, vI (x2 + (1 : Int32)))]) rfl dX2_canNameRest_85 ?_
  refine J_goto (pc := 88) (tgt := 32) (by decide) dX2_canNameRest_88 ?_
  exact hk32 _ _ h
set_option maxHeartbeats 4000000 in
set_option maxRecDepth 100000 in
theorem jX2_canNameRest_L32 {ad : Nat → Nat} {ca : Nat → ClassId} {D : va_G} {FU d : Nat} {r : Int32} {N : Mem} {g_X2_canNameRest : Nat → Int32 → Mem → Option (Int32 × Mem)}  {x0 : Nat} {x1 : Int32} (H_X2_canNameRest : ∀ (z : Nat) (y0 : Int32) (M : Mem) (r : Int32) (N : Mem), g_X2_canNameRest z y0 M = some (r, N) → Ct ad ca D yX2_canNameRest cX2_canNameRest 3 (some .boolean) d [vR (some z), vI y0] M (QI r N))  : ∀ (F : Nat) (x2 : Int32) (M : Mem), fX2_canNameRest_L32 FU g_X2_canNameRest x0 x1 F x2 M = some (r, N) → J ad ca D cX2_canNameRest RX2 3 (d + 1) (Gt ad ca D (some .boolean) (QI r N)) 32 [(0, vR (some x0)), (1, vI x1), (2, vI x2)] [] M := by
  intro F
  induction F with
  | zero =>
    intro x2 M h
    rw [fX2_canNameRest_L32] at h
    cases h
  | succ F hk32 =>
    intro x2 M h
    rw [fX2_canNameRest_L32] at h
    refine J_iload_n (pc := 32) (q := 2) rfl rfl dX2_canNameRest_32 ?_
    refine J_aload_n (pc := 33) (q := 0) rfl rfl dX2_canNameRest_33 ?_
    obtain ⟨a34, h34, g_1⟩ := bnd h
    refine J_getR (pc := 34) (i := 0) clF2 (by decide) rfl fl_RX2_28 h34 dX2_canNameRest_34 ?_
    obtain ⟨a37, h37, g_2⟩ := bnd g_1
    refine J_getI (pc := 37) (i := 0) clF3 (by decide) rfl fl_RX2_46 h37 dX2_canNameRest_37 ?_
    refine J_icge (pc := 40) (tgt := 91) (by decide) dX2_canNameRest_40 (fun hc40 => ?_) (fun hc40 => ?_)
    · rw [if_pos hc40] at g_2
      refine J_iconst (pc := 91) (v := (0 : Int32)) (by decide) dX2_canNameRest_91 ?_
      exact J_zret (pc := 92) (Or.inl rfl) (qi_of g_2) dX2_canNameRest_92
    · rw [if_neg hc40] at g_2
      refine J_aload_n (pc := 43) (q := 0) rfl rfl dX2_canNameRest_43 ?_
      refine J_iload_n (pc := 44) (q := 1) rfl rfl dX2_canNameRest_44 ?_
      refine J_iload_n (pc := 45) (q := 2) rfl rfl dX2_canNameRest_45 ?_
      obtain ⟨b46, hb46, g_3⟩ := bnd g_2
      obtain ⟨r46, M46, h46, g_4⟩ := bnd2 g_3
      refine J_callVI (pc := 46) (as := [vI x1, vI x2]) (tX2_give (d := d)  h46) cf_X2_give cv_X2_give clF2 hb46 ml_RX2_56 (by omega) (Nat.le_of_ble_eq_true rfl) dX2_canNameRest_46 ?_
      refine J_ifeq (pc := 49) (tgt := 85) (by decide) dX2_canNameRest_49 (fun hc49 => ?_) (fun hc49 => ?_)
      · rw [if_pos hc49] at g_4
        exact jX2_canNameRest_b85 H_X2_canNameRest hk32 g_4
      · rw [if_neg hc49] at g_4
        refine J_aload_n (pc := 52) (q := 0) rfl rfl dX2_canNameRest_52 ?_
        refine J_iload_n (pc := 53) (q := 1) rfl rfl dX2_canNameRest_53 ?_
        refine J_iconst (pc := 54) (v := (1 : Int32)) (by decide) dX2_canNameRest_54 ?_
        refine J_iadd (pc := 55) dX2_canNameRest_55 ?_
        obtain ⟨b56, hb56, g_5⟩ := bnd g_4
        obtain ⟨r56, M56, h56, g_6⟩ := bnd2 g_5
        refine J_callVI (pc := 56) (as := [vI (x1 + (1 : Int32))]) (H_X2_canNameRest _ _ _ _ _ h56) cf_X2_canNameRest cv_X2_canNameRest clF2 hb56 ml_RX2_60 (by omega) (Nat.le_of_ble_eq_true rfl) dX2_canNameRest_56 ?_
        refine J_ifeq (pc := 59) (tgt := 64) (by decide) dX2_canNameRest_59 (fun hc59 => ?_) (fun hc59 => ?_)
        · rw [if_pos hc59] at g_6
          refine J_aload_n (pc := 64) (q := 0) rfl rfl dX2_canNameRest_64 ?_
          obtain ⟨a65, h65, g_7⟩ := bnd g_6
          refine J_getR (pc := 65) (i := 4) clF2 (by decide) rfl fl_RX2_22 h65 dX2_canNameRest_65 ?_
          refine J_iload_n (pc := 68) (q := 1) rfl rfl dX2_canNameRest_68 ?_
          refine J_iconst (pc := 69) (v := (-1 : Int32)) (by decide) dX2_canNameRest_69 ?_
          obtain ⟨M70, h70, g_8⟩ := bnd g_7
          refine J_ast0 (pc := 70) h70 dX2_canNameRest_70 ?_
          refine J_aload_n (pc := 71) (q := 0) rfl rfl dX2_canNameRest_71 ?_
          refine J_dup (pc := 72) rfl dX2_canNameRest_72 ?_
          obtain ⟨a73, h73, g_9⟩ := bnd g_8
          refine J_getI (pc := 73) (i := 5) clF2 (by decide) rfl fl_RX2_74 h73 dX2_canNameRest_73 ?_
          refine J_iconst (pc := 76) (v := (1 : Int32)) (by decide) dX2_canNameRest_76 ?_
          refine J_iload_n (pc := 77) (q := 2) rfl rfl dX2_canNameRest_77 ?_
          refine J_ishl (pc := 78) dX2_canNameRest_78 ?_
          refine J_iconst (pc := 79) (v := (-1 : Int32)) (by decide) dX2_canNameRest_79 ?_
          refine J_ixor (pc := 80) dX2_canNameRest_80 ?_
          refine J_iand (pc := 81) dX2_canNameRest_81 ?_
          obtain ⟨M82, h82, g_10⟩ := bnd g_9
          refine J_putI (pc := 82) (i := 5) clF2 (by decide) rfl fl_RX2_74 rfl rfl h82 dX2_canNameRest_82 ?_
          exact jX2_canNameRest_b85 H_X2_canNameRest hk32 g_10
        · rw [if_neg hc59] at g_6
          refine J_iconst (pc := 62) (v := (1 : Int32)) (by decide) dX2_canNameRest_62 ?_
          exact J_zret (pc := 63) (Or.inr rfl) (qi_of g_6) dX2_canNameRest_63
set_option maxHeartbeats 4000000 in
set_option maxRecDepth 100000 in
theorem tX2_canNameRest {ad : Nat → Nat} {ca : Nat → ClassId} {D : va_G} {FU d : Nat} {r : Int32} {N : Mem} {g_X2_canNameRest : Nat → Int32 → Mem → Option (Int32 × Mem)} {x0 : Nat} {x1 : Int32} {M : Mem} (H_X2_canNameRest : ∀ (z : Nat) (y0 : Int32) (M : Mem) (r : Int32) (N : Mem), g_X2_canNameRest z y0 M = some (r, N) → Ct ad ca D yX2_canNameRest cX2_canNameRest 3 (some .boolean) d [vR (some z), vI y0] M (QI r N)) (h : fX2_canNameRest FU g_X2_canNameRest x0 x1 M = some (r, N)) : Ct ad ca D yX2_canNameRest cX2_canNameRest 3 (some .boolean) (d + 1) [vR (some x0), vI x1] M (QI r N) := by
  refine Ct_of (by decide) (Nat.le_of_ble_eq_true rfl) ?_
  show J ad ca D cX2_canNameRest RX2 3 (d + 1) (Gt ad ca D (some .boolean) (QI r N)) 0 [(0, vR (some x0)), (1, vI x1)] [] M
  unfold fX2_canNameRest at h
  refine J_iload_n (pc := 0) (q := 1) rfl rfl dX2_canNameRest_0 ?_
  refine J_aload_n (pc := 1) (q := 0) rfl rfl dX2_canNameRest_1 ?_
  obtain ⟨a2, h2, g_11⟩ := bnd h
  refine J_getR (pc := 2) (i := 0) clF2 (by decide) rfl fl_RX2_28 h2 dX2_canNameRest_2 ?_
  obtain ⟨a5, h5, g_12⟩ := bnd g_11
  refine J_getI (pc := 5) (i := 0) clF3 (by decide) rfl fl_RX2_46 h5 dX2_canNameRest_5 ?_
  refine J_iclt (pc := 8) (tgt := 13) (by decide) dX2_canNameRest_8 (fun hc8 => ?_) (fun hc8 => ?_)
  · rw [if_pos hc8] at g_12
    refine J_aload_n (pc := 13) (q := 0) rfl rfl dX2_canNameRest_13 ?_
    obtain ⟨a14, h14, g_13⟩ := bnd g_12
    refine J_getR (pc := 14) (i := 4) clF2 (by decide) rfl fl_RX2_22 h14 dX2_canNameRest_14 ?_
    refine J_iload_n (pc := 17) (q := 1) rfl rfl dX2_canNameRest_17 ?_
    obtain ⟨a18, h18, g_14⟩ := bnd g_13
    refine J_ald0 (pc := 18) h18 dX2_canNameRest_18 ?_
    refine J_iflt (pc := 19) (tgt := 30) (by decide) dX2_canNameRest_19 (fun hc19 => ?_) (fun hc19 => ?_)
    · rw [if_pos hc19] at g_14
      refine J_iconst (pc := 30) (v := (0 : Int32)) (by decide) dX2_canNameRest_30 ?_
      refine J_istore_n (pc := 31) rfl (by decide) (lv' := [(0, vR (some x0)), (1, vI x1), (2, vI (0 : Int32))]) rfl dX2_canNameRest_31 ?_
      exact jX2_canNameRest_L32 H_X2_canNameRest FU _ _ g_14
    · rw [if_neg hc19] at g_14
      refine J_aload_n (pc := 22) (q := 0) rfl rfl dX2_canNameRest_22 ?_
      refine J_iload_n (pc := 23) (q := 1) rfl rfl dX2_canNameRest_23 ?_
      refine J_iconst (pc := 24) (v := (1 : Int32)) (by decide) dX2_canNameRest_24 ?_
      refine J_iadd (pc := 25) dX2_canNameRest_25 ?_
      obtain ⟨b26, hb26, g_15⟩ := bnd g_14
      obtain ⟨r26, M26, h26, g_16⟩ := bnd2 g_15
      refine J_callVI (pc := 26) (as := [vI (x1 + (1 : Int32))]) (H_X2_canNameRest _ _ _ _ _ h26) cf_X2_canNameRest cv_X2_canNameRest clF2 hb26 ml_RX2_60 (by omega) (Nat.le_of_ble_eq_true rfl) dX2_canNameRest_26 ?_
      obtain ⟨hz29, g_17⟩ := grd g_16
      exact J_zret (pc := 29) hz29 (qi_of g_17) dX2_canNameRest_29
  · rw [if_neg hc8] at g_12
    refine J_iconst (pc := 11) (v := (1 : Int32)) (by decide) dX2_canNameRest_11 ?_
    exact J_zret (pc := 12) (Or.inr rfl) (qi_of g_12) dX2_canNameRest_12
theorem tqX2_canNameRest {ad : Nat → Nat} {ca : Nat → ClassId} {D : va_G} {FU : Nat} : ∀ (n d : Nat) {x0 : Nat} {x1 : Int32} {M : Mem} {r : Int32} {N : Mem}, qX2_canNameRest FU n x0 x1 M = some (r, N) → Ct ad ca D yX2_canNameRest cX2_canNameRest 3 (some .boolean) (d + n * 1) [vR (some x0), vI x1] M (QI r N) := by
  intro n
  induction n with
  | zero => intro d x0 x1 M r N h; cases h
  | succ n ih =>
    intro d x0 x1 M r N h
    have h2 := tX2_canNameRest (ad := ad) (ca := ca) (D := D) (FU := FU) (d := d + n * 1) (g_X2_canNameRest := qX2_canNameRest FU n) (fun z y0 M r N h => ih d h) h
    rw [show d + (n + 1) * 1 = d + n * 1 + 1 by omega]
    exact h2
set_option maxHeartbeats 4000000 in
set_option maxRecDepth 100000 in
theorem jX2_countOf_b80 {ad : Nat → Nat} {ca : Nat → ClassId} {D : va_G} {FU d : Nat} {r : Int32} {N : Mem}  {k21 : Int32 → Int32 → Mem → Option (Int32 × Mem)} {k38 : Int32 → Int32 → Mem → Option (Int32 × Mem)} {x0 : Nat} {x2 : Int32} {x3 : Int32} {x4 : Int32} {x5 : Int32} {M : Mem}  (hk21 : ∀ (y2 : Int32) (y3 : Int32) (M : Mem), k21 y2 y3 M = some (r, N) → J ad ca D cX2_countOf RX2 6 (d + 11) (Gt ad ca D (some .int) (QI r N)) 21 [(0, vR (some x0)), (2, vI y2), (3, vI y3)] [] M) (hk38 : ∀ (y4 : Int32) (y5 : Int32) (M : Mem), k38 y4 y5 M = some (r, N) → J ad ca D cX2_countOf RX2 6 (d + 11) (Gt ad ca D (some .int) (QI r N)) 38 [(0, vR (some x0)), (2, vI x2), (3, vI x3), (4, vI y4), (5, vI y5)] [] M) (h : fX2_countOf_b80 FU  k21 k38 x0 x2 x3 x4 x5 M = some (r, N)) : J ad ca D cX2_countOf RX2 6 (d + 11) (Gt ad ca D (some .int) (QI r N)) 80 [(0, vR (some x0)), (2, vI x2), (3, vI x3), (4, vI x4), (5, vI x5)] [] M := by
  unfold fX2_countOf_b80 at h
  refine J_iinc (pc := 80) (q := 4) rfl (v := x5 + (1 : Int32)) rfl (by decide) (lv' := [(0, vR (some x0)), (2, vI x2), (3, vI x3), (4, vI x4), (5, vI (x5 + (1 : Int32)))]) rfl dX2_countOf_80 ?_
  refine J_goto (pc := 83) (tgt := 38) (by decide) dX2_countOf_83 ?_
  exact hk38 _ _ _ h
set_option maxHeartbeats 4000000 in
set_option maxRecDepth 100000 in
theorem jX2_countOf_L38 {ad : Nat → Nat} {ca : Nat → ClassId} {D : va_G} {FU d : Nat} {r : Int32} {N : Mem}  {k21 : Int32 → Int32 → Mem → Option (Int32 × Mem)} {x0 : Nat} {x2 : Int32} {x3 : Int32}  (hk21 : ∀ (y2 : Int32) (y3 : Int32) (M : Mem), k21 y2 y3 M = some (r, N) → J ad ca D cX2_countOf RX2 6 (d + 11) (Gt ad ca D (some .int) (QI r N)) 21 [(0, vR (some x0)), (2, vI y2), (3, vI y3)] [] M) : ∀ (F : Nat) (x4 : Int32) (x5 : Int32) (M : Mem), fX2_countOf_L38 FU  k21 x0 x2 x3 F x4 x5 M = some (r, N) → J ad ca D cX2_countOf RX2 6 (d + 11) (Gt ad ca D (some .int) (QI r N)) 38 [(0, vR (some x0)), (2, vI x2), (3, vI x3), (4, vI x4), (5, vI x5)] [] M := by
  intro F
  induction F with
  | zero =>
    intro x4 x5 M h
    rw [fX2_countOf_L38] at h
    cases h
  | succ F hk38 =>
    intro x4 x5 M h
    rw [fX2_countOf_L38] at h
    refine J_iload (pc := 38) (q := 4) rfl dX2_countOf_38 ?_
    refine J_aload_n (pc := 40) (q := 0) rfl rfl dX2_countOf_40 ?_
    obtain ⟨a41, h41, g_1⟩ := bnd h
    refine J_getR (pc := 41) (i := 0) clF2 (by decide) rfl fl_RX2_28 h41 dX2_countOf_41 ?_
    obtain ⟨a44, h44, g_2⟩ := bnd g_1
    refine J_getI (pc := 44) (i := 0) clF3 (by decide) rfl fl_RX2_46 h44 dX2_countOf_44 ?_
    refine J_icge (pc := 47) (tgt := 86) (by decide) dX2_countOf_47 (fun hc47 => ?_) (fun hc47 => ?_)
    · rw [if_pos hc47] at g_2
      refine J_iload_n (pc := 86) (q := 1) rfl rfl dX2_countOf_86 ?_
      refine J_iload (pc := 87) (q := 3) rfl dX2_countOf_87 ?_
      refine J_imul (pc := 89) dX2_countOf_89 ?_
      refine J_istore_n (pc := 90) rfl (by decide) (lv' := [(0, vR (some x0)), (3, vI x3), (4, vI x4), (5, vI x5), (2, vI (x2 * x4))]) rfl dX2_countOf_90 ?_
      refine J_iinc (pc := 91) (q := 1) rfl (v := x3 + (1 : Int32)) rfl (by decide) (lv' := [(0, vR (some x0)), (4, vI x4), (5, vI x5), (2, vI (x2 * x4)), (3, vI (x3 + (1 : Int32)))]) rfl dX2_countOf_91 ?_
      refine J_goto (pc := 94) (tgt := 21) (by decide) dX2_countOf_94 ?_
      refine J_sub [0, 3, 4] (lv' := [(0, vR (some x0)), (2, vI (x2 * x4)), (3, vI (x3 + (1 : Int32)))]) rfl ?_
      exact hk21 _ _ _ g_2
    · rw [if_neg hc47] at g_2
      refine J_aload_n (pc := 50) (q := 0) rfl rfl dX2_countOf_50 ?_
      obtain ⟨b51, hb51, g_3⟩ := bnd g_2
      obtain ⟨M51, h51, g_4⟩ := bnd g_3
      refine J_callVV (pc := 51) (as := []) (tX2_forgetNames (d := d)  h51) cf_X2_forgetNames cv_X2_forgetNames clF2 hb51 ml_RX2_49 (by omega) (Nat.le_of_ble_eq_true rfl) dX2_countOf_51 ?_
      refine J_aload_n (pc := 54) (q := 0) rfl rfl dX2_countOf_54 ?_
      refine J_iload_n (pc := 55) (q := 2) rfl rfl dX2_countOf_55 ?_
      obtain ⟨b56, hb56, g_5⟩ := bnd g_4
      obtain ⟨M56, h56, g_6⟩ := bnd g_5
      refine J_callVV (pc := 56) (as := [vI x3]) (tX2_keepNamesBelow (d := d)  h56) cf_X2_keepNamesBelow cv_X2_keepNamesBelow clF2 hb56 ml_RX2_52 (by omega) (Nat.le_of_ble_eq_true rfl) dX2_countOf_56 ?_
      refine J_aload_n (pc := 59) (q := 0) rfl rfl dX2_countOf_59 ?_
      refine J_iload_n (pc := 60) (q := 2) rfl rfl dX2_countOf_60 ?_
      refine J_iload (pc := 61) (q := 4) rfl dX2_countOf_61 ?_
      obtain ⟨b63, hb63, g_7⟩ := bnd g_6
      obtain ⟨r63, M63, h63, g_8⟩ := bnd2 g_7
      refine J_callVI (pc := 63) (as := [vI x3, vI x5]) (tX2_give (d := d)  h63) cf_X2_give cv_X2_give clF2 hb63 ml_RX2_56 (by omega) (Nat.le_of_ble_eq_true rfl) dX2_countOf_63 ?_
      refine J_ifeq (pc := 66) (tgt := 80) (by decide) dX2_countOf_66 (fun hc66 => ?_) (fun hc66 => ?_)
      · rw [if_pos hc66] at g_8
        exact jX2_countOf_b80 hk21 hk38 g_8
      · rw [if_neg hc66] at g_8
        refine J_aload_n (pc := 69) (q := 0) rfl rfl dX2_countOf_69 ?_
        refine J_iconst (pc := 70) (v := (0 : Int32)) (by decide) dX2_countOf_70 ?_
        obtain ⟨b71, hb71, g_9⟩ := bnd g_8
        obtain ⟨r71, M71, h71, g_10⟩ := bnd2 g_9
        refine J_callVI (pc := 71) (as := [vI (0 : Int32)]) (tqX2_canNameRest 10 d h71) cf_X2_canNameRest cv_X2_canNameRest clF2 hb71 ml_RX2_60 (by omega) (Nat.le_of_ble_eq_true rfl) dX2_countOf_71 ?_
        refine J_ifeq (pc := 74) (tgt := 80) (by decide) dX2_countOf_74 (fun hc74 => ?_) (fun hc74 => ?_)
        · rw [if_pos hc74] at g_10
          exact jX2_countOf_b80 hk21 hk38 g_10
        · rw [if_neg hc74] at g_10
          refine J_iinc (pc := 77) (q := 3) rfl (v := x4 + (1 : Int32)) rfl (by decide) (lv' := [(0, vR (some x0)), (2, vI x2), (3, vI x3), (5, vI x5), (4, vI (x4 + (1 : Int32)))]) rfl dX2_countOf_77 ?_
          refine J_sub [0, 1, 2, 4, 3] (lv' := [(0, vR (some x0)), (2, vI x2), (3, vI x3), (4, vI (x4 + (1 : Int32))), (5, vI x5)]) rfl ?_
          exact jX2_countOf_b80 hk21 hk38 g_10
set_option maxHeartbeats 4000000 in
set_option maxRecDepth 100000 in
theorem jX2_countOf_L21 {ad : Nat → Nat} {ca : Nat → ClassId} {D : va_G} {FU d : Nat} {r : Int32} {N : Mem}   {x0 : Nat}   : ∀ (F : Nat) (x2 : Int32) (x3 : Int32) (M : Mem), fX2_countOf_L21 FU  x0 F x2 x3 M = some (r, N) → J ad ca D cX2_countOf RX2 6 (d + 11) (Gt ad ca D (some .int) (QI r N)) 21 [(0, vR (some x0)), (2, vI x2), (3, vI x3)] [] M := by
  intro F
  induction F with
  | zero =>
    intro x2 x3 M h
    rw [fX2_countOf_L21] at h
    cases h
  | succ F hk21 =>
    intro x2 x3 M h
    rw [fX2_countOf_L21] at h
    refine J_iload_n (pc := 21) (q := 2) rfl rfl dX2_countOf_21 ?_
    refine J_aload_n (pc := 22) (q := 0) rfl rfl dX2_countOf_22 ?_
    obtain ⟨a23, h23, g_11⟩ := bnd h
    refine J_getR (pc := 23) (i := 0) clF2 (by decide) rfl fl_RX2_28 h23 dX2_countOf_23 ?_
    obtain ⟨a26, h26, g_12⟩ := bnd g_11
    refine J_getI (pc := 26) (i := 0) clF3 (by decide) rfl fl_RX2_46 h26 dX2_countOf_26 ?_
    refine J_icge (pc := 29) (tgt := 97) (by decide) dX2_countOf_29 (fun hc29 => ?_) (fun hc29 => ?_)
    · rw [if_pos hc29] at g_12
      refine J_aload_n (pc := 97) (q := 0) rfl rfl dX2_countOf_97 ?_
      refine J_iload_n (pc := 98) (q := 1) rfl rfl dX2_countOf_98 ?_
      obtain ⟨M99, h99, g_13⟩ := bnd g_12
      refine J_putI (pc := 99) (i := 2) clF2 (by decide) rfl fl_RX2_15 rfl rfl h99 dX2_countOf_99 ?_
      refine J_aload_n (pc := 102) (q := 0) rfl rfl dX2_countOf_102 ?_
      obtain ⟨a103, h103, g_14⟩ := bnd g_13
      refine J_getI (pc := 103) (i := 2) clF2 (by decide) rfl fl_RX2_15 h103 dX2_countOf_103 ?_
      exact J_iret (pc := 106) (qi_of g_14) dX2_countOf_106
    · rw [if_neg hc29] at g_12
      refine J_iconst (pc := 32) (v := (0 : Int32)) (by decide) dX2_countOf_32 ?_
      refine J_istore (pc := 33) (by decide) (lv' := [(0, vR (some x0)), (2, vI x2), (3, vI x3), (4, vI (0 : Int32))]) rfl dX2_countOf_33 ?_
      refine J_iload_n (pc := 35) (q := 2) rfl rfl dX2_countOf_35 ?_
      refine J_istore (pc := 36) (by decide) (lv' := [(0, vR (some x0)), (2, vI x2), (3, vI x3), (4, vI (0 : Int32)), (5, vI x3)]) rfl dX2_countOf_36 ?_
      exact jX2_countOf_L38 hk21 FU _ _ _ g_12
set_option maxHeartbeats 4000000 in
set_option maxRecDepth 100000 in
theorem tX2_countOf {ad : Nat → Nat} {ca : Nat → ClassId} {D : va_G} {FU d : Nat} {r : Int32} {N : Mem}  {x0 : Nat} {x1 : Option Nat} {M : Mem}  (h : fX2_countOf FU  x0 x1 M = some (r, N)) : Ct ad ca D yX2_countOf cX2_countOf 6 (some .int) (d + 11) [vR (some x0), vR x1] M (QI r N) := by
  refine Ct_of (by decide) (Nat.le_of_ble_eq_true rfl) ?_
  show J ad ca D cX2_countOf RX2 6 (d + 11) (Gt ad ca D (some .int) (QI r N)) 0 [(0, vR (some x0)), (1, vR x1)] [] M
  unfold fX2_countOf at h
  refine J_aload_n (pc := 0) (q := 0) rfl rfl dX2_countOf_0 ?_
  refine J_aload_n (pc := 1) (q := 1) rfl rfl dX2_countOf_1 ?_
  obtain ⟨b2, hb2, g_15⟩ := bnd h
  obtain ⟨M2, h2, g_16⟩ := bnd g_15
  refine J_callVV (pc := 2) (as := [vR x1]) (tX2_take (d := d)  h2) cf_X2_take cv_X2_take clF2 hb2 ml_RX2_42 (by omega) (Nat.le_of_ble_eq_true rfl) dX2_countOf_2 ?_
  refine J_aload_n (pc := 5) (q := 0) rfl rfl dX2_countOf_5 ?_
  obtain ⟨a6, h6, g_17⟩ := bnd g_16
  refine J_getI (pc := 6) (i := 2) clF2 (by decide) rfl fl_RX2_15 h6 dX2_countOf_6 ?_
  refine J_iflt (pc := 9) (tgt := 17) (by decide) dX2_countOf_9 (fun hc9 => ?_) (fun hc9 => ?_)
  · rw [if_pos hc9] at g_17
    refine J_iconst (pc := 17) (v := (1 : Int32)) (by decide) dX2_countOf_17 ?_
    refine J_istore_n (pc := 18) rfl (by decide) (lv' := [(0, vR (some x0)), (1, vR x1), (2, vI (1 : Int32))]) rfl dX2_countOf_18 ?_
    refine J_iconst (pc := 19) (v := (0 : Int32)) (by decide) dX2_countOf_19 ?_
    refine J_istore_n (pc := 20) rfl (by decide) (lv' := [(0, vR (some x0)), (1, vR x1), (2, vI (1 : Int32)), (3, vI (0 : Int32))]) rfl dX2_countOf_20 ?_
    refine J_sub [0, 2, 3] (lv' := [(0, vR (some x0)), (2, vI (1 : Int32)), (3, vI (0 : Int32))]) rfl ?_
    exact jX2_countOf_L21  FU _ _ _ g_17
  · rw [if_neg hc9] at g_17
    refine J_aload_n (pc := 12) (q := 0) rfl rfl dX2_countOf_12 ?_
    obtain ⟨a13, h13, g_18⟩ := bnd g_17
    refine J_getI (pc := 13) (i := 2) clF2 (by decide) rfl fl_RX2_15 h13 dX2_countOf_13 ?_
    exact J_iret (pc := 16) (qi_of g_18) dX2_countOf_16
set_option maxHeartbeats 4000000 in
set_option maxRecDepth 100000 in
theorem tX2_canTurn {ad : Nat → Nat} {ca : Nat → ClassId} {D : va_G} {FU d : Nat} {r : Int32} {N : Mem}  {x0 : Nat} {x1 : Int32} {x2 : Int32} {x3 : Int32} {x4 : Int32} {M : Mem}  (h : fX2_canTurn FU  x0 x1 x2 x3 x4 M = some (r, N)) : Ct ad ca D yX2_canTurn cX2_canTurn 5 (some .boolean) (d + 11) [vR (some x0), vI x1, vI x2, vI x3, vI x4] M (QI r N) := by
  refine Ct_of (by decide) (Nat.le_of_ble_eq_true rfl) ?_
  show J ad ca D cX2_canTurn RX2 5 (d + 11) (Gt ad ca D (some .boolean) (QI r N)) 0 [(0, vR (some x0)), (1, vI x1), (2, vI x2), (3, vI x3), (4, vI x4)] [] M
  unfold fX2_canTurn at h
  refine J_aload_n (pc := 0) (q := 0) rfl rfl dX2_canTurn_0 ?_
  obtain ⟨b1, hb1, g_1⟩ := bnd h
  obtain ⟨M1, h1, g_2⟩ := bnd g_1
  refine J_callVV (pc := 1) (as := []) (tX2_forgetNames (d := d)  h1) cf_X2_forgetNames cv_X2_forgetNames clF2 hb1 ml_RX2_49 (by omega) (Nat.le_of_ble_eq_true rfl) dX2_canTurn_1 ?_
  refine J_aload_n (pc := 4) (q := 0) rfl rfl dX2_canTurn_4 ?_
  refine J_iload_n (pc := 5) (q := 1) rfl rfl dX2_canTurn_5 ?_
  refine J_iconst (pc := 6) (v := (3 : Int32)) (by decide) dX2_canTurn_6 ?_
  refine J_ishr (pc := 7) dX2_canTurn_7 ?_
  refine J_iload_n (pc := 8) (q := 3) rfl rfl dX2_canTurn_8 ?_
  refine J_iconst (pc := 9) (v := (3 : Int32)) (by decide) dX2_canTurn_9 ?_
  refine J_ishr (pc := 10) dX2_canTurn_10 ?_
  obtain ⟨b11, hb11, g_3⟩ := bnd g_2
  obtain ⟨r11, M11, h11, g_4⟩ := bnd2 g_3
  refine J_callVI (pc := 11) (as := [vI (x1 >>> ((3 : Int32) &&& 31)), vI (x3 >>> ((3 : Int32) &&& 31))]) (tX2_give (d := d)  h11) cf_X2_give cv_X2_give clF2 hb11 ml_RX2_56 (by omega) (Nat.le_of_ble_eq_true rfl) dX2_canTurn_11 ?_
  refine J_ifeq (pc := 14) (tgt := 54) (by decide) dX2_canTurn_14 (fun hc14 => ?_) (fun hc14 => ?_)
  · rw [if_pos hc14] at g_4
    refine J_iconst (pc := 54) (v := (0 : Int32)) (by decide) dX2_canTurn_54 ?_
    exact J_zret (pc := 55) (Or.inl rfl) (qi_of g_4) dX2_canTurn_55
  · rw [if_neg hc14] at g_4
    refine J_aload_n (pc := 17) (q := 0) rfl rfl dX2_canTurn_17 ?_
    refine J_iload_n (pc := 18) (q := 1) rfl rfl dX2_canTurn_18 ?_
    refine J_bipush (pc := 19) (v := (7 : Int32)) (by decide) dX2_canTurn_19 ?_
    refine J_iand (pc := 21) dX2_canTurn_21 ?_
    refine J_iload_n (pc := 22) (q := 3) rfl rfl dX2_canTurn_22 ?_
    refine J_bipush (pc := 23) (v := (7 : Int32)) (by decide) dX2_canTurn_23 ?_
    refine J_iand (pc := 25) dX2_canTurn_25 ?_
    obtain ⟨b26, hb26, g_5⟩ := bnd g_4
    obtain ⟨r26, M26, h26, g_6⟩ := bnd2 g_5
    refine J_callVI (pc := 26) (as := [vI (x1 &&& (7 : Int32)), vI (x3 &&& (7 : Int32))]) (tX2_give (d := d)  h26) cf_X2_give cv_X2_give clF2 hb26 ml_RX2_56 (by omega) (Nat.le_of_ble_eq_true rfl) dX2_canTurn_26 ?_
    refine J_ifeq (pc := 29) (tgt := 54) (by decide) dX2_canTurn_29 (fun hc29 => ?_) (fun hc29 => ?_)
    · rw [if_pos hc29] at g_6
      refine J_iconst (pc := 54) (v := (0 : Int32)) (by decide) dX2_canTurn_54 ?_
      exact J_zret (pc := 55) (Or.inl rfl) (qi_of g_6) dX2_canTurn_55
    · rw [if_neg hc29] at g_6
      refine J_aload_n (pc := 32) (q := 0) rfl rfl dX2_canTurn_32 ?_
      refine J_iload_n (pc := 33) (q := 2) rfl rfl dX2_canTurn_33 ?_
      refine J_iload (pc := 34) (q := 4) rfl dX2_canTurn_34 ?_
      obtain ⟨b36, hb36, g_7⟩ := bnd g_6
      obtain ⟨r36, M36, h36, g_8⟩ := bnd2 g_7
      refine J_callVI (pc := 36) (as := [vI x2, vI x4]) (tX2_give (d := d)  h36) cf_X2_give cv_X2_give clF2 hb36 ml_RX2_56 (by omega) (Nat.le_of_ble_eq_true rfl) dX2_canTurn_36 ?_
      refine J_ifeq (pc := 39) (tgt := 54) (by decide) dX2_canTurn_39 (fun hc39 => ?_) (fun hc39 => ?_)
      · rw [if_pos hc39] at g_8
        refine J_iconst (pc := 54) (v := (0 : Int32)) (by decide) dX2_canTurn_54 ?_
        exact J_zret (pc := 55) (Or.inl rfl) (qi_of g_8) dX2_canTurn_55
      · rw [if_neg hc39] at g_8
        refine J_aload_n (pc := 42) (q := 0) rfl rfl dX2_canTurn_42 ?_
        refine J_iconst (pc := 43) (v := (0 : Int32)) (by decide) dX2_canTurn_43 ?_
        obtain ⟨b44, hb44, g_9⟩ := bnd g_8
        obtain ⟨r44, M44, h44, g_10⟩ := bnd2 g_9
        refine J_callVI (pc := 44) (as := [vI (0 : Int32)]) (tqX2_canNameRest 10 d h44) cf_X2_canNameRest cv_X2_canNameRest clF2 hb44 ml_RX2_60 (by omega) (Nat.le_of_ble_eq_true rfl) dX2_canTurn_44 ?_
        refine J_ifeq (pc := 47) (tgt := 54) (by decide) dX2_canTurn_47 (fun hc47 => ?_) (fun hc47 => ?_)
        · rw [if_pos hc47] at g_10
          refine J_iconst (pc := 54) (v := (0 : Int32)) (by decide) dX2_canTurn_54 ?_
          exact J_zret (pc := 55) (Or.inl rfl) (qi_of g_10) dX2_canTurn_55
        · rw [if_neg hc47] at g_10
          refine J_iconst (pc := 50) (v := (1 : Int32)) (by decide) dX2_canTurn_50 ?_
          refine J_goto (pc := 51) (tgt := 55) (by decide) dX2_canTurn_51 ?_
          exact J_zret (pc := 55) (Or.inr rfl) (qi_of g_10) dX2_canTurn_55
set_option maxHeartbeats 4000000 in
set_option maxRecDepth 100000 in
theorem tX6_rowTold {ad : Nat → Nat} {ca : Nat → ClassId} {D : va_G} {FU d : Nat} {r : Int32} {N : Mem}  {x0 : Int32} {x1 : Int32} {M : Mem}  (h : fX6_rowTold FU  x0 x1 M = some (r, N)) : Ct ad ca D yX6_rowTold cX6_rowTold 2 (some .int) (d + 0) [vI x0, vI x1] M (QI r N) := by
  refine Ct_of (by decide) (Nat.le_of_ble_eq_true rfl) ?_
  show J ad ca D cX6_rowTold RX6 2 (d + 0) (Gt ad ca D (some .int) (QI r N)) 0 [(0, vI x0), (1, vI x1)] [] M
  unfold fX6_rowTold at h
  refine J_bipush (pc := 0) (v := (100 : Int32)) (by decide) dX6_rowTold_0 ?_
  refine J_iload_n (pc := 2) (q := 0) rfl rfl dX6_rowTold_2 ?_
  refine J_iconst (pc := 3) (v := (3 : Int32)) (by decide) dX6_rowTold_3 ?_
  refine J_ishr (pc := 4) dX6_rowTold_4 ?_
  refine J_imul (pc := 5) dX6_rowTold_5 ?_
  refine J_bipush (pc := 6) (v := (10 : Int32)) (by decide) dX6_rowTold_6 ?_
  refine J_iload_n (pc := 8) (q := 0) rfl rfl dX6_rowTold_8 ?_
  refine J_bipush (pc := 9) (v := (7 : Int32)) (by decide) dX6_rowTold_9 ?_
  refine J_iand (pc := 11) dX6_rowTold_11 ?_
  refine J_imul (pc := 12) dX6_rowTold_12 ?_
  refine J_iadd (pc := 13) dX6_rowTold_13 ?_
  refine J_iload_n (pc := 14) (q := 1) rfl rfl dX6_rowTold_14 ?_
  refine J_iadd (pc := 15) dX6_rowTold_15 ?_
  exact J_iret (pc := 16) (qi_of h) dX6_rowTold_16
set_option maxHeartbeats 4000000 in
set_option maxRecDepth 100000 in
theorem jX2_leastRow_b97 {ad : Nat → Nat} {ca : Nat → ClassId} {D : va_G} {FU d : Nat} {r : Int32} {N : Mem}   {x4 : Int32} {x7 : Int32} {M : Mem}   (h : fX2_leastRow_b97 FU  x4 x7 M = some (r, N)) : J ad ca D cX2_leastRow RX2 8 (d + 12) (Gt ad ca D (some .int) (QI r N)) 97 [(4, vI x4), (7, vI x7)] [] M := by
  unfold fX2_leastRow_b97 at h
  refine J_iload (pc := 97) (q := 0) rfl dX2_leastRow_97 ?_
  refine J_iload (pc := 99) (q := 1) rfl dX2_leastRow_99 ?_
  obtain ⟨r101, M101, h101, g_1⟩ := bnd2 h
  refine J_callSI (pc := 101) (as := [vI x4, vI x7]) (tX6_rowTold (d := d)  h101) cf_X6_rowTold cv_X6_rowTold ml_RX2_68 (by omega) (Nat.le_of_ble_eq_true rfl) dX2_leastRow_101 ?_
  exact J_iret (pc := 104) (qi_of g_1) dX2_leastRow_104
set_option maxHeartbeats 4000000 in
set_option maxRecDepth 100000 in
theorem jX2_leastRow_b111 {ad : Nat → Nat} {ca : Nat → ClassId} {D : va_G} {FU d : Nat} {r : Int32} {N : Mem}  {k8 : Int32 → Mem → Option (Int32 × Mem)} {x0 : Nat} {x2 : Int32} {x3 : Int32} {x4 : Int32} {M : Mem}  (hk8 : ∀ (y4 : Int32) (M : Mem), k8 y4 M = some (r, N) → J ad ca D cX2_leastRow RX2 8 (d + 12) (Gt ad ca D (some .int) (QI r N)) 8 [(0, vR (some x0)), (2, vI x2), (3, vI x3), (4, vI y4)] [] M) (h : fX2_leastRow_b111 FU  k8 x0 x2 x3 x4 M = some (r, N)) : J ad ca D cX2_leastRow RX2 8 (d + 12) (Gt ad ca D (some .int) (QI r N)) 111 [(0, vR (some x0)), (2, vI x2), (3, vI x3), (4, vI x4)] [] M := by
  unfold fX2_leastRow_b111 at h
  refine J_iinc (pc := 111) (q := 3) rfl (v := x4 + (1 : Int32)) rfl (by decide) (lv' := [(0, vR (some x0)), (2, vI x2), (3, vI x3), (4, vI (x4 + (1 : Int32)))]) rfl dX2_leastRow_111 ?_
  refine J_goto (pc := 114) (tgt := 8) (by decide) dX2_leastRow_114 ?_
  exact hk8 _ _ h
set_option maxHeartbeats 4000000 in
set_option maxRecDepth 100000 in
theorem jX2_leastRow_L53 {ad : Nat → Nat} {ca : Nat → ClassId} {D : va_G} {FU d : Nat} {r : Int32} {N : Mem}  {k8 : Int32 → Mem → Option (Int32 × Mem)} {x0 : Nat} {x2 : Int32} {x3 : Int32} {x4 : Int32} {x5 : Int32} {x6 : Int32}  (hk8 : ∀ (y4 : Int32) (M : Mem), k8 y4 M = some (r, N) → J ad ca D cX2_leastRow RX2 8 (d + 12) (Gt ad ca D (some .int) (QI r N)) 8 [(0, vR (some x0)), (2, vI x2), (3, vI x3), (4, vI y4)] [] M) : ∀ (F : Nat) (x7 : Int32) (M : Mem), fX2_leastRow_L53 FU  k8 x0 x2 x3 x4 x5 x6 F x7 M = some (r, N) → J ad ca D cX2_leastRow RX2 8 (d + 12) (Gt ad ca D (some .int) (QI r N)) 53 [(0, vR (some x0)), (2, vI x2), (3, vI x3), (4, vI x4), (5, vI x5), (6, vI x6), (7, vI x7)] [] M := by
  intro F
  induction F with
  | zero =>
    intro x7 M h
    rw [fX2_leastRow_L53] at h
    cases h
  | succ F hk53 =>
    intro x7 M h
    rw [fX2_leastRow_L53] at h
    refine J_iload (pc := 53) (q := 6) rfl dX2_leastRow_53 ?_
    refine J_aload_n (pc := 55) (q := 0) rfl rfl dX2_leastRow_55 ?_
    obtain ⟨a56, h56, g_2⟩ := bnd h
    refine J_getR (pc := 56) (i := 0) clF2 (by decide) rfl fl_RX2_28 h56 dX2_leastRow_56 ?_
    obtain ⟨a59, h59, g_3⟩ := bnd g_2
    refine J_getI (pc := 59) (i := 0) clF3 (by decide) rfl fl_RX2_46 h59 dX2_leastRow_59 ?_
    refine J_icge (pc := 62) (tgt := 111) (by decide) dX2_leastRow_62 (fun hc62 => ?_) (fun hc62 => ?_)
    · rw [if_pos hc62] at g_3
      refine J_sub [0, 1, 2, 3] (lv' := [(0, vR (some x0)), (2, vI x2), (3, vI x3), (4, vI x4)]) rfl ?_
      exact jX2_leastRow_b111 hk8 g_3
    · rw [if_neg hc62] at g_3
      refine J_aload_n (pc := 65) (q := 0) rfl rfl dX2_leastRow_65 ?_
      refine J_iload_n (pc := 66) (q := 1) rfl rfl dX2_leastRow_66 ?_
      refine J_iload_n (pc := 67) (q := 2) rfl rfl dX2_leastRow_67 ?_
      refine J_iload (pc := 68) (q := 3) rfl dX2_leastRow_68 ?_
      refine J_iload (pc := 70) (q := 6) rfl dX2_leastRow_70 ?_
      obtain ⟨b72, hb72, g_4⟩ := bnd g_3
      obtain ⟨r72, M72, h72, g_5⟩ := bnd2 g_4
      refine J_callVI (pc := 72) (as := [vI x2, vI x3, vI x4, vI x7]) (tX2_canTurn (d := d)  h72) cf_X2_canTurn cv_X2_canTurn clF2 hb72 ml_RX2_64 (by omega) (Nat.le_of_ble_eq_true rfl) dX2_leastRow_72 ?_
      refine J_ifne (pc := 75) (tgt := 97) (by decide) dX2_leastRow_75 (fun hc75 => ?_) (fun hc75 => ?_)
      · rw [if_pos hc75] at g_5
        refine J_sub [3, 6] (lv' := [(4, vI x4), (7, vI x7)]) rfl ?_
        exact jX2_leastRow_b97  g_5
      · rw [if_neg hc75] at g_5
        refine J_aload_n (pc := 78) (q := 0) rfl rfl dX2_leastRow_78 ?_
        refine J_iload_n (pc := 79) (q := 1) rfl rfl dX2_leastRow_79 ?_
        refine J_iload_n (pc := 80) (q := 2) rfl rfl dX2_leastRow_80 ?_
        refine J_iload (pc := 81) (q := 5) rfl dX2_leastRow_81 ?_
        refine J_bipush (pc := 83) (v := (8 : Int32)) (by decide) dX2_leastRow_83 ?_
        refine J_imul (pc := 85) dX2_leastRow_85 ?_
        refine J_iload (pc := 86) (q := 4) rfl dX2_leastRow_86 ?_
        refine J_iadd (pc := 88) dX2_leastRow_88 ?_
        refine J_iload (pc := 89) (q := 6) rfl dX2_leastRow_89 ?_
        obtain ⟨b91, hb91, g_6⟩ := bnd g_5
        obtain ⟨r91, M91, h91, g_7⟩ := bnd2 g_6
        refine J_callVI (pc := 91) (as := [vI x2, vI x3, vI ((x6 * (8 : Int32)) + x5), vI x7]) (tX2_canTurn (d := d)  h91) cf_X2_canTurn cv_X2_canTurn clF2 hb91 ml_RX2_64 (by omega) (Nat.le_of_ble_eq_true rfl) dX2_leastRow_91 ?_
        refine J_ifeq (pc := 94) (tgt := 105) (by decide) dX2_leastRow_94 (fun hc94 => ?_) (fun hc94 => ?_)
        · rw [if_pos hc94] at g_7
          refine J_iinc (pc := 105) (q := 6) rfl (v := x7 + (1 : Int32)) rfl (by decide) (lv' := [(0, vR (some x0)), (2, vI x2), (3, vI x3), (4, vI x4), (5, vI x5), (6, vI x6), (7, vI (x7 + (1 : Int32)))]) rfl dX2_leastRow_105 ?_
          refine J_goto (pc := 108) (tgt := 53) (by decide) dX2_leastRow_108 ?_
          exact hk53 _ _ g_7
        · rw [if_neg hc94] at g_7
          refine J_sub [3, 6] (lv' := [(4, vI x4), (7, vI x7)]) rfl ?_
          exact jX2_leastRow_b97  g_7
set_option maxHeartbeats 4000000 in
set_option maxRecDepth 100000 in
theorem jX2_leastRow_L8 {ad : Nat → Nat} {ca : Nat → ClassId} {D : va_G} {FU d : Nat} {r : Int32} {N : Mem}   {x0 : Nat} {x2 : Int32} {x3 : Int32}   : ∀ (F : Nat) (x4 : Int32) (M : Mem), fX2_leastRow_L8 FU  x0 x2 x3 F x4 M = some (r, N) → J ad ca D cX2_leastRow RX2 8 (d + 12) (Gt ad ca D (some .int) (QI r N)) 8 [(0, vR (some x0)), (2, vI x2), (3, vI x3), (4, vI x4)] [] M := by
  intro F
  induction F with
  | zero =>
    intro x4 M h
    rw [fX2_leastRow_L8] at h
    cases h
  | succ F hk8 =>
    intro x4 M h
    rw [fX2_leastRow_L8] at h
    refine J_iload (pc := 8) (q := 3) rfl dX2_leastRow_8 ?_
    refine J_bipush (pc := 10) (v := (64 : Int32)) (by decide) dX2_leastRow_10 ?_
    refine J_icge (pc := 12) (tgt := 117) (by decide) dX2_leastRow_12 (fun hc12 => ?_) (fun hc12 => ?_)
    · rw [if_pos hc12] at h
      refine J_iload_n (pc := 117) (q := 1) rfl rfl dX2_leastRow_117 ?_
      refine J_iload_n (pc := 118) (q := 2) rfl rfl dX2_leastRow_118 ?_
      obtain ⟨r119, M119, h119, g_8⟩ := bnd2 h
      refine J_callSI (pc := 119) (as := [vI x2, vI x3]) (tX6_rowTold (d := d)  h119) cf_X6_rowTold cv_X6_rowTold ml_RX2_68 (by omega) (Nat.le_of_ble_eq_true rfl) dX2_leastRow_119 ?_
      exact J_iret (pc := 122) (qi_of g_8) dX2_leastRow_122
    · rw [if_neg hc12] at h
      refine J_iload (pc := 15) (q := 3) rfl dX2_leastRow_15 ?_
      refine J_iconst (pc := 17) (v := (3 : Int32)) (by decide) dX2_leastRow_17 ?_
      refine J_ishr (pc := 18) dX2_leastRow_18 ?_
      refine J_istore (pc := 19) (by decide) (lv' := [(0, vR (some x0)), (2, vI x2), (3, vI x3), (4, vI x4), (5, vI (x4 >>> ((3 : Int32) &&& 31)))]) rfl dX2_leastRow_19 ?_
      refine J_iload (pc := 21) (q := 3) rfl dX2_leastRow_21 ?_
      refine J_bipush (pc := 23) (v := (7 : Int32)) (by decide) dX2_leastRow_23 ?_
      refine J_iand (pc := 25) dX2_leastRow_25 ?_
      refine J_istore (pc := 26) (by decide) (lv' := [(0, vR (some x0)), (2, vI x2), (3, vI x3), (4, vI x4), (5, vI (x4 >>> ((3 : Int32) &&& 31))), (6, vI (x4 &&& (7 : Int32)))]) rfl dX2_leastRow_26 ?_
      refine J_iload (pc := 28) (q := 4) rfl dX2_leastRow_28 ?_
      refine J_iload (pc := 30) (q := 5) rfl dX2_leastRow_30 ?_
      refine J_icgt (pc := 32) (tgt := 111) (by decide) dX2_leastRow_32 (fun hc32 => ?_) (fun hc32 => ?_)
      · rw [if_pos hc32] at h
        refine J_sub [0, 1, 2, 3] (lv' := [(0, vR (some x0)), (2, vI x2), (3, vI x3), (4, vI x4)]) rfl ?_
        exact jX2_leastRow_b111 hk8 h
      · rw [if_neg hc32] at h
        refine J_iload (pc := 35) (q := 5) rfl dX2_leastRow_35 ?_
        refine J_aload_n (pc := 37) (q := 0) rfl rfl dX2_leastRow_37 ?_
        obtain ⟨a38, h38, g_9⟩ := bnd h
        refine J_getR (pc := 38) (i := 0) clF2 (by decide) rfl fl_RX2_28 h38 dX2_leastRow_38 ?_
        obtain ⟨a41, h41, g_10⟩ := bnd g_9
        refine J_getI (pc := 41) (i := 0) clF3 (by decide) rfl fl_RX2_46 h41 dX2_leastRow_41 ?_
        refine J_iclt (pc := 44) (tgt := 50) (by decide) dX2_leastRow_44 (fun hc44 => ?_) (fun hc44 => ?_)
        · rw [if_pos hc44] at g_10
          refine J_iconst (pc := 50) (v := (0 : Int32)) (by decide) dX2_leastRow_50 ?_
          refine J_istore (pc := 51) (by decide) (lv' := [(0, vR (some x0)), (2, vI x2), (3, vI x3), (4, vI x4), (5, vI (x4 >>> ((3 : Int32) &&& 31))), (6, vI (x4 &&& (7 : Int32))), (7, vI (0 : Int32))]) rfl dX2_leastRow_51 ?_
          exact jX2_leastRow_L53 hk8 FU _ _ g_10
        · rw [if_neg hc44] at g_10
          refine J_goto (pc := 47) (tgt := 111) (by decide) dX2_leastRow_47 ?_
          refine J_sub [0, 1, 2, 3] (lv' := [(0, vR (some x0)), (2, vI x2), (3, vI x3), (4, vI x4)]) rfl ?_
          exact jX2_leastRow_b111 hk8 g_10
set_option maxHeartbeats 4000000 in
set_option maxRecDepth 100000 in
theorem tX2_leastRow {ad : Nat → Nat} {ca : Nat → ClassId} {D : va_G} {FU d : Nat} {r : Int32} {N : Mem}  {x0 : Nat} {x1 : Option Nat} {x2 : Int32} {x3 : Int32} {M : Mem}  (h : fX2_leastRow FU  x0 x1 x2 x3 M = some (r, N)) : Ct ad ca D yX2_leastRow cX2_leastRow 8 (some .int) (d + 12) [vR (some x0), vR x1, vI x2, vI x3] M (QI r N) := by
  refine Ct_of (by decide) (Nat.le_of_ble_eq_true rfl) ?_
  show J ad ca D cX2_leastRow RX2 8 (d + 12) (Gt ad ca D (some .int) (QI r N)) 0 [(0, vR (some x0)), (1, vR x1), (2, vI x2), (3, vI x3)] [] M
  unfold fX2_leastRow at h
  refine J_aload_n (pc := 0) (q := 0) rfl rfl dX2_leastRow_0 ?_
  refine J_aload_n (pc := 1) (q := 1) rfl rfl dX2_leastRow_1 ?_
  obtain ⟨b2, hb2, g_11⟩ := bnd h
  obtain ⟨M2, h2, g_12⟩ := bnd g_11
  refine J_callVV (pc := 2) (as := [vR x1]) (tX2_take (d := d)  h2) cf_X2_take cv_X2_take clF2 hb2 ml_RX2_42 (by omega) (Nat.le_of_ble_eq_true rfl) dX2_leastRow_2 ?_
  refine J_iconst (pc := 5) (v := (0 : Int32)) (by decide) dX2_leastRow_5 ?_
  refine J_istore (pc := 6) (by decide) (lv' := [(0, vR (some x0)), (1, vR x1), (2, vI x2), (3, vI x3), (4, vI (0 : Int32))]) rfl dX2_leastRow_6 ?_
  refine J_sub [0, 2, 3, 4] (lv' := [(0, vR (some x0)), (2, vI x2), (3, vI x3), (4, vI (0 : Int32))]) rfl ?_
  exact jX2_leastRow_L8  FU _ _ g_12
set_option maxHeartbeats 4000000 in
set_option maxRecDepth 100000 in
theorem tX3_shutStates {ad : Nat → Nat} {ca : Nat → ClassId} {D : va_G} {FU d : Nat} {r : Int32} {N : Mem}  {x0 : Nat} {M : Mem}  (h : fX3_shutStates FU  x0 M = some (r, N)) : Ct ad ca D yX3_shutStates cX3_shutStates 1 (some .int) (d + 0) [vR (some x0)] M (QI r N) := by
  refine Ct_of (by decide) (Nat.le_of_ble_eq_true rfl) ?_
  show J ad ca D cX3_shutStates RX3 1 (d + 0) (Gt ad ca D (some .int) (QI r N)) 0 [(0, vR (some x0))] [] M
  unfold fX3_shutStates at h
  refine J_aload_n (pc := 0) (q := 0) rfl rfl dX3_shutStates_0 ?_
  obtain ⟨a1, h1, g_1⟩ := bnd h
  refine J_getI (pc := 1) (i := 9) clF3 (by decide) rfl fl_RX3_43 h1 dX3_shutStates_1 ?_
  refine J_ifne (pc := 4) (tgt := 11) (by decide) dX3_shutStates_4 (fun hc4 => ?_) (fun hc4 => ?_)
  · rw [if_pos hc4] at g_1
    refine J_aload_n (pc := 11) (q := 0) rfl rfl dX3_shutStates_11 ?_
    obtain ⟨a12, h12, g_2⟩ := bnd g_1
    refine J_getI (pc := 12) (i := 9) clF3 (by decide) rfl fl_RX3_43 h12 dX3_shutStates_12 ?_
    refine J_iconst (pc := 15) (v := (1 : Int32)) (by decide) dX3_shutStates_15 ?_
    refine J_icne (pc := 16) (tgt := 23) (by decide) dX3_shutStates_16 (fun hc16 => ?_) (fun hc16 => ?_)
    · rw [if_pos hc16] at g_2
      refine J_bipush (pc := 23) (v := (9 : Int32)) (by decide) dX3_shutStates_23 ?_
      exact J_iret (pc := 25) (qi_of g_2) dX3_shutStates_25
    · rw [if_neg hc16] at g_2
      refine J_iconst (pc := 19) (v := (3 : Int32)) (by decide) dX3_shutStates_19 ?_
      refine J_goto (pc := 20) (tgt := 25) (by decide) dX3_shutStates_20 ?_
      exact J_iret (pc := 25) (qi_of g_2) dX3_shutStates_25
  · rw [if_neg hc4] at g_1
    refine J_iconst (pc := 7) (v := (1 : Int32)) (by decide) dX3_shutStates_7 ?_
    refine J_goto (pc := 8) (tgt := 25) (by decide) dX3_shutStates_8 ?_
    exact J_iret (pc := 25) (qi_of g_1) dX3_shutStates_25
set_option maxHeartbeats 4000000 in
set_option maxRecDepth 100000 in
theorem jX3_refusalOf_b71 {ad : Nat → Nat} {ca : Nat → ClassId} {D : va_G} {FU d : Nat} {r : Int32} {N : Mem}    {M : Mem}   (h : fX3_refusalOf_b71 FU  M = some (r, N)) : J ad ca D cX3_refusalOf RX3 5 (d + 1) (Gt ad ca D (some .int) (QI r N)) 71 [] [] M := by
  unfold fX3_refusalOf_b71 at h
  refine J_bipush (pc := 71) (v := (-4 : Int32)) (by decide) dX3_refusalOf_71 ?_
  refine J_goto (pc := 73) (tgt := 77) (by decide) dX3_refusalOf_73 ?_
  exact J_iret (pc := 77) (qi_of h) dX3_refusalOf_77
set_option maxHeartbeats 4000000 in
set_option maxRecDepth 100000 in
theorem jX3_refusalOf_b55 {ad : Nat → Nat} {ca : Nat → ClassId} {D : va_G} {FU d : Nat} {r : Int32} {N : Mem}   {x0 : Nat} {s0 : Int32} {M : Mem}   (h : fX3_refusalOf_b55 FU  x0 s0 M = some (r, N)) : J ad ca D cX3_refusalOf RX3 5 (d + 1) (Gt ad ca D (some .int) (QI r N)) 55 [(0, vR (some x0))] [vI s0] M := by
  unfold fX3_refusalOf_b55 at h
  refine J_istore (pc := 55) (by decide) (lv' := [(0, vR (some x0)), (4, vI s0)]) rfl dX3_refusalOf_55 ?_
  refine J_aload_n (pc := 57) (q := 0) rfl rfl dX3_refusalOf_57 ?_
  obtain ⟨a58, h58, g_1⟩ := bnd h
  refine J_getI (pc := 58) (i := 8) clF3 (by decide) rfl fl_RX3_53 h58 dX3_refusalOf_58 ?_
  refine J_bipush (pc := 61) (v := (16 : Int32)) (by decide) dX3_refusalOf_61 ?_
  refine J_icge (pc := 63) (tgt := 71) (by decide) dX3_refusalOf_63 (fun hc63 => ?_) (fun hc63 => ?_)
  · rw [if_pos hc63] at g_1
    refine J_sub [] (lv' := []) rfl ?_
    exact jX3_refusalOf_b71  g_1
  · rw [if_neg hc63] at g_1
    refine J_iload (pc := 66) (q := 1) rfl dX3_refusalOf_66 ?_
    refine J_ifeq (pc := 68) (tgt := 76) (by decide) dX3_refusalOf_68 (fun hc68 => ?_) (fun hc68 => ?_)
    · rw [if_pos hc68] at g_1
      refine J_iconst (pc := 76) (v := (0 : Int32)) (by decide) dX3_refusalOf_76 ?_
      exact J_iret (pc := 77) (qi_of g_1) dX3_refusalOf_77
    · rw [if_neg hc68] at g_1
      refine J_sub [] (lv' := []) rfl ?_
      exact jX3_refusalOf_b71  g_1
set_option maxHeartbeats 4000000 in
set_option maxRecDepth 100000 in
theorem jX3_refusalOf_b54 {ad : Nat → Nat} {ca : Nat → ClassId} {D : va_G} {FU d : Nat} {r : Int32} {N : Mem}   {x0 : Nat} {M : Mem}   (h : fX3_refusalOf_b54 FU  x0 M = some (r, N)) : J ad ca D cX3_refusalOf RX3 5 (d + 1) (Gt ad ca D (some .int) (QI r N)) 54 [(0, vR (some x0))] [] M := by
  unfold fX3_refusalOf_b54 at h
  refine J_iconst (pc := 54) (v := (0 : Int32)) (by decide) dX3_refusalOf_54 ?_
  exact jX3_refusalOf_b55  h
set_option maxHeartbeats 4000000 in
set_option maxRecDepth 100000 in
theorem tX3_refusalOf {ad : Nat → Nat} {ca : Nat → ClassId} {D : va_G} {FU d : Nat} {r : Int32} {N : Mem}  {x0 : Nat} {x1 : Int32} {x2 : Int32} {x3 : Int32} {M : Mem}  (h : fX3_refusalOf FU  x0 x1 x2 x3 M = some (r, N)) : Ct ad ca D yX3_refusalOf cX3_refusalOf 5 (some .int) (d + 1) [vR (some x0), vI x1, vI x2, vI x3] M (QI r N) := by
  refine Ct_of (by decide) (Nat.le_of_ble_eq_true rfl) ?_
  show J ad ca D cX3_refusalOf RX3 5 (d + 1) (Gt ad ca D (some .int) (QI r N)) 0 [(0, vR (some x0)), (1, vI x1), (2, vI x2), (3, vI x3)] [] M
  unfold fX3_refusalOf at h
  refine J_aload_n (pc := 0) (q := 0) rfl rfl dX3_refusalOf_0 ?_
  refine J_iload_n (pc := 1) (q := 2) rfl rfl dX3_refusalOf_1 ?_
  obtain ⟨b2, hb2, g_2⟩ := bnd h
  obtain ⟨r2, M2, h2, g_3⟩ := bnd2 g_2
  refine J_callVI (pc := 2) (as := [vI x2]) (tX3_has (d := d)  h2) cf_X3_has cv_X3_has clF3 hb2 ml_RX3_46 (by omega) (Nat.le_of_ble_eq_true rfl) dX3_refusalOf_2 ?_
  refine J_ifeq (pc := 5) (tgt := 31) (by decide) dX3_refusalOf_5 (fun hc5 => ?_) (fun hc5 => ?_)
  · rw [if_pos hc5] at g_3
    refine J_bipush (pc := 31) (v := (-2 : Int32)) (by decide) dX3_refusalOf_31 ?_
    exact J_iret (pc := 33) (qi_of g_3) dX3_refusalOf_33
  · rw [if_neg hc5] at g_3
    refine J_aload_n (pc := 8) (q := 0) rfl rfl dX3_refusalOf_8 ?_
    refine J_iload_n (pc := 9) (q := 3) rfl rfl dX3_refusalOf_9 ?_
    obtain ⟨b10, hb10, g_4⟩ := bnd g_3
    obtain ⟨r10, M10, h10, g_5⟩ := bnd2 g_4
    refine J_callVI (pc := 10) (as := [vI x3]) (tX3_has (d := d)  h10) cf_X3_has cv_X3_has clF3 hb10 ml_RX3_46 (by omega) (Nat.le_of_ble_eq_true rfl) dX3_refusalOf_10 ?_
    refine J_ifeq (pc := 13) (tgt := 31) (by decide) dX3_refusalOf_13 (fun hc13 => ?_) (fun hc13 => ?_)
    · rw [if_pos hc13] at g_5
      refine J_bipush (pc := 31) (v := (-2 : Int32)) (by decide) dX3_refusalOf_31 ?_
      exact J_iret (pc := 33) (qi_of g_5) dX3_refusalOf_33
    · rw [if_neg hc13] at g_5
      refine J_iload_n (pc := 16) (q := 2) rfl rfl dX3_refusalOf_16 ?_
      refine J_iload_n (pc := 17) (q := 3) rfl rfl dX3_refusalOf_17 ?_
      refine J_iceq (pc := 18) (tgt := 31) (by decide) dX3_refusalOf_18 (fun hc18 => ?_) (fun hc18 => ?_)
      · rw [if_pos hc18] at g_5
        refine J_bipush (pc := 31) (v := (-2 : Int32)) (by decide) dX3_refusalOf_31 ?_
        exact J_iret (pc := 33) (qi_of g_5) dX3_refusalOf_33
      · rw [if_neg hc18] at g_5
        refine J_iload_n (pc := 21) (q := 1) rfl rfl dX3_refusalOf_21 ?_
        refine J_iflt (pc := 22) (tgt := 31) (by decide) dX3_refusalOf_22 (fun hc22 => ?_) (fun hc22 => ?_)
        · rw [if_pos hc22] at g_5
          refine J_bipush (pc := 31) (v := (-2 : Int32)) (by decide) dX3_refusalOf_31 ?_
          exact J_iret (pc := 33) (qi_of g_5) dX3_refusalOf_33
        · rw [if_neg hc22] at g_5
          refine J_iload_n (pc := 25) (q := 1) rfl rfl dX3_refusalOf_25 ?_
          refine J_bipush (pc := 26) (v := (6 : Int32)) (by decide) dX3_refusalOf_26 ?_
          refine J_iclt (pc := 28) (tgt := 34) (by decide) dX3_refusalOf_28 (fun hc28 => ?_) (fun hc28 => ?_)
          · rw [if_pos hc28] at g_5
            refine J_getsN (pc := 34) rfl dX3_refusalOf_34 ?_
            refine J_iload_n (pc := 37) (q := 1) rfl rfl dX3_refusalOf_37 ?_
            obtain ⟨a38, h38, g_6⟩ := bnd g_5
            refine J_aldSB (pc := 38) h38 dX3_refusalOf_38 ?_
            refine J_ifle (pc := 39) (tgt := 54) (by decide) dX3_refusalOf_39 (fun hc39 => ?_) (fun hc39 => ?_)
            · rw [if_pos hc39] at g_6
              refine J_sub [0] (lv' := [(0, vR (some x0))]) rfl ?_
              exact jX3_refusalOf_b54  g_6
            · rw [if_neg hc39] at g_6
              refine J_aload_n (pc := 42) (q := 0) rfl rfl dX3_refusalOf_42 ?_
              obtain ⟨a43, h43, g_7⟩ := bnd g_6
              refine J_getI (pc := 43) (i := 9) clF3 (by decide) rfl fl_RX3_43 h43 dX3_refusalOf_43 ?_
              refine J_iconst (pc := 46) (v := (2 : Int32)) (by decide) dX3_refusalOf_46 ?_
              refine J_iclt (pc := 47) (tgt := 54) (by decide) dX3_refusalOf_47 (fun hc47 => ?_) (fun hc47 => ?_)
              · rw [if_pos hc47] at g_7
                refine J_sub [0] (lv' := [(0, vR (some x0))]) rfl ?_
                exact jX3_refusalOf_b54  g_7
              · rw [if_neg hc47] at g_7
                refine J_iconst (pc := 50) (v := (1 : Int32)) (by decide) dX3_refusalOf_50 ?_
                refine J_goto (pc := 51) (tgt := 55) (by decide) dX3_refusalOf_51 ?_
                refine J_sub [0] (lv' := [(0, vR (some x0))]) rfl ?_
                exact jX3_refusalOf_b55  g_7
          · rw [if_neg hc28] at g_5
            refine J_bipush (pc := 31) (v := (-2 : Int32)) (by decide) dX3_refusalOf_31 ?_
            exact J_iret (pc := 33) (qi_of g_5) dX3_refusalOf_33
set_option maxHeartbeats 4000000 in
set_option maxRecDepth 100000 in
theorem jX3_put_b99 {ad : Nat → Nat} {ca : Nat → ClassId} {D : va_G} {FU d : Nat} {r : Int32} {N : Mem}   {x0 : Nat} {x2 : Int32} {x3 : Int32} {M : Mem}   (h : fX3_put_b99 FU  x0 x2 x3 M = some (r, N)) : J ad ca D cX3_put RX3 5 (d + 2) (Gt ad ca D (some .int) (QI r N)) 99 [(0, vR (some x0)), (2, vI x2), (3, vI x3)] [] M := by
  unfold fX3_put_b99 at h
  refine J_aload_n (pc := 99) (q := 0) rfl rfl dX3_put_99 ?_
  obtain ⟨a100, h100, g_1⟩ := bnd h
  refine J_getR (pc := 100) (i := 7) clF3 (by decide) rfl fl_RX3_30 h100 dX3_put_100 ?_
  refine J_iload_n (pc := 103) (q := 1) rfl rfl dX3_put_103 ?_
  refine J_dup2 (pc := 104) rfl rfl dX3_put_104 ?_
  obtain ⟨a105, h105, g_2⟩ := bnd g_1
  refine J_ald0 (pc := 105) h105 dX3_put_105 ?_
  refine J_iconst (pc := 106) (v := (1 : Int32)) (by decide) dX3_put_106 ?_
  refine J_iload_n (pc := 107) (q := 2) rfl rfl dX3_put_107 ?_
  refine J_ishl (pc := 108) dX3_put_108 ?_
  refine J_ior (pc := 109) dX3_put_109 ?_
  obtain ⟨M110, h110, g_3⟩ := bnd g_2
  refine J_ast0 (pc := 110) h110 dX3_put_110 ?_
  refine J_aload_n (pc := 111) (q := 0) rfl rfl dX3_put_111 ?_
  obtain ⟨a112, h112, g_4⟩ := bnd g_3
  refine J_getR (pc := 112) (i := 7) clF3 (by decide) rfl fl_RX3_30 h112 dX3_put_112 ?_
  refine J_iload_n (pc := 115) (q := 2) rfl rfl dX3_put_115 ?_
  refine J_dup2 (pc := 116) rfl rfl dX3_put_116 ?_
  obtain ⟨a117, h117, g_5⟩ := bnd g_4
  refine J_ald0 (pc := 117) h117 dX3_put_117 ?_
  refine J_iconst (pc := 118) (v := (1 : Int32)) (by decide) dX3_put_118 ?_
  refine J_iload_n (pc := 119) (q := 1) rfl rfl dX3_put_119 ?_
  refine J_ishl (pc := 120) dX3_put_120 ?_
  refine J_ior (pc := 121) dX3_put_121 ?_
  obtain ⟨M122, h122, g_6⟩ := bnd g_5
  refine J_ast0 (pc := 122) h122 dX3_put_122 ?_
  refine J_aload_n (pc := 123) (q := 0) rfl rfl dX3_put_123 ?_
  refine J_dup (pc := 124) rfl dX3_put_124 ?_
  obtain ⟨a125, h125, g_7⟩ := bnd g_6
  refine J_getI (pc := 125) (i := 12) clF3 (by decide) rfl fl_RX3_60 h125 dX3_put_125 ?_
  refine J_iconst (pc := 128) (v := (1 : Int32)) (by decide) dX3_put_128 ?_
  refine J_iadd (pc := 129) dX3_put_129 ?_
  obtain ⟨M130, h130, g_8⟩ := bnd g_7
  refine J_putI (pc := 130) (i := 12) clF3 (by decide) rfl fl_RX3_60 rfl rfl h130 dX3_put_130 ?_
  refine J_aload_n (pc := 133) (q := 0) rfl rfl dX3_put_133 ?_
  refine J_dup (pc := 134) rfl dX3_put_134 ?_
  obtain ⟨a135, h135, g_9⟩ := bnd g_8
  refine J_getI (pc := 135) (i := 8) clF3 (by decide) rfl fl_RX3_53 h135 dX3_put_135 ?_
  refine J_dup_x1 (pc := 138) rfl rfl dX3_put_138 ?_
  refine J_iconst (pc := 139) (v := (1 : Int32)) (by decide) dX3_put_139 ?_
  refine J_iadd (pc := 140) dX3_put_140 ?_
  obtain ⟨M141, h141, g_10⟩ := bnd g_9
  refine J_putI (pc := 141) (i := 8) clF3 (by decide) rfl fl_RX3_53 rfl rfl h141 dX3_put_141 ?_
  exact J_iret (pc := 144) (qi_of g_10) dX3_put_144
set_option maxHeartbeats 4000000 in
set_option maxRecDepth 100000 in
theorem tX3_put {ad : Nat → Nat} {ca : Nat → ClassId} {D : va_G} {FU d : Nat} {r : Int32} {N : Mem}  {x0 : Nat} {x1 : Int32} {x2 : Int32} {x3 : Int32} {M : Mem}  (h : fX3_put FU  x0 x1 x2 x3 M = some (r, N)) : Ct ad ca D yX3_put cX3_put 5 (some .int) (d + 2) [vR (some x0), vI x1, vI x2, vI x3] M (QI r N) := by
  refine Ct_of (by decide) (Nat.le_of_ble_eq_true rfl) ?_
  show J ad ca D cX3_put RX3 5 (d + 2) (Gt ad ca D (some .int) (QI r N)) 0 [(0, vR (some x0)), (1, vI x1), (2, vI x2), (3, vI x3)] [] M
  unfold fX3_put at h
  refine J_aload_n (pc := 0) (q := 0) rfl rfl dX3_put_0 ?_
  refine J_iload_n (pc := 1) (q := 1) rfl rfl dX3_put_1 ?_
  refine J_iload_n (pc := 2) (q := 2) rfl rfl dX3_put_2 ?_
  refine J_iload_n (pc := 3) (q := 3) rfl rfl dX3_put_3 ?_
  obtain ⟨b4, hb4, g_11⟩ := bnd h
  obtain ⟨r4, M4, h4, g_12⟩ := bnd2 g_11
  refine J_callVI (pc := 4) (as := [vI x1, vI x2, vI x3]) (tX3_refusalOf (d := d)  h4) cf_X3_refusalOf cv_X3_refusalOf clF3 hb4 ml_RX3_56 (by omega) (Nat.le_of_ble_eq_true rfl) dX3_put_4 ?_
  refine J_istore (pc := 7) (by decide) (lv' := [(0, vR (some x0)), (1, vI x1), (2, vI x2), (3, vI x3), (4, vI r4)]) rfl dX3_put_7 ?_
  refine J_iload (pc := 9) (q := 4) rfl dX3_put_9 ?_
  refine J_ifeq (pc := 11) (tgt := 17) (by decide) dX3_put_11 (fun hc11 => ?_) (fun hc11 => ?_)
  · rw [if_pos hc11] at g_12
    refine J_aload_n (pc := 17) (q := 0) rfl rfl dX3_put_17 ?_
    obtain ⟨a18, h18, g_13⟩ := bnd g_12
    refine J_getR (pc := 18) (i := 1) clF3 (by decide) rfl fl_RX3_9 h18 dX3_put_18 ?_
    refine J_aload_n (pc := 21) (q := 0) rfl rfl dX3_put_21 ?_
    obtain ⟨a22, h22, g_14⟩ := bnd g_13
    refine J_getI (pc := 22) (i := 8) clF3 (by decide) rfl fl_RX3_53 h22 dX3_put_22 ?_
    refine J_iload_n (pc := 25) (q := 1) rfl rfl dX3_put_25 ?_
    obtain ⟨M26, h26, g_15⟩ := bnd g_14
    refine J_ast0 (pc := 26) h26 dX3_put_26 ?_
    refine J_aload_n (pc := 27) (q := 0) rfl rfl dX3_put_27 ?_
    obtain ⟨a28, h28, g_16⟩ := bnd g_15
    refine J_getR (pc := 28) (i := 2) clF3 (by decide) rfl fl_RX3_15 h28 dX3_put_28 ?_
    refine J_aload_n (pc := 31) (q := 0) rfl rfl dX3_put_31 ?_
    obtain ⟨a32, h32, g_17⟩ := bnd g_16
    refine J_getI (pc := 32) (i := 8) clF3 (by decide) rfl fl_RX3_53 h32 dX3_put_32 ?_
    refine J_iload_n (pc := 35) (q := 2) rfl rfl dX3_put_35 ?_
    obtain ⟨M36, h36, g_18⟩ := bnd g_17
    refine J_ast0 (pc := 36) h36 dX3_put_36 ?_
    refine J_aload_n (pc := 37) (q := 0) rfl rfl dX3_put_37 ?_
    obtain ⟨a38, h38, g_19⟩ := bnd g_18
    refine J_getR (pc := 38) (i := 3) clF3 (by decide) rfl fl_RX3_18 h38 dX3_put_38 ?_
    refine J_aload_n (pc := 41) (q := 0) rfl rfl dX3_put_41 ?_
    obtain ⟨a42, h42, g_20⟩ := bnd g_19
    refine J_getI (pc := 42) (i := 8) clF3 (by decide) rfl fl_RX3_53 h42 dX3_put_42 ?_
    refine J_iload_n (pc := 45) (q := 3) rfl rfl dX3_put_45 ?_
    obtain ⟨M46, h46, g_21⟩ := bnd g_20
    refine J_ast0 (pc := 46) h46 dX3_put_46 ?_
    refine J_aload_n (pc := 47) (q := 0) rfl rfl dX3_put_47 ?_
    obtain ⟨a48, h48, g_22⟩ := bnd g_21
    refine J_getR (pc := 48) (i := 4) clF3 (by decide) rfl fl_RX3_21 h48 dX3_put_48 ?_
    refine J_aload_n (pc := 51) (q := 0) rfl rfl dX3_put_51 ?_
    obtain ⟨a52, h52, g_23⟩ := bnd g_22
    refine J_getI (pc := 52) (i := 8) clF3 (by decide) rfl fl_RX3_53 h52 dX3_put_52 ?_
    refine J_iconst (pc := 55) (v := (-1 : Int32)) (by decide) dX3_put_55 ?_
    obtain ⟨M56, h56, g_24⟩ := bnd g_23
    refine J_ast0 (pc := 56) h56 dX3_put_56 ?_
    refine J_getsN (pc := 57) rfl dX3_put_57 ?_
    refine J_iload_n (pc := 60) (q := 1) rfl rfl dX3_put_60 ?_
    obtain ⟨a61, h61, g_25⟩ := bnd g_24
    refine J_aldSB (pc := 61) h61 dX3_put_61 ?_
    refine J_ifle (pc := 62) (tgt := 99) (by decide) dX3_put_62 (fun hc62 => ?_) (fun hc62 => ?_)
    · rw [if_pos hc62] at g_25
      refine J_sub [0, 2, 3] (lv' := [(0, vR (some x0)), (2, vI x2), (3, vI x3)]) rfl ?_
      exact jX3_put_b99  g_25
    · rw [if_neg hc62] at g_25
      refine J_aload_n (pc := 65) (q := 0) rfl rfl dX3_put_65 ?_
      obtain ⟨a66, h66, g_26⟩ := bnd g_25
      refine J_getR (pc := 66) (i := 5) clF3 (by decide) rfl fl_RX3_24 h66 dX3_put_66 ?_
      refine J_aload_n (pc := 69) (q := 0) rfl rfl dX3_put_69 ?_
      obtain ⟨a70, h70, g_27⟩ := bnd g_26
      refine J_getI (pc := 70) (i := 9) clF3 (by decide) rfl fl_RX3_43 h70 dX3_put_70 ?_
      refine J_getsN (pc := 73) rfl dX3_put_73 ?_
      refine J_iload_n (pc := 76) (q := 1) rfl rfl dX3_put_76 ?_
      obtain ⟨a77, h77, g_28⟩ := bnd g_27
      refine J_aldSB (pc := 77) h77 dX3_put_77 ?_
      obtain ⟨M78, h78, g_29⟩ := bnd g_28
      refine J_ast0 (pc := 78) h78 dX3_put_78 ?_
      refine J_aload_n (pc := 79) (q := 0) rfl rfl dX3_put_79 ?_
      obtain ⟨a80, h80, g_30⟩ := bnd g_29
      refine J_getR (pc := 80) (i := 4) clF3 (by decide) rfl fl_RX3_21 h80 dX3_put_80 ?_
      refine J_aload_n (pc := 83) (q := 0) rfl rfl dX3_put_83 ?_
      obtain ⟨a84, h84, g_31⟩ := bnd g_30
      refine J_getI (pc := 84) (i := 8) clF3 (by decide) rfl fl_RX3_53 h84 dX3_put_84 ?_
      refine J_aload_n (pc := 87) (q := 0) rfl rfl dX3_put_87 ?_
      refine J_dup (pc := 88) rfl dX3_put_88 ?_
      obtain ⟨a89, h89, g_32⟩ := bnd g_31
      refine J_getI (pc := 89) (i := 9) clF3 (by decide) rfl fl_RX3_43 h89 dX3_put_89 ?_
      refine J_dup_x1 (pc := 92) rfl rfl dX3_put_92 ?_
      refine J_iconst (pc := 93) (v := (1 : Int32)) (by decide) dX3_put_93 ?_
      refine J_iadd (pc := 94) dX3_put_94 ?_
      obtain ⟨M95, h95, g_33⟩ := bnd g_32
      refine J_putI (pc := 95) (i := 9) clF3 (by decide) rfl fl_RX3_43 rfl rfl h95 dX3_put_95 ?_
      obtain ⟨M98, h98, g_34⟩ := bnd g_33
      refine J_ast0 (pc := 98) h98 dX3_put_98 ?_
      refine J_sub [0, 2, 3] (lv' := [(0, vR (some x0)), (2, vI x2), (3, vI x3)]) rfl ?_
      exact jX3_put_b99  g_34
  · rw [if_neg hc11] at g_12
    refine J_iload (pc := 14) (q := 4) rfl dX3_put_14 ?_
    exact J_iret (pc := 16) (qi_of g_12) dX3_put_16
set_option maxHeartbeats 4000000 in
set_option maxRecDepth 100000 in
theorem jX3_dropLatest_L65 {ad : Nat → Nat} {ca : Nat → ClassId} {D : va_G} {FU d : Nat} {N : Mem}   {x0 : Nat}   : ∀ (F : Nat) (x1 : Int32) (M : Mem), fX3_dropLatest_L65 FU  x0 F x1 M = some N → J ad ca D cX3_dropLatest RX3 2 (d + 0) (Gt ad ca D none (QV N)) 65 [(0, vR (some x0)), (1, vI x1)] [] M := by
  intro F
  induction F with
  | zero =>
    intro x1 M h
    rw [fX3_dropLatest_L65] at h
    cases h
  | succ F hk65 =>
    intro x1 M h
    rw [fX3_dropLatest_L65] at h
    refine J_iload_n (pc := 65) (q := 1) rfl rfl dX3_dropLatest_65 ?_
    refine J_aload_n (pc := 66) (q := 0) rfl rfl dX3_dropLatest_66 ?_
    obtain ⟨a67, h67, g_1⟩ := bnd h
    refine J_getI (pc := 67) (i := 8) clF3 (by decide) rfl fl_RX3_53 h67 dX3_dropLatest_67 ?_
    refine J_icge (pc := 70) (tgt := 123) (by decide) dX3_dropLatest_70 (fun hc70 => ?_) (fun hc70 => ?_)
    · rw [if_pos hc70] at g_1
      refine J_aload_n (pc := 123) (q := 0) rfl rfl dX3_dropLatest_123 ?_
      refine J_dup (pc := 124) rfl dX3_dropLatest_124 ?_
      obtain ⟨a125, h125, g_2⟩ := bnd g_1
      refine J_getI (pc := 125) (i := 12) clF3 (by decide) rfl fl_RX3_60 h125 dX3_dropLatest_125 ?_
      refine J_iconst (pc := 128) (v := (1 : Int32)) (by decide) dX3_dropLatest_128 ?_
      refine J_iadd (pc := 129) dX3_dropLatest_129 ?_
      obtain ⟨M130, h130, g_3⟩ := bnd g_2
      refine J_putI (pc := 130) (i := 12) clF3 (by decide) rfl fl_RX3_60 rfl rfl h130 dX3_dropLatest_130 ?_
      exact J_vret (pc := 133) (qv_of g_3) dX3_dropLatest_133
    · rw [if_neg hc70] at g_1
      refine J_aload_n (pc := 73) (q := 0) rfl rfl dX3_dropLatest_73 ?_
      obtain ⟨a74, h74, g_4⟩ := bnd g_1
      refine J_getR (pc := 74) (i := 7) clF3 (by decide) rfl fl_RX3_30 h74 dX3_dropLatest_74 ?_
      refine J_aload_n (pc := 77) (q := 0) rfl rfl dX3_dropLatest_77 ?_
      obtain ⟨a78, h78, g_5⟩ := bnd g_4
      refine J_getR (pc := 78) (i := 2) clF3 (by decide) rfl fl_RX3_15 h78 dX3_dropLatest_78 ?_
      refine J_iload_n (pc := 81) (q := 1) rfl rfl dX3_dropLatest_81 ?_
      obtain ⟨a82, h82, g_6⟩ := bnd g_5
      refine J_ald0 (pc := 82) h82 dX3_dropLatest_82 ?_
      refine J_dup2 (pc := 83) rfl rfl dX3_dropLatest_83 ?_
      obtain ⟨a84, h84, g_7⟩ := bnd g_6
      refine J_ald0 (pc := 84) h84 dX3_dropLatest_84 ?_
      refine J_iconst (pc := 85) (v := (1 : Int32)) (by decide) dX3_dropLatest_85 ?_
      refine J_aload_n (pc := 86) (q := 0) rfl rfl dX3_dropLatest_86 ?_
      obtain ⟨a87, h87, g_8⟩ := bnd g_7
      refine J_getR (pc := 87) (i := 3) clF3 (by decide) rfl fl_RX3_18 h87 dX3_dropLatest_87 ?_
      refine J_iload_n (pc := 90) (q := 1) rfl rfl dX3_dropLatest_90 ?_
      obtain ⟨a91, h91, g_9⟩ := bnd g_8
      refine J_ald0 (pc := 91) h91 dX3_dropLatest_91 ?_
      refine J_ishl (pc := 92) dX3_dropLatest_92 ?_
      refine J_ior (pc := 93) dX3_dropLatest_93 ?_
      obtain ⟨M94, h94, g_10⟩ := bnd g_9
      refine J_ast0 (pc := 94) h94 dX3_dropLatest_94 ?_
      refine J_aload_n (pc := 95) (q := 0) rfl rfl dX3_dropLatest_95 ?_
      obtain ⟨a96, h96, g_11⟩ := bnd g_10
      refine J_getR (pc := 96) (i := 7) clF3 (by decide) rfl fl_RX3_30 h96 dX3_dropLatest_96 ?_
      refine J_aload_n (pc := 99) (q := 0) rfl rfl dX3_dropLatest_99 ?_
      obtain ⟨a100, h100, g_12⟩ := bnd g_11
      refine J_getR (pc := 100) (i := 3) clF3 (by decide) rfl fl_RX3_18 h100 dX3_dropLatest_100 ?_
      refine J_iload_n (pc := 103) (q := 1) rfl rfl dX3_dropLatest_103 ?_
      obtain ⟨a104, h104, g_13⟩ := bnd g_12
      refine J_ald0 (pc := 104) h104 dX3_dropLatest_104 ?_
      refine J_dup2 (pc := 105) rfl rfl dX3_dropLatest_105 ?_
      obtain ⟨a106, h106, g_14⟩ := bnd g_13
      refine J_ald0 (pc := 106) h106 dX3_dropLatest_106 ?_
      refine J_iconst (pc := 107) (v := (1 : Int32)) (by decide) dX3_dropLatest_107 ?_
      refine J_aload_n (pc := 108) (q := 0) rfl rfl dX3_dropLatest_108 ?_
      obtain ⟨a109, h109, g_15⟩ := bnd g_14
      refine J_getR (pc := 109) (i := 2) clF3 (by decide) rfl fl_RX3_15 h109 dX3_dropLatest_109 ?_
      refine J_iload_n (pc := 112) (q := 1) rfl rfl dX3_dropLatest_112 ?_
      obtain ⟨a113, h113, g_16⟩ := bnd g_15
      refine J_ald0 (pc := 113) h113 dX3_dropLatest_113 ?_
      refine J_ishl (pc := 114) dX3_dropLatest_114 ?_
      refine J_ior (pc := 115) dX3_dropLatest_115 ?_
      obtain ⟨M116, h116, g_17⟩ := bnd g_16
      refine J_ast0 (pc := 116) h116 dX3_dropLatest_116 ?_
      refine J_iinc (pc := 117) (q := 1) rfl (v := x1 + (1 : Int32)) rfl (by decide) (lv' := [(0, vR (some x0)), (1, vI (x1 + (1 : Int32)))]) rfl dX3_dropLatest_117 ?_
      refine J_goto (pc := 120) (tgt := 65) (by decide) dX3_dropLatest_120 ?_
      exact hk65 _ _ g_17
set_option maxHeartbeats 4000000 in
set_option maxRecDepth 100000 in
theorem jX3_dropLatest_L42 {ad : Nat → Nat} {ca : Nat → ClassId} {D : va_G} {FU d : Nat} {N : Mem}   {x0 : Nat}   : ∀ (F : Nat) (x1 : Int32) (M : Mem), fX3_dropLatest_L42 FU  x0 F x1 M = some N → J ad ca D cX3_dropLatest RX3 2 (d + 0) (Gt ad ca D none (QV N)) 42 [(0, vR (some x0)), (1, vI x1)] [] M := by
  intro F
  induction F with
  | zero =>
    intro x1 M h
    rw [fX3_dropLatest_L42] at h
    cases h
  | succ F hk42 =>
    intro x1 M h
    rw [fX3_dropLatest_L42] at h
    refine J_iload_n (pc := 42) (q := 1) rfl rfl dX3_dropLatest_42 ?_
    refine J_aload_n (pc := 43) (q := 0) rfl rfl dX3_dropLatest_43 ?_
    obtain ⟨a44, h44, g_18⟩ := bnd h
    refine J_getI (pc := 44) (i := 0) clF3 (by decide) rfl fl_RX3_40 h44 dX3_dropLatest_44 ?_
    refine J_icge (pc := 47) (tgt := 63) (by decide) dX3_dropLatest_47 (fun hc47 => ?_) (fun hc47 => ?_)
    · rw [if_pos hc47] at g_18
      refine J_iconst (pc := 63) (v := (0 : Int32)) (by decide) dX3_dropLatest_63 ?_
      refine J_istore_n (pc := 64) rfl (by decide) (lv' := [(0, vR (some x0)), (1, vI (0 : Int32))]) rfl dX3_dropLatest_64 ?_
      exact jX3_dropLatest_L65  FU _ _ g_18
    · rw [if_neg hc47] at g_18
      refine J_aload_n (pc := 50) (q := 0) rfl rfl dX3_dropLatest_50 ?_
      obtain ⟨a51, h51, g_19⟩ := bnd g_18
      refine J_getR (pc := 51) (i := 7) clF3 (by decide) rfl fl_RX3_30 h51 dX3_dropLatest_51 ?_
      refine J_iload_n (pc := 54) (q := 1) rfl rfl dX3_dropLatest_54 ?_
      refine J_iconst (pc := 55) (v := (0 : Int32)) (by decide) dX3_dropLatest_55 ?_
      obtain ⟨M56, h56, g_20⟩ := bnd g_19
      refine J_ast0 (pc := 56) h56 dX3_dropLatest_56 ?_
      refine J_iinc (pc := 57) (q := 1) rfl (v := x1 + (1 : Int32)) rfl (by decide) (lv' := [(0, vR (some x0)), (1, vI (x1 + (1 : Int32)))]) rfl dX3_dropLatest_57 ?_
      refine J_goto (pc := 60) (tgt := 42) (by decide) dX3_dropLatest_60 ?_
      exact hk42 _ _ g_20
set_option maxHeartbeats 4000000 in
set_option maxRecDepth 100000 in
theorem jX3_dropLatest_b40 {ad : Nat → Nat} {ca : Nat → ClassId} {D : va_G} {FU d : Nat} {N : Mem}   {x0 : Nat} {M : Mem}   (h : fX3_dropLatest_b40 FU  x0 M = some N) : J ad ca D cX3_dropLatest RX3 2 (d + 0) (Gt ad ca D none (QV N)) 40 [(0, vR (some x0))] [] M := by
  unfold fX3_dropLatest_b40 at h
  refine J_iconst (pc := 40) (v := (0 : Int32)) (by decide) dX3_dropLatest_40 ?_
  refine J_istore_n (pc := 41) rfl (by decide) (lv' := [(0, vR (some x0)), (1, vI (0 : Int32))]) rfl dX3_dropLatest_41 ?_
  exact jX3_dropLatest_L42  FU _ _ h
set_option maxHeartbeats 4000000 in
set_option maxRecDepth 100000 in
theorem tX3_dropLatest {ad : Nat → Nat} {ca : Nat → ClassId} {D : va_G} {FU d : Nat} {N : Mem}  {x0 : Nat} {M : Mem}  (h : fX3_dropLatest FU  x0 M = some N) : Ct ad ca D yX3_dropLatest cX3_dropLatest 2 none (d + 0) [vR (some x0)] M (QV N) := by
  refine Ct_of (by decide) (Nat.le_of_ble_eq_true rfl) ?_
  show J ad ca D cX3_dropLatest RX3 2 (d + 0) (Gt ad ca D none (QV N)) 0 [(0, vR (some x0))] [] M
  unfold fX3_dropLatest at h
  refine J_aload_n (pc := 0) (q := 0) rfl rfl dX3_dropLatest_0 ?_
  obtain ⟨a1, h1, g_21⟩ := bnd h
  refine J_getI (pc := 1) (i := 8) clF3 (by decide) rfl fl_RX3_53 h1 dX3_dropLatest_1 ?_
  refine J_ifne (pc := 4) (tgt := 8) (by decide) dX3_dropLatest_4 (fun hc4 => ?_) (fun hc4 => ?_)
  · rw [if_pos hc4] at g_21
    refine J_aload_n (pc := 8) (q := 0) rfl rfl dX3_dropLatest_8 ?_
    refine J_dup (pc := 9) rfl dX3_dropLatest_9 ?_
    obtain ⟨a10, h10, g_22⟩ := bnd g_21
    refine J_getI (pc := 10) (i := 8) clF3 (by decide) rfl fl_RX3_53 h10 dX3_dropLatest_10 ?_
    refine J_iconst (pc := 13) (v := (1 : Int32)) (by decide) dX3_dropLatest_13 ?_
    refine J_isub (pc := 14) dX3_dropLatest_14 ?_
    obtain ⟨M15, h15, g_23⟩ := bnd g_22
    refine J_putI (pc := 15) (i := 8) clF3 (by decide) rfl fl_RX3_53 rfl rfl h15 dX3_dropLatest_15 ?_
    refine J_aload_n (pc := 18) (q := 0) rfl rfl dX3_dropLatest_18 ?_
    obtain ⟨a19, h19, g_24⟩ := bnd g_23
    refine J_getR (pc := 19) (i := 4) clF3 (by decide) rfl fl_RX3_21 h19 dX3_dropLatest_19 ?_
    refine J_aload_n (pc := 22) (q := 0) rfl rfl dX3_dropLatest_22 ?_
    obtain ⟨a23, h23, g_25⟩ := bnd g_24
    refine J_getI (pc := 23) (i := 8) clF3 (by decide) rfl fl_RX3_53 h23 dX3_dropLatest_23 ?_
    obtain ⟨a26, h26, g_26⟩ := bnd g_25
    refine J_ald0 (pc := 26) h26 dX3_dropLatest_26 ?_
    refine J_iflt (pc := 27) (tgt := 40) (by decide) dX3_dropLatest_27 (fun hc27 => ?_) (fun hc27 => ?_)
    · rw [if_pos hc27] at g_26
      exact jX3_dropLatest_b40  g_26
    · rw [if_neg hc27] at g_26
      refine J_aload_n (pc := 30) (q := 0) rfl rfl dX3_dropLatest_30 ?_
      refine J_dup (pc := 31) rfl dX3_dropLatest_31 ?_
      obtain ⟨a32, h32, g_27⟩ := bnd g_26
      refine J_getI (pc := 32) (i := 9) clF3 (by decide) rfl fl_RX3_43 h32 dX3_dropLatest_32 ?_
      refine J_iconst (pc := 35) (v := (1 : Int32)) (by decide) dX3_dropLatest_35 ?_
      refine J_isub (pc := 36) dX3_dropLatest_36 ?_
      obtain ⟨M37, h37, g_28⟩ := bnd g_27
      refine J_putI (pc := 37) (i := 9) clF3 (by decide) rfl fl_RX3_43 rfl rfl h37 dX3_dropLatest_37 ?_
      exact jX3_dropLatest_b40  g_28
  · rw [if_neg hc4] at g_21
    exact J_vret (pc := 7) (qv_of g_21) dX3_dropLatest_7
set_option maxHeartbeats 4000000 in
set_option maxRecDepth 100000 in
theorem jX3_becomes_b99 {ad : Nat → Nat} {ca : Nat → ClassId} {D : va_G} {FU d : Nat} {N : Mem}  {k63 : Int32 → Mem → Option (Mem)} {x0 : Nat} {x1 : Option Nat} {x2 : Int32} {x3 : Int32} {M : Mem}  (hk63 : ∀ (y3 : Int32) (M : Mem), k63 y3 M = some N → J ad ca D cX3_becomes RX3 4 (d + 3) (Gt ad ca D none (QV N)) 63 [(0, vR (some x0)), (1, vR x1), (2, vI x2), (3, vI y3)] [] M) (h : fX3_becomes_b99 FU  k63 x0 x1 x2 x3 M = some N) : J ad ca D cX3_becomes RX3 4 (d + 3) (Gt ad ca D none (QV N)) 99 [(0, vR (some x0)), (1, vR x1), (2, vI x2), (3, vI x3)] [] M := by
  unfold fX3_becomes_b99 at h
  refine J_iinc (pc := 99) (q := 3) rfl (v := x3 + (1 : Int32)) rfl (by decide) (lv' := [(0, vR (some x0)), (1, vR x1), (2, vI x2), (3, vI (x3 + (1 : Int32)))]) rfl dX3_becomes_99 ?_
  refine J_goto (pc := 102) (tgt := 63) (by decide) dX3_becomes_102 ?_
  exact hk63 _ _ h
set_option maxHeartbeats 4000000 in
set_option maxRecDepth 100000 in
theorem jX3_becomes_L63 {ad : Nat → Nat} {ca : Nat → ClassId} {D : va_G} {FU d : Nat} {N : Mem}   {x0 : Nat} {x1 : Option Nat} {x2 : Int32}   : ∀ (F : Nat) (x3 : Int32) (M : Mem), fX3_becomes_L63 FU  x0 x1 x2 F x3 M = some N → J ad ca D cX3_becomes RX3 4 (d + 3) (Gt ad ca D none (QV N)) 63 [(0, vR (some x0)), (1, vR x1), (2, vI x2), (3, vI x3)] [] M := by
  intro F
  induction F with
  | zero =>
    intro x3 M h
    rw [fX3_becomes_L63] at h
    cases h
  | succ F hk63 =>
    intro x3 M h
    rw [fX3_becomes_L63] at h
    refine J_iload_n (pc := 63) (q := 3) rfl rfl dX3_becomes_63 ?_
    refine J_aload_n (pc := 64) (q := 1) rfl rfl dX3_becomes_64 ?_
    obtain ⟨a65, h65, g_1⟩ := bnd h
    refine J_getI (pc := 65) (i := 8) clF3 (by decide) rfl fl_RX3_53 h65 dX3_becomes_65 ?_
    refine J_icge (pc := 68) (tgt := 105) (by decide) dX3_becomes_68 (fun hc68 => ?_) (fun hc68 => ?_)
    · rw [if_pos hc68] at g_1
      exact J_vret (pc := 105) (qv_of g_1) dX3_becomes_105
    · rw [if_neg hc68] at g_1
      refine J_iload_n (pc := 71) (q := 3) rfl rfl dX3_becomes_71 ?_
      refine J_iload_n (pc := 72) (q := 2) rfl rfl dX3_becomes_72 ?_
      refine J_iceq (pc := 73) (tgt := 99) (by decide) dX3_becomes_73 (fun hc73 => ?_) (fun hc73 => ?_)
      · rw [if_pos hc73] at g_1
        exact jX3_becomes_b99 hk63 g_1
      · rw [if_neg hc73] at g_1
        refine J_aload_n (pc := 76) (q := 0) rfl rfl dX3_becomes_76 ?_
        refine J_aload_n (pc := 77) (q := 1) rfl rfl dX3_becomes_77 ?_
        obtain ⟨a78, h78, g_2⟩ := bnd g_1
        refine J_getR (pc := 78) (i := 1) clF3 (by decide) rfl fl_RX3_9 h78 dX3_becomes_78 ?_
        refine J_iload_n (pc := 81) (q := 3) rfl rfl dX3_becomes_81 ?_
        obtain ⟨a82, h82, g_3⟩ := bnd g_2
        refine J_ald0 (pc := 82) h82 dX3_becomes_82 ?_
        refine J_aload_n (pc := 83) (q := 1) rfl rfl dX3_becomes_83 ?_
        obtain ⟨a84, h84, g_4⟩ := bnd g_3
        refine J_getR (pc := 84) (i := 2) clF3 (by decide) rfl fl_RX3_15 h84 dX3_becomes_84 ?_
        refine J_iload_n (pc := 87) (q := 3) rfl rfl dX3_becomes_87 ?_
        obtain ⟨a88, h88, g_5⟩ := bnd g_4
        refine J_ald0 (pc := 88) h88 dX3_becomes_88 ?_
        refine J_aload_n (pc := 89) (q := 1) rfl rfl dX3_becomes_89 ?_
        obtain ⟨a90, h90, g_6⟩ := bnd g_5
        refine J_getR (pc := 90) (i := 3) clF3 (by decide) rfl fl_RX3_18 h90 dX3_becomes_90 ?_
        refine J_iload_n (pc := 93) (q := 3) rfl rfl dX3_becomes_93 ?_
        obtain ⟨a94, h94, g_7⟩ := bnd g_6
        refine J_ald0 (pc := 94) h94 dX3_becomes_94 ?_
        obtain ⟨b95, hb95, g_8⟩ := bnd g_7
        obtain ⟨r95, M95, h95, g_9⟩ := bnd2 g_8
        refine J_callVI (pc := 95) (as := [vI a82, vI a88, vI a94]) (tX3_put (d := d)  h95) cf_X3_put cv_X3_put clF3 hb95 ml_RX3_63 (by omega) (Nat.le_of_ble_eq_true rfl) dX3_becomes_95 ?_
        refine J_pop (pc := 98) rfl dX3_becomes_98 ?_
        exact jX3_becomes_b99 hk63 g_9
set_option maxHeartbeats 4000000 in
set_option maxRecDepth 100000 in
theorem jX3_becomes_L28 {ad : Nat → Nat} {ca : Nat → ClassId} {D : va_G} {FU d : Nat} {N : Mem}   {x0 : Nat} {x1 : Option Nat} {x2 : Int32}   : ∀ (F : Nat) (x3 : Int32) (M : Mem), fX3_becomes_L28 FU  x0 x1 x2 F x3 M = some N → J ad ca D cX3_becomes RX3 4 (d + 3) (Gt ad ca D none (QV N)) 28 [(0, vR (some x0)), (1, vR x1), (2, vI x2), (3, vI x3)] [] M := by
  intro F
  induction F with
  | zero =>
    intro x3 M h
    rw [fX3_becomes_L28] at h
    cases h
  | succ F hk28 =>
    intro x3 M h
    rw [fX3_becomes_L28] at h
    refine J_iload_n (pc := 28) (q := 3) rfl rfl dX3_becomes_28 ?_
    refine J_aload_n (pc := 29) (q := 0) rfl rfl dX3_becomes_29 ?_
    obtain ⟨a30, h30, g_10⟩ := bnd h
    refine J_getI (pc := 30) (i := 0) clF3 (by decide) rfl fl_RX3_40 h30 dX3_becomes_30 ?_
    refine J_icge (pc := 33) (tgt := 61) (by decide) dX3_becomes_33 (fun hc33 => ?_) (fun hc33 => ?_)
    · rw [if_pos hc33] at g_10
      refine J_iconst (pc := 61) (v := (0 : Int32)) (by decide) dX3_becomes_61 ?_
      refine J_istore_n (pc := 62) rfl (by decide) (lv' := [(0, vR (some x0)), (1, vR x1), (2, vI x2), (3, vI (0 : Int32))]) rfl dX3_becomes_62 ?_
      exact jX3_becomes_L63  FU _ _ g_10
    · rw [if_neg hc33] at g_10
      refine J_aload_n (pc := 36) (q := 0) rfl rfl dX3_becomes_36 ?_
      obtain ⟨a37, h37, g_11⟩ := bnd g_10
      refine J_getR (pc := 37) (i := 7) clF3 (by decide) rfl fl_RX3_30 h37 dX3_becomes_37 ?_
      refine J_iload_n (pc := 40) (q := 3) rfl rfl dX3_becomes_40 ?_
      refine J_iconst (pc := 41) (v := (0 : Int32)) (by decide) dX3_becomes_41 ?_
      obtain ⟨M42, h42, g_12⟩ := bnd g_11
      refine J_ast0 (pc := 42) h42 dX3_becomes_42 ?_
      refine J_aload_n (pc := 43) (q := 0) rfl rfl dX3_becomes_43 ?_
      obtain ⟨a44, h44, g_13⟩ := bnd g_12
      refine J_getR (pc := 44) (i := 6) clF3 (by decide) rfl fl_RX3_27 h44 dX3_becomes_44 ?_
      refine J_iload_n (pc := 47) (q := 3) rfl rfl dX3_becomes_47 ?_
      refine J_aload_n (pc := 48) (q := 1) rfl rfl dX3_becomes_48 ?_
      obtain ⟨a49, h49, g_14⟩ := bnd g_13
      refine J_getR (pc := 49) (i := 6) clF3 (by decide) rfl fl_RX3_27 h49 dX3_becomes_49 ?_
      refine J_iload_n (pc := 52) (q := 3) rfl rfl dX3_becomes_52 ?_
      obtain ⟨a53, h53, g_15⟩ := bnd g_14
      refine J_ald0 (pc := 53) h53 dX3_becomes_53 ?_
      obtain ⟨M54, h54, g_16⟩ := bnd g_15
      refine J_ast0 (pc := 54) h54 dX3_becomes_54 ?_
      refine J_iinc (pc := 55) (q := 3) rfl (v := x3 + (1 : Int32)) rfl (by decide) (lv' := [(0, vR (some x0)), (1, vR x1), (2, vI x2), (3, vI (x3 + (1 : Int32)))]) rfl dX3_becomes_55 ?_
      refine J_goto (pc := 58) (tgt := 28) (by decide) dX3_becomes_58 ?_
      exact hk28 _ _ g_16
set_option maxHeartbeats 4000000 in
set_option maxRecDepth 100000 in
theorem tX3_becomes {ad : Nat → Nat} {ca : Nat → ClassId} {D : va_G} {FU d : Nat} {N : Mem}  {x0 : Nat} {x1 : Option Nat} {x2 : Int32} {M : Mem}  (h : fX3_becomes FU  x0 x1 x2 M = some N) : Ct ad ca D yX3_becomes cX3_becomes 4 none (d + 3) [vR (some x0), vR x1, vI x2] M (QV N) := by
  refine Ct_of (by decide) (Nat.le_of_ble_eq_true rfl) ?_
  show J ad ca D cX3_becomes RX3 4 (d + 3) (Gt ad ca D none (QV N)) 0 [(0, vR (some x0)), (1, vR x1), (2, vI x2)] [] M
  unfold fX3_becomes at h
  refine J_aload_n (pc := 0) (q := 0) rfl rfl dX3_becomes_0 ?_
  refine J_iconst (pc := 1) (v := (0 : Int32)) (by decide) dX3_becomes_1 ?_
  obtain ⟨M2, h2, g_17⟩ := bnd h
  refine J_putI (pc := 2) (i := 8) clF3 (by decide) rfl fl_RX3_53 rfl rfl h2 dX3_becomes_2 ?_
  refine J_aload_n (pc := 5) (q := 0) rfl rfl dX3_becomes_5 ?_
  refine J_iconst (pc := 6) (v := (0 : Int32)) (by decide) dX3_becomes_6 ?_
  obtain ⟨M7, h7, g_18⟩ := bnd g_17
  refine J_putI (pc := 7) (i := 9) clF3 (by decide) rfl fl_RX3_43 rfl rfl h7 dX3_becomes_7 ?_
  refine J_aload_n (pc := 10) (q := 0) rfl rfl dX3_becomes_10 ?_
  refine J_aload_n (pc := 11) (q := 1) rfl rfl dX3_becomes_11 ?_
  obtain ⟨a12, h12, g_19⟩ := bnd g_18
  refine J_getI (pc := 12) (i := 10) clF3 (by decide) rfl fl_RX3_33 h12 dX3_becomes_12 ?_
  obtain ⟨M15, h15, g_20⟩ := bnd g_19
  refine J_putI (pc := 15) (i := 10) clF3 (by decide) rfl fl_RX3_33 rfl rfl h15 dX3_becomes_15 ?_
  refine J_aload_n (pc := 18) (q := 0) rfl rfl dX3_becomes_18 ?_
  refine J_aload_n (pc := 19) (q := 1) rfl rfl dX3_becomes_19 ?_
  obtain ⟨a20, h20, g_21⟩ := bnd g_20
  refine J_getI (pc := 20) (i := 11) clF3 (by decide) rfl fl_RX3_37 h20 dX3_becomes_20 ?_
  obtain ⟨M23, h23, g_22⟩ := bnd g_21
  refine J_putI (pc := 23) (i := 11) clF3 (by decide) rfl fl_RX3_37 rfl rfl h23 dX3_becomes_23 ?_
  refine J_iconst (pc := 26) (v := (0 : Int32)) (by decide) dX3_becomes_26 ?_
  refine J_istore_n (pc := 27) rfl (by decide) (lv' := [(0, vR (some x0)), (1, vR x1), (2, vI x2), (3, vI (0 : Int32))]) rfl dX3_becomes_27 ?_
  exact jX3_becomes_L28  FU _ _ g_22
set_option maxHeartbeats 4000000 in
set_option maxRecDepth 100000 in
theorem jX3_pairOf_b13 {ad : Nat → Nat} {ca : Nat → ClassId} {D : va_G} {FU d : Nat} {r : Int32} {N : Mem}   {x0 : Nat} {x1 : Int32} {s0 : Int32} {M : Mem}   (h : fX3_pairOf_b13 FU  x0 x1 s0 M = some (r, N)) : J ad ca D cX3_pairOf RX3 4 (d + 2) (Gt ad ca D (some .int) (QI r N)) 13 [(0, vR (some x0)), (1, vI x1)] [vI s0] M := by
  unfold fX3_pairOf_b13 at h
  refine J_istore_n (pc := 13) rfl (by decide) (lv' := [(0, vR (some x0)), (1, vI x1), (3, vI s0)]) rfl dX3_pairOf_13 ?_
  refine J_aload_n (pc := 14) (q := 0) rfl rfl dX3_pairOf_14 ?_
  refine J_iload_n (pc := 15) (q := 1) rfl rfl dX3_pairOf_15 ?_
  obtain ⟨b16, hb16, g_1⟩ := bnd h
  obtain ⟨r16, M16, h16, g_2⟩ := bnd2 g_1
  refine J_callVI (pc := 16) (as := [vI x1]) (tX3_has (d := d)  h16) cf_X3_has cv_X3_has clF3 hb16 ml_RX3_46 (by omega) (Nat.le_of_ble_eq_true rfl) dX3_pairOf_16 ?_
  refine J_ifeq (pc := 19) (tgt := 38) (by decide) dX3_pairOf_19 (fun hc19 => ?_) (fun hc19 => ?_)
  · rw [if_pos hc19] at g_2
    refine J_iconst (pc := 38) (v := (-1 : Int32)) (by decide) dX3_pairOf_38 ?_
    exact J_iret (pc := 39) (qi_of g_2) dX3_pairOf_39
  · rw [if_neg hc19] at g_2
    refine J_aload_n (pc := 22) (q := 0) rfl rfl dX3_pairOf_22 ?_
    refine J_iload_n (pc := 23) (q := 2) rfl rfl dX3_pairOf_23 ?_
    obtain ⟨b24, hb24, g_3⟩ := bnd g_2
    obtain ⟨r24, M24, h24, g_4⟩ := bnd2 g_3
    refine J_callVI (pc := 24) (as := [vI s0]) (tX3_has (d := d)  h24) cf_X3_has cv_X3_has clF3 hb24 ml_RX3_46 (by omega) (Nat.le_of_ble_eq_true rfl) dX3_pairOf_24 ?_
    refine J_ifeq (pc := 27) (tgt := 38) (by decide) dX3_pairOf_27 (fun hc27 => ?_) (fun hc27 => ?_)
    · rw [if_pos hc27] at g_4
      refine J_iconst (pc := 38) (v := (-1 : Int32)) (by decide) dX3_pairOf_38 ?_
      exact J_iret (pc := 39) (qi_of g_4) dX3_pairOf_39
    · rw [if_neg hc27] at g_4
      refine J_iload_n (pc := 30) (q := 1) rfl rfl dX3_pairOf_30 ?_
      refine J_iload_n (pc := 31) (q := 2) rfl rfl dX3_pairOf_31 ?_
      obtain ⟨r32, M32, h32, g_5⟩ := bnd2 g_4
      refine J_callSI (pc := 32) (as := [vI x1, vI s0]) (tX3_sortedPair (d := d)  h32) cf_X3_sortedPair cv_X3_sortedPair ml_RX3_75 (by omega) (Nat.le_of_ble_eq_true rfl) dX3_pairOf_32 ?_
      refine J_goto (pc := 35) (tgt := 39) (by decide) dX3_pairOf_35 ?_
      exact J_iret (pc := 39) (qi_of g_5) dX3_pairOf_39
set_option maxHeartbeats 4000000 in
set_option maxRecDepth 100000 in
theorem tX3_pairOf {ad : Nat → Nat} {ca : Nat → ClassId} {D : va_G} {FU d : Nat} {r : Int32} {N : Mem}  {x0 : Nat} {x1 : Int32} {x2 : Int32} {M : Mem}  (h : fX3_pairOf FU  x0 x1 x2 M = some (r, N)) : Ct ad ca D yX3_pairOf cX3_pairOf 4 (some .int) (d + 2) [vR (some x0), vI x1, vI x2] M (QI r N) := by
  refine Ct_of (by decide) (Nat.le_of_ble_eq_true rfl) ?_
  show J ad ca D cX3_pairOf RX3 4 (d + 2) (Gt ad ca D (some .int) (QI r N)) 0 [(0, vR (some x0)), (1, vI x1), (2, vI x2)] [] M
  unfold fX3_pairOf at h
  refine J_aload_n (pc := 0) (q := 0) rfl rfl dX3_pairOf_0 ?_
  obtain ⟨a1, h1, g_6⟩ := bnd h
  refine J_getI (pc := 1) (i := 10) clF3 (by decide) rfl fl_RX3_33 h1 dX3_pairOf_1 ?_
  refine J_iconst (pc := 4) (v := (1 : Int32)) (by decide) dX3_pairOf_4 ?_
  refine J_icne (pc := 5) (tgt := 12) (by decide) dX3_pairOf_5 (fun hc5 => ?_) (fun hc5 => ?_)
  · rw [if_pos hc5] at g_6
    refine J_iload_n (pc := 12) (q := 2) rfl rfl dX3_pairOf_12 ?_
    refine J_sub [0, 1] (lv' := [(0, vR (some x0)), (1, vI x1)]) rfl ?_
    exact jX3_pairOf_b13  g_6
  · rw [if_neg hc5] at g_6
    refine J_iload_n (pc := 8) (q := 1) rfl rfl dX3_pairOf_8 ?_
    refine J_goto (pc := 9) (tgt := 13) (by decide) dX3_pairOf_9 ?_
    refine J_sub [0, 1] (lv' := [(0, vR (some x0)), (1, vI x1)]) rfl ?_
    exact jX3_pairOf_b13  g_6
set_option maxHeartbeats 4000000 in
set_option maxRecDepth 100000 in
theorem tX4_byteAt {ad : Nat → Nat} {ca : Nat → ClassId} {D : va_G} {FU d : Nat} {r : Int32} {N : Mem}  {x0 : Nat} {x1 : Int32} {M : Mem}  (h : fX4_byteAt FU  x0 x1 M = some (r, N)) : Ct ad ca D yX4_byteAt cX4_byteAt 2 (some .int) (d + 0) [vR (some x0), vI x1] M (QI r N) := by
  refine Ct_of (by decide) (Nat.le_of_ble_eq_true rfl) ?_
  show J ad ca D cX4_byteAt RX4 2 (d + 0) (Gt ad ca D (some .int) (QI r N)) 0 [(0, vR (some x0)), (1, vI x1)] [] M
  unfold fX4_byteAt at h
  refine J_iload_n (pc := 0) (q := 1) rfl rfl dX4_byteAt_0 ?_
  refine J_aload_n (pc := 1) (q := 0) rfl rfl dX4_byteAt_1 ?_
  obtain ⟨a2, h2, g_1⟩ := bnd h
  refine J_getI (pc := 2) (i := 5) clF4 (by decide) rfl fl_RX4_32 h2 dX4_byteAt_2 ?_
  refine J_icge (pc := 5) (tgt := 17) (by decide) dX4_byteAt_5 (fun hc5 => ?_) (fun hc5 => ?_)
  · rw [if_pos hc5] at g_1
    refine J_iconst (pc := 17) (v := (-1 : Int32)) (by decide) dX4_byteAt_17 ?_
    exact J_iret (pc := 18) (qi_of g_1) dX4_byteAt_18
  · rw [if_neg hc5] at g_1
    refine J_aload_n (pc := 8) (q := 0) rfl rfl dX4_byteAt_8 ?_
    obtain ⟨a9, h9, g_2⟩ := bnd g_1
    refine J_getR (pc := 9) (i := 4) clF4 (by decide) rfl fl_RX4_19 h9 dX4_byteAt_9 ?_
    refine J_iload_n (pc := 12) (q := 1) rfl rfl dX4_byteAt_12 ?_
    obtain ⟨a13, h13, g_3⟩ := bnd g_2
    refine J_ald2 (pc := 13) h13 dX4_byteAt_13 ?_
    refine J_goto (pc := 14) (tgt := 18) (by decide) dX4_byteAt_14 ?_
    exact J_iret (pc := 18) (qi_of g_3) dX4_byteAt_18
set_option maxHeartbeats 4000000 in
set_option maxRecDepth 100000 in
theorem tX4_isLetter {ad : Nat → Nat} {ca : Nat → ClassId} {D : va_G} {FU d : Nat} {r : Int32} {N : Mem}  {x0 : Int32} {M : Mem}  (h : fX4_isLetter FU  x0 M = some (r, N)) : Ct ad ca D yX4_isLetter cX4_isLetter 1 (some .boolean) (d + 0) [vI x0] M (QI r N) := by
  refine Ct_of (by decide) (Nat.le_of_ble_eq_true rfl) ?_
  show J ad ca D cX4_isLetter RX4 1 (d + 0) (Gt ad ca D (some .boolean) (QI r N)) 0 [(0, vI x0)] [] M
  unfold fX4_isLetter at h
  refine J_iload_n (pc := 0) (q := 0) rfl rfl dX4_isLetter_0 ?_
  refine J_bipush (pc := 1) (v := (97 : Int32)) (by decide) dX4_isLetter_1 ?_
  refine J_iclt (pc := 3) (tgt := 16) (by decide) dX4_isLetter_3 (fun hc3 => ?_) (fun hc3 => ?_)
  · rw [if_pos hc3] at h
    refine J_iconst (pc := 16) (v := (0 : Int32)) (by decide) dX4_isLetter_16 ?_
    exact J_zret (pc := 17) (Or.inl rfl) (qi_of h) dX4_isLetter_17
  · rw [if_neg hc3] at h
    refine J_iload_n (pc := 6) (q := 0) rfl rfl dX4_isLetter_6 ?_
    refine J_bipush (pc := 7) (v := (122 : Int32)) (by decide) dX4_isLetter_7 ?_
    refine J_icgt (pc := 9) (tgt := 16) (by decide) dX4_isLetter_9 (fun hc9 => ?_) (fun hc9 => ?_)
    · rw [if_pos hc9] at h
      refine J_iconst (pc := 16) (v := (0 : Int32)) (by decide) dX4_isLetter_16 ?_
      exact J_zret (pc := 17) (Or.inl rfl) (qi_of h) dX4_isLetter_17
    · rw [if_neg hc9] at h
      refine J_iconst (pc := 12) (v := (1 : Int32)) (by decide) dX4_isLetter_12 ?_
      refine J_goto (pc := 13) (tgt := 17) (by decide) dX4_isLetter_13 ?_
      exact J_zret (pc := 17) (Or.inr rfl) (qi_of h) dX4_isLetter_17
set_option maxHeartbeats 4000000 in
set_option maxRecDepth 100000 in
theorem jX4_readWord_b151 {ad : Nat → Nat} {ca : Nat → ClassId} {D : va_G} {FU d : Nat} {N : Mem}  {k64 : Int32 → Int32 → Int32 → Int32 → Mem → Option (Mem)} {x0 : Nat} {x1 : Int32} {x2 : Int32} {x3 : Int32} {x4 : Int32} {x5 : Int32} {M : Mem}  (hk64 : ∀ (y2 : Int32) (y3 : Int32) (y4 : Int32) (y5 : Int32) (M : Mem), k64 y2 y3 y4 y5 M = some N → J ad ca D cX4_readWord RX4 7 (d + 4) (Gt ad ca D none (QV N)) 64 [(0, vR (some x0)), (1, vI x1), (2, vI y2), (3, vI y3), (4, vI y4), (5, vI y5)] [] M) (h : fX4_readWord_b151 FU  k64 x0 x1 x2 x3 x4 x5 M = some N) : J ad ca D cX4_readWord RX4 7 (d + 4) (Gt ad ca D none (QV N)) 151 [(0, vR (some x0)), (1, vI x1), (2, vI x2), (3, vI x3), (4, vI x4), (5, vI x5)] [] M := by
  unfold fX4_readWord_b151 at h
  refine J_iinc (pc := 151) (q := 5) rfl (v := x5 + (1 : Int32)) rfl (by decide) (lv' := [(0, vR (some x0)), (1, vI x1), (2, vI x2), (3, vI x3), (4, vI x4), (5, vI (x5 + (1 : Int32)))]) rfl dX4_readWord_151 ?_
  refine J_goto (pc := 154) (tgt := 64) (by decide) dX4_readWord_154 ?_
  exact hk64 _ _ _ _ _ h
set_option maxHeartbeats 4000000 in
set_option maxRecDepth 100000 in
theorem jX4_readWord_b120 {ad : Nat → Nat} {ca : Nat → ClassId} {D : va_G} {FU d : Nat} {N : Mem}  {k64 : Int32 → Int32 → Int32 → Int32 → Mem → Option (Mem)} {x0 : Nat} {x1 : Int32} {x2 : Int32} {x3 : Int32} {x5 : Int32} {s0 : Int32} {M : Mem}  (hk64 : ∀ (y2 : Int32) (y3 : Int32) (y4 : Int32) (y5 : Int32) (M : Mem), k64 y2 y3 y4 y5 M = some N → J ad ca D cX4_readWord RX4 7 (d + 4) (Gt ad ca D none (QV N)) 64 [(0, vR (some x0)), (1, vI x1), (2, vI y2), (3, vI y3), (4, vI y4), (5, vI y5)] [] M) (h : fX4_readWord_b120 FU  k64 x0 x1 x2 x3 x5 s0 M = some N) : J ad ca D cX4_readWord RX4 7 (d + 4) (Gt ad ca D none (QV N)) 120 [(0, vR (some x0)), (1, vI x1), (2, vI x2), (3, vI x3), (5, vI x5)] [vI s0] M := by
  unfold fX4_readWord_b120 at h
  refine J_istore (pc := 120) (by decide) (lv' := [(0, vR (some x0)), (1, vI x1), (2, vI x2), (3, vI x3), (5, vI x5), (4, vI s0)]) rfl dX4_readWord_120 ?_
  refine J_iinc (pc := 122) (q := 3) rfl (v := x3 + (1 : Int32)) rfl (by decide) (lv' := [(0, vR (some x0)), (1, vI x1), (2, vI x2), (5, vI x5), (4, vI s0), (3, vI (x3 + (1 : Int32)))]) rfl dX4_readWord_122 ?_
  refine J_goto (pc := 125) (tgt := 151) (by decide) dX4_readWord_125 ?_
  refine J_sub [0, 1, 2, 5, 4, 3] (lv' := [(0, vR (some x0)), (1, vI x1), (2, vI x2), (3, vI (x3 + (1 : Int32))), (4, vI s0), (5, vI x5)]) rfl ?_
  exact jX4_readWord_b151 hk64 h
set_option maxHeartbeats 4000000 in
set_option maxRecDepth 100000 in
theorem jX4_readWord_b119 {ad : Nat → Nat} {ca : Nat → ClassId} {D : va_G} {FU d : Nat} {N : Mem}  {k64 : Int32 → Int32 → Int32 → Int32 → Mem → Option (Mem)} {x0 : Nat} {x1 : Int32} {x2 : Int32} {x3 : Int32} {x5 : Int32} {M : Mem}  (hk64 : ∀ (y2 : Int32) (y3 : Int32) (y4 : Int32) (y5 : Int32) (M : Mem), k64 y2 y3 y4 y5 M = some N → J ad ca D cX4_readWord RX4 7 (d + 4) (Gt ad ca D none (QV N)) 64 [(0, vR (some x0)), (1, vI x1), (2, vI y2), (3, vI y3), (4, vI y4), (5, vI y5)] [] M) (h : fX4_readWord_b119 FU  k64 x0 x1 x2 x3 x5 M = some N) : J ad ca D cX4_readWord RX4 7 (d + 4) (Gt ad ca D none (QV N)) 119 [(0, vR (some x0)), (1, vI x1), (2, vI x2), (3, vI x3), (5, vI x5)] [] M := by
  unfold fX4_readWord_b119 at h
  refine J_iconst (pc := 119) (v := (0 : Int32)) (by decide) dX4_readWord_119 ?_
  exact jX4_readWord_b120 hk64 h
set_option maxHeartbeats 4000000 in
set_option maxRecDepth 100000 in
theorem jX4_readWord_b143 {ad : Nat → Nat} {ca : Nat → ClassId} {D : va_G} {FU d : Nat} {N : Mem}  {k64 : Int32 → Int32 → Int32 → Int32 → Mem → Option (Mem)} {x0 : Nat} {x1 : Int32} {x2 : Int32} {x5 : Int32} {M : Mem}  (hk64 : ∀ (y2 : Int32) (y3 : Int32) (y4 : Int32) (y5 : Int32) (M : Mem), k64 y2 y3 y4 y5 M = some N → J ad ca D cX4_readWord RX4 7 (d + 4) (Gt ad ca D none (QV N)) 64 [(0, vR (some x0)), (1, vI x1), (2, vI y2), (3, vI y3), (4, vI y4), (5, vI y5)] [] M) (h : fX4_readWord_b143 FU  k64 x0 x1 x2 x5 M = some N) : J ad ca D cX4_readWord RX4 7 (d + 4) (Gt ad ca D none (QV N)) 143 [(0, vR (some x0)), (1, vI x1), (2, vI x2), (5, vI x5)] [] M := by
  unfold fX4_readWord_b143 at h
  refine J_iinc (pc := 143) (q := 2) rfl (v := x2 + (1 : Int32)) rfl (by decide) (lv' := [(0, vR (some x0)), (1, vI x1), (5, vI x5), (2, vI (x2 + (1 : Int32)))]) rfl dX4_readWord_143 ?_
  refine J_iconst (pc := 146) (v := (0 : Int32)) (by decide) dX4_readWord_146 ?_
  refine J_istore_n (pc := 147) rfl (by decide) (lv' := [(0, vR (some x0)), (1, vI x1), (5, vI x5), (2, vI (x2 + (1 : Int32))), (3, vI (0 : Int32))]) rfl dX4_readWord_147 ?_
  refine J_iconst (pc := 148) (v := (1 : Int32)) (by decide) dX4_readWord_148 ?_
  refine J_istore (pc := 149) (by decide) (lv' := [(0, vR (some x0)), (1, vI x1), (5, vI x5), (2, vI (x2 + (1 : Int32))), (3, vI (0 : Int32)), (4, vI (1 : Int32))]) rfl dX4_readWord_149 ?_
  refine J_sub [0, 1, 3, 4, 5, 2] (lv' := [(0, vR (some x0)), (1, vI x1), (2, vI (x2 + (1 : Int32))), (3, vI (0 : Int32)), (4, vI (1 : Int32)), (5, vI x5)]) rfl ?_
  exact jX4_readWord_b151 hk64 h
set_option maxHeartbeats 4000000 in
set_option maxRecDepth 100000 in
theorem jX4_readWord_L64 {ad : Nat → Nat} {ca : Nat → ClassId} {D : va_G} {FU d : Nat} {N : Mem}   {x0 : Nat} {x1 : Int32}   : ∀ (F : Nat) (x2 : Int32) (x3 : Int32) (x4 : Int32) (x5 : Int32) (M : Mem), fX4_readWord_L64 FU  x0 x1 F x2 x3 x4 x5 M = some N → J ad ca D cX4_readWord RX4 7 (d + 4) (Gt ad ca D none (QV N)) 64 [(0, vR (some x0)), (1, vI x1), (2, vI x2), (3, vI x3), (4, vI x4), (5, vI x5)] [] M := by
  intro F
  induction F with
  | zero =>
    intro x2 x3 x4 x5 M h
    rw [fX4_readWord_L64] at h
    cases h
  | succ F hk64 =>
    intro x2 x3 x4 x5 M h
    rw [fX4_readWord_L64] at h
    refine J_iload (pc := 64) (q := 5) rfl dX4_readWord_64 ?_
    refine J_ldcW (pc := 66) rfl dX4_readWord_66 ?_
    refine J_callT (pc := 68) (i := 0) (as := []) (by decide) (tJ0_length (d := d) (by decide)) cf_J0_length_8abf5 cv_J0_length_8abf5 ml_RX4_86 (by omega) (Nat.le_of_ble_eq_true rfl) dX4_readWord_68 ?_
    refine J_icge (pc := 71) (tgt := 157) (by decide) dX4_readWord_71 (fun hc71 => ?_) (fun hc71 => ?_)
    · rw [if_pos hc71] at h
      exact J_vret (pc := 157) (qv_of h) dX4_readWord_157
    · rw [if_neg hc71] at h
      refine J_ldcW (pc := 74) rfl dX4_readWord_74 ?_
      refine J_iload (pc := 76) (q := 5) rfl dX4_readWord_76 ?_
      obtain ⟨a78, h78, g_1⟩ := bnd h
      obtain ⟨g78, e78⟩ := txA_in h78
      refine J_callT (pc := 78) (i := 0) (as := [vI x5]) (by decide) (tJ0_charAt (d := d) (by decide) g78) cf_J0_charAt_5068e cv_J0_charAt_5068e ml_RX4_91 (by omega) (Nat.le_of_ble_eq_true rfl) dX4_readWord_78 ?_
      rw [e78]
      refine J_istore (pc := 81) (by decide) (lv' := [(0, vR (some x0)), (1, vI x1), (2, vI x2), (3, vI x3), (4, vI x4), (5, vI x5), (6, vI a78)]) rfl dX4_readWord_81 ?_
      refine J_iload (pc := 83) (q := 6) rfl dX4_readWord_83 ?_
      refine J_bipush (pc := 85) (v := (32 : Int32)) (by decide) dX4_readWord_85 ?_
      refine J_iceq (pc := 87) (tgt := 128) (by decide) dX4_readWord_87 (fun hc87 => ?_) (fun hc87 => ?_)
      · rw [if_pos hc87] at g_1
        refine J_iload (pc := 128) (q := 4) rfl dX4_readWord_128 ?_
        refine J_ifeq (pc := 130) (tgt := 143) (by decide) dX4_readWord_130 (fun hc130 => ?_) (fun hc130 => ?_)
        · rw [if_pos hc130] at g_1
          refine J_sub [0, 1, 2, 5] (lv' := [(0, vR (some x0)), (1, vI x1), (2, vI x2), (5, vI x5)]) rfl ?_
          exact jX4_readWord_b143 hk64 g_1
        · rw [if_neg hc130] at g_1
          refine J_iload_n (pc := 133) (q := 3) rfl rfl dX4_readWord_133 ?_
          refine J_iload_n (pc := 134) (q := 1) rfl rfl dX4_readWord_134 ?_
          refine J_icne (pc := 135) (tgt := 143) (by decide) dX4_readWord_135 (fun hc135 => ?_) (fun hc135 => ?_)
          · rw [if_pos hc135] at g_1
            refine J_sub [0, 1, 2, 5] (lv' := [(0, vR (some x0)), (1, vI x1), (2, vI x2), (5, vI x5)]) rfl ?_
            exact jX4_readWord_b143 hk64 g_1
          · rw [if_neg hc135] at g_1
            refine J_aload_n (pc := 138) (q := 0) rfl rfl dX4_readWord_138 ?_
            refine J_iload_n (pc := 139) (q := 2) rfl rfl dX4_readWord_139 ?_
            obtain ⟨M140, h140, g_2⟩ := bnd g_1
            refine J_putI (pc := 140) (i := 7) clF4 (by decide) rfl fl_RX4_23 rfl rfl h140 dX4_readWord_140 ?_
            refine J_sub [0, 1, 2, 5] (lv' := [(0, vR (some x0)), (1, vI x1), (2, vI x2), (5, vI x5)]) rfl ?_
            exact jX4_readWord_b143 hk64 g_2
      · rw [if_neg hc87] at g_1
        refine J_iload (pc := 90) (q := 4) rfl dX4_readWord_90 ?_
        refine J_ifeq (pc := 92) (tgt := 119) (by decide) dX4_readWord_92 (fun hc92 => ?_) (fun hc92 => ?_)
        · rw [if_pos hc92] at g_1
          refine J_sub [0, 1, 2, 3, 5] (lv' := [(0, vR (some x0)), (1, vI x1), (2, vI x2), (3, vI x3), (5, vI x5)]) rfl ?_
          exact jX4_readWord_b119 hk64 g_1
        · rw [if_neg hc92] at g_1
          refine J_iload_n (pc := 95) (q := 3) rfl rfl dX4_readWord_95 ?_
          refine J_iload_n (pc := 96) (q := 1) rfl rfl dX4_readWord_96 ?_
          refine J_icge (pc := 97) (tgt := 119) (by decide) dX4_readWord_97 (fun hc97 => ?_) (fun hc97 => ?_)
          · rw [if_pos hc97] at g_1
            refine J_sub [0, 1, 2, 3, 5] (lv' := [(0, vR (some x0)), (1, vI x1), (2, vI x2), (3, vI x3), (5, vI x5)]) rfl ?_
            exact jX4_readWord_b119 hk64 g_1
          · rw [if_neg hc97] at g_1
            refine J_aload_n (pc := 100) (q := 0) rfl rfl dX4_readWord_100 ?_
            refine J_aload_n (pc := 101) (q := 0) rfl rfl dX4_readWord_101 ?_
            obtain ⟨a102, h102, g_3⟩ := bnd g_1
            refine J_getI (pc := 102) (i := 8) clF4 (by decide) rfl fl_RX4_61 h102 dX4_readWord_102 ?_
            refine J_iload_n (pc := 105) (q := 3) rfl rfl dX4_readWord_105 ?_
            refine J_iadd (pc := 106) dX4_readWord_106 ?_
            obtain ⟨b107, hb107, g_4⟩ := bnd g_3
            obtain ⟨r107, M107, h107, g_5⟩ := bnd2 g_4
            refine J_callVI (pc := 107) (as := [vI (a102 + x3)]) (tX4_byteAt (d := d)  h107) cf_X4_byteAt cv_X4_byteAt clF4 hb107 ml_RX4_64 (by omega) (Nat.le_of_ble_eq_true rfl) dX4_readWord_107 ?_
            refine J_iload (pc := 110) (q := 6) rfl dX4_readWord_110 ?_
            refine J_icne (pc := 112) (tgt := 119) (by decide) dX4_readWord_112 (fun hc112 => ?_) (fun hc112 => ?_)
            · rw [if_pos hc112] at g_5
              refine J_sub [0, 1, 2, 3, 5] (lv' := [(0, vR (some x0)), (1, vI x1), (2, vI x2), (3, vI x3), (5, vI x5)]) rfl ?_
              exact jX4_readWord_b119 hk64 g_5
            · rw [if_neg hc112] at g_5
              refine J_iconst (pc := 115) (v := (1 : Int32)) (by decide) dX4_readWord_115 ?_
              refine J_goto (pc := 116) (tgt := 120) (by decide) dX4_readWord_116 ?_
              refine J_sub [0, 1, 2, 3, 5] (lv' := [(0, vR (some x0)), (1, vI x1), (2, vI x2), (3, vI x3), (5, vI x5)]) rfl ?_
              exact jX4_readWord_b120 hk64 g_5
set_option maxHeartbeats 4000000 in
set_option maxRecDepth 100000 in
theorem jX4_readWord_b38 {ad : Nat → Nat} {ca : Nat → ClassId} {D : va_G} {FU d : Nat} {N : Mem}   {x0 : Nat} {M : Mem}   (h : fX4_readWord_b38 FU  x0 M = some N) : J ad ca D cX4_readWord RX4 7 (d + 4) (Gt ad ca D none (QV N)) 38 [(0, vR (some x0))] [] M := by
  unfold fX4_readWord_b38 at h
  refine J_aload_n (pc := 38) (q := 0) rfl rfl dX4_readWord_38 ?_
  obtain ⟨a39, h39, g_6⟩ := bnd h
  refine J_getI (pc := 39) (i := 6) clF4 (by decide) rfl fl_RX4_35 h39 dX4_readWord_39 ?_
  refine J_aload_n (pc := 42) (q := 0) rfl rfl dX4_readWord_42 ?_
  obtain ⟨a43, h43, g_7⟩ := bnd g_6
  refine J_getI (pc := 43) (i := 8) clF4 (by decide) rfl fl_RX4_61 h43 dX4_readWord_43 ?_
  refine J_isub (pc := 46) dX4_readWord_46 ?_
  refine J_istore_n (pc := 47) rfl (by decide) (lv' := [(0, vR (some x0)), (1, vI (a39 - a43))]) rfl dX4_readWord_47 ?_
  refine J_aload_n (pc := 48) (q := 0) rfl rfl dX4_readWord_48 ?_
  refine J_bipush (pc := 49) (v := (13 : Int32)) (by decide) dX4_readWord_49 ?_
  obtain ⟨M51, h51, g_8⟩ := bnd g_7
  refine J_putI (pc := 51) (i := 7) clF4 (by decide) rfl fl_RX4_23 rfl rfl h51 dX4_readWord_51 ?_
  refine J_iconst (pc := 54) (v := (0 : Int32)) (by decide) dX4_readWord_54 ?_
  refine J_istore_n (pc := 55) rfl (by decide) (lv' := [(0, vR (some x0)), (1, vI (a39 - a43)), (2, vI (0 : Int32))]) rfl dX4_readWord_55 ?_
  refine J_iconst (pc := 56) (v := (0 : Int32)) (by decide) dX4_readWord_56 ?_
  refine J_istore_n (pc := 57) rfl (by decide) (lv' := [(0, vR (some x0)), (1, vI (a39 - a43)), (2, vI (0 : Int32)), (3, vI (0 : Int32))]) rfl dX4_readWord_57 ?_
  refine J_iconst (pc := 58) (v := (1 : Int32)) (by decide) dX4_readWord_58 ?_
  refine J_istore (pc := 59) (by decide) (lv' := [(0, vR (some x0)), (1, vI (a39 - a43)), (2, vI (0 : Int32)), (3, vI (0 : Int32)), (4, vI (1 : Int32))]) rfl dX4_readWord_59 ?_
  refine J_iconst (pc := 61) (v := (0 : Int32)) (by decide) dX4_readWord_61 ?_
  refine J_istore (pc := 62) (by decide) (lv' := [(0, vR (some x0)), (1, vI (a39 - a43)), (2, vI (0 : Int32)), (3, vI (0 : Int32)), (4, vI (1 : Int32)), (5, vI (0 : Int32))]) rfl dX4_readWord_62 ?_
  exact jX4_readWord_L64  FU _ _ _ _ _ g_8
set_option maxHeartbeats 4000000 in
set_option maxRecDepth 100000 in
theorem jX4_readWord_L0 {ad : Nat → Nat} {ca : Nat → ClassId} {D : va_G} {FU d : Nat} {N : Mem}   {x0 : Nat}   : ∀ (F : Nat)  (M : Mem), fX4_readWord_L0 FU  x0 F  M = some N → J ad ca D cX4_readWord RX4 7 (d + 4) (Gt ad ca D none (QV N)) 0 [(0, vR (some x0))] [] M := by
  intro F
  induction F with
  | zero =>
    intro  M h
    rw [fX4_readWord_L0] at h
    cases h
  | succ F hk0 =>
    intro  M h
    rw [fX4_readWord_L0] at h
    refine J_aload_n (pc := 0) (q := 0) rfl rfl dX4_readWord_0 ?_
    obtain ⟨a1, h1, g_9⟩ := bnd h
    refine J_getI (pc := 1) (i := 6) clF4 (by decide) rfl fl_RX4_35 h1 dX4_readWord_1 ?_
    refine J_aload_n (pc := 4) (q := 0) rfl rfl dX4_readWord_4 ?_
    obtain ⟨a5, h5, g_10⟩ := bnd g_9
    refine J_getI (pc := 5) (i := 5) clF4 (by decide) rfl fl_RX4_32 h5 dX4_readWord_5 ?_
    refine J_icge (pc := 8) (tgt := 38) (by decide) dX4_readWord_8 (fun hc8 => ?_) (fun hc8 => ?_)
    · rw [if_pos hc8] at g_10
      exact jX4_readWord_b38  g_10
    · rw [if_neg hc8] at g_10
      refine J_aload_n (pc := 11) (q := 0) rfl rfl dX4_readWord_11 ?_
      refine J_aload_n (pc := 12) (q := 0) rfl rfl dX4_readWord_12 ?_
      obtain ⟨a13, h13, g_11⟩ := bnd g_10
      refine J_getI (pc := 13) (i := 6) clF4 (by decide) rfl fl_RX4_35 h13 dX4_readWord_13 ?_
      obtain ⟨b16, hb16, g_12⟩ := bnd g_11
      obtain ⟨r16, M16, h16, g_13⟩ := bnd2 g_12
      refine J_callVI (pc := 16) (as := [vI a13]) (tX4_byteAt (d := d)  h16) cf_X4_byteAt cv_X4_byteAt clF4 hb16 ml_RX4_64 (by omega) (Nat.le_of_ble_eq_true rfl) dX4_readWord_16 ?_
      obtain ⟨r19, M19, h19, g_14⟩ := bnd2 g_13
      refine J_callSI (pc := 19) (as := [vI r16]) (tX4_isLetter (d := d)  h19) cf_X4_isLetter cv_X4_isLetter ml_RX4_68 (by omega) (Nat.le_of_ble_eq_true rfl) dX4_readWord_19 ?_
      refine J_ifeq (pc := 22) (tgt := 38) (by decide) dX4_readWord_22 (fun hc22 => ?_) (fun hc22 => ?_)
      · rw [if_pos hc22] at g_14
        exact jX4_readWord_b38  g_14
      · rw [if_neg hc22] at g_14
        refine J_aload_n (pc := 25) (q := 0) rfl rfl dX4_readWord_25 ?_
        refine J_dup (pc := 26) rfl dX4_readWord_26 ?_
        obtain ⟨a27, h27, g_15⟩ := bnd g_14
        refine J_getI (pc := 27) (i := 6) clF4 (by decide) rfl fl_RX4_35 h27 dX4_readWord_27 ?_
        refine J_iconst (pc := 30) (v := (1 : Int32)) (by decide) dX4_readWord_30 ?_
        refine J_iadd (pc := 31) dX4_readWord_31 ?_
        obtain ⟨M32, h32, g_16⟩ := bnd g_15
        refine J_putI (pc := 32) (i := 6) clF4 (by decide) rfl fl_RX4_35 rfl rfl h32 dX4_readWord_32 ?_
        refine J_goto (pc := 35) (tgt := 0) (by decide) dX4_readWord_35 ?_
        exact hk0  _ g_16
set_option maxHeartbeats 4000000 in
set_option maxRecDepth 100000 in
theorem tX4_readWord {ad : Nat → Nat} {ca : Nat → ClassId} {D : va_G} {FU d : Nat} {N : Mem}  {x0 : Nat} {M : Mem}  (h : fX4_readWord FU  x0 M = some N) : Ct ad ca D yX4_readWord cX4_readWord 7 none (d + 4) [vR (some x0)] M (QV N) := by
  refine Ct_of (by decide) (Nat.le_of_ble_eq_true rfl) ?_
  show J ad ca D cX4_readWord RX4 7 (d + 4) (Gt ad ca D none (QV N)) 0 [(0, vR (some x0))] [] M
  unfold fX4_readWord at h
  exact jX4_readWord_L0  FU  _ h
set_option maxHeartbeats 4000000 in
set_option maxRecDepth 100000 in
theorem tX4_isDigit {ad : Nat → Nat} {ca : Nat → ClassId} {D : va_G} {FU d : Nat} {r : Int32} {N : Mem}  {x0 : Int32} {M : Mem}  (h : fX4_isDigit FU  x0 M = some (r, N)) : Ct ad ca D yX4_isDigit cX4_isDigit 1 (some .boolean) (d + 0) [vI x0] M (QI r N) := by
  refine Ct_of (by decide) (Nat.le_of_ble_eq_true rfl) ?_
  show J ad ca D cX4_isDigit RX4 1 (d + 0) (Gt ad ca D (some .boolean) (QI r N)) 0 [(0, vI x0)] [] M
  unfold fX4_isDigit at h
  refine J_iload_n (pc := 0) (q := 0) rfl rfl dX4_isDigit_0 ?_
  refine J_bipush (pc := 1) (v := (48 : Int32)) (by decide) dX4_isDigit_1 ?_
  refine J_iclt (pc := 3) (tgt := 16) (by decide) dX4_isDigit_3 (fun hc3 => ?_) (fun hc3 => ?_)
  · rw [if_pos hc3] at h
    refine J_iconst (pc := 16) (v := (0 : Int32)) (by decide) dX4_isDigit_16 ?_
    exact J_zret (pc := 17) (Or.inl rfl) (qi_of h) dX4_isDigit_17
  · rw [if_neg hc3] at h
    refine J_iload_n (pc := 6) (q := 0) rfl rfl dX4_isDigit_6 ?_
    refine J_bipush (pc := 7) (v := (57 : Int32)) (by decide) dX4_isDigit_7 ?_
    refine J_icgt (pc := 9) (tgt := 16) (by decide) dX4_isDigit_9 (fun hc9 => ?_) (fun hc9 => ?_)
    · rw [if_pos hc9] at h
      refine J_iconst (pc := 16) (v := (0 : Int32)) (by decide) dX4_isDigit_16 ?_
      exact J_zret (pc := 17) (Or.inl rfl) (qi_of h) dX4_isDigit_17
    · rw [if_neg hc9] at h
      refine J_iconst (pc := 12) (v := (1 : Int32)) (by decide) dX4_isDigit_12 ?_
      refine J_goto (pc := 13) (tgt := 17) (by decide) dX4_isDigit_13 ?_
      exact J_zret (pc := 17) (Or.inr rfl) (qi_of h) dX4_isDigit_17
set_option maxHeartbeats 4000000 in
set_option maxRecDepth 100000 in
theorem jX4_readNumber_b66 {ad : Nat → Nat} {ca : Nat → ClassId} {D : va_G} {FU d : Nat} {N : Mem}   {x0 : Nat} {M : Mem}   (h : fX4_readNumber_b66 FU  x0 M = some N) : J ad ca D cX4_readNumber RX4 1 (d + 1) (Gt ad ca D none (QV N)) 66 [(0, vR (some x0))] [] M := by
  unfold fX4_readNumber_b66 at h
  refine J_aload_n (pc := 66) (q := 0) rfl rfl dX4_readNumber_66 ?_
  refine J_aload_n (pc := 67) (q := 0) rfl rfl dX4_readNumber_67 ?_
  obtain ⟨a68, h68, g_1⟩ := bnd h
  refine J_getI (pc := 68) (i := 6) clF4 (by decide) rfl fl_RX4_35 h68 dX4_readNumber_68 ?_
  refine J_aload_n (pc := 71) (q := 0) rfl rfl dX4_readNumber_71 ?_
  obtain ⟨a72, h72, g_2⟩ := bnd g_1
  refine J_getI (pc := 72) (i := 8) clF4 (by decide) rfl fl_RX4_61 h72 dX4_readNumber_72 ?_
  refine J_isub (pc := 75) dX4_readNumber_75 ?_
  refine J_iconst (pc := 76) (v := (4 : Int32)) (by decide) dX4_readNumber_76 ?_
  refine J_icgt (pc := 77) (tgt := 85) (by decide) dX4_readNumber_77 (fun hc77 => ?_) (fun hc77 => ?_)
  · rw [if_pos hc77] at g_2
    refine J_bipush (pc := 85) (v := (13 : Int32)) (by decide) dX4_readNumber_85 ?_
    obtain ⟨M87, h87, g_3⟩ := bnd g_2
    refine J_putI (pc := 87) (i := 7) clF4 (by decide) rfl fl_RX4_23 rfl rfl h87 dX4_readNumber_87 ?_
    exact J_vret (pc := 90) (qv_of g_3) dX4_readNumber_90
  · rw [if_neg hc77] at g_2
    refine J_bipush (pc := 80) (v := (11 : Int32)) (by decide) dX4_readNumber_80 ?_
    refine J_goto (pc := 82) (tgt := 87) (by decide) dX4_readNumber_82 ?_
    obtain ⟨M87, h87, g_4⟩ := bnd g_2
    refine J_putI (pc := 87) (i := 7) clF4 (by decide) rfl fl_RX4_23 rfl rfl h87 dX4_readNumber_87 ?_
    exact J_vret (pc := 90) (qv_of g_4) dX4_readNumber_90
set_option maxHeartbeats 4000000 in
set_option maxRecDepth 100000 in
theorem jX4_readNumber_L5 {ad : Nat → Nat} {ca : Nat → ClassId} {D : va_G} {FU d : Nat} {N : Mem}   {x0 : Nat}   : ∀ (F : Nat)  (M : Mem), fX4_readNumber_L5 FU  x0 F  M = some N → J ad ca D cX4_readNumber RX4 1 (d + 1) (Gt ad ca D none (QV N)) 5 [(0, vR (some x0))] [] M := by
  intro F
  induction F with
  | zero =>
    intro  M h
    rw [fX4_readNumber_L5] at h
    cases h
  | succ F hk5 =>
    intro  M h
    rw [fX4_readNumber_L5] at h
    refine J_aload_n (pc := 5) (q := 0) rfl rfl dX4_readNumber_5 ?_
    obtain ⟨a6, h6, g_5⟩ := bnd h
    refine J_getI (pc := 6) (i := 6) clF4 (by decide) rfl fl_RX4_35 h6 dX4_readNumber_6 ?_
    refine J_aload_n (pc := 9) (q := 0) rfl rfl dX4_readNumber_9 ?_
    obtain ⟨a10, h10, g_6⟩ := bnd g_5
    refine J_getI (pc := 10) (i := 5) clF4 (by decide) rfl fl_RX4_32 h10 dX4_readNumber_10 ?_
    refine J_icge (pc := 13) (tgt := 66) (by decide) dX4_readNumber_13 (fun hc13 => ?_) (fun hc13 => ?_)
    · rw [if_pos hc13] at g_6
      exact jX4_readNumber_b66  g_6
    · rw [if_neg hc13] at g_6
      refine J_aload_n (pc := 16) (q := 0) rfl rfl dX4_readNumber_16 ?_
      refine J_aload_n (pc := 17) (q := 0) rfl rfl dX4_readNumber_17 ?_
      obtain ⟨a18, h18, g_7⟩ := bnd g_6
      refine J_getI (pc := 18) (i := 6) clF4 (by decide) rfl fl_RX4_35 h18 dX4_readNumber_18 ?_
      obtain ⟨b21, hb21, g_8⟩ := bnd g_7
      obtain ⟨r21, M21, h21, g_9⟩ := bnd2 g_8
      refine J_callVI (pc := 21) (as := [vI a18]) (tX4_byteAt (d := d)  h21) cf_X4_byteAt cv_X4_byteAt clF4 hb21 ml_RX4_64 (by omega) (Nat.le_of_ble_eq_true rfl) dX4_readNumber_21 ?_
      obtain ⟨r24, M24, h24, g_10⟩ := bnd2 g_9
      refine J_callSI (pc := 24) (as := [vI r21]) (tX4_isDigit (d := d)  h24) cf_X4_isDigit cv_X4_isDigit ml_RX4_75 (by omega) (Nat.le_of_ble_eq_true rfl) dX4_readNumber_24 ?_
      refine J_ifeq (pc := 27) (tgt := 66) (by decide) dX4_readNumber_27 (fun hc27 => ?_) (fun hc27 => ?_)
      · rw [if_pos hc27] at g_10
        exact jX4_readNumber_b66  g_10
      · rw [if_neg hc27] at g_10
        refine J_aload_n (pc := 30) (q := 0) rfl rfl dX4_readNumber_30 ?_
        refine J_aload_n (pc := 31) (q := 0) rfl rfl dX4_readNumber_31 ?_
        obtain ⟨a32, h32, g_11⟩ := bnd g_10
        refine J_getI (pc := 32) (i := 9) clF4 (by decide) rfl fl_RX4_95 h32 dX4_readNumber_32 ?_
        refine J_bipush (pc := 35) (v := (10 : Int32)) (by decide) dX4_readNumber_35 ?_
        refine J_imul (pc := 37) dX4_readNumber_37 ?_
        refine J_aload_n (pc := 38) (q := 0) rfl rfl dX4_readNumber_38 ?_
        refine J_aload_n (pc := 39) (q := 0) rfl rfl dX4_readNumber_39 ?_
        obtain ⟨a40, h40, g_12⟩ := bnd g_11
        refine J_getI (pc := 40) (i := 6) clF4 (by decide) rfl fl_RX4_35 h40 dX4_readNumber_40 ?_
        obtain ⟨b43, hb43, g_13⟩ := bnd g_12
        obtain ⟨r43, M43, h43, g_14⟩ := bnd2 g_13
        refine J_callVI (pc := 43) (as := [vI a40]) (tX4_byteAt (d := d)  h43) cf_X4_byteAt cv_X4_byteAt clF4 hb43 ml_RX4_64 (by omega) (Nat.le_of_ble_eq_true rfl) dX4_readNumber_43 ?_
        refine J_bipush (pc := 46) (v := (48 : Int32)) (by decide) dX4_readNumber_46 ?_
        refine J_isub (pc := 48) dX4_readNumber_48 ?_
        refine J_iadd (pc := 49) dX4_readNumber_49 ?_
        obtain ⟨M50, h50, g_15⟩ := bnd g_14
        refine J_putI (pc := 50) (i := 9) clF4 (by decide) rfl fl_RX4_95 rfl rfl h50 dX4_readNumber_50 ?_
        refine J_aload_n (pc := 53) (q := 0) rfl rfl dX4_readNumber_53 ?_
        refine J_dup (pc := 54) rfl dX4_readNumber_54 ?_
        obtain ⟨a55, h55, g_16⟩ := bnd g_15
        refine J_getI (pc := 55) (i := 6) clF4 (by decide) rfl fl_RX4_35 h55 dX4_readNumber_55 ?_
        refine J_iconst (pc := 58) (v := (1 : Int32)) (by decide) dX4_readNumber_58 ?_
        refine J_iadd (pc := 59) dX4_readNumber_59 ?_
        obtain ⟨M60, h60, g_17⟩ := bnd g_16
        refine J_putI (pc := 60) (i := 6) clF4 (by decide) rfl fl_RX4_35 rfl rfl h60 dX4_readNumber_60 ?_
        refine J_goto (pc := 63) (tgt := 5) (by decide) dX4_readNumber_63 ?_
        exact hk5  _ g_17
set_option maxHeartbeats 4000000 in
set_option maxRecDepth 100000 in
theorem tX4_readNumber {ad : Nat → Nat} {ca : Nat → ClassId} {D : va_G} {FU d : Nat} {N : Mem}  {x0 : Nat} {M : Mem}  (h : fX4_readNumber FU  x0 M = some N) : Ct ad ca D yX4_readNumber cX4_readNumber 1 none (d + 1) [vR (some x0)] M (QV N) := by
  refine Ct_of (by decide) (Nat.le_of_ble_eq_true rfl) ?_
  show J ad ca D cX4_readNumber RX4 1 (d + 1) (Gt ad ca D none (QV N)) 0 [(0, vR (some x0))] [] M
  unfold fX4_readNumber at h
  refine J_aload_n (pc := 0) (q := 0) rfl rfl dX4_readNumber_0 ?_
  refine J_iconst (pc := 1) (v := (0 : Int32)) (by decide) dX4_readNumber_1 ?_
  obtain ⟨M2, h2, g_18⟩ := bnd h
  refine J_putI (pc := 2) (i := 9) clF4 (by decide) rfl fl_RX4_95 rfl rfl h2 dX4_readNumber_2 ?_
  exact jX4_readNumber_L5  FU  _ g_18
set_option maxHeartbeats 4000000 in
set_option maxRecDepth 100000 in
theorem jX4_isSign_b48 {ad : Nat → Nat} {ca : Nat → ClassId} {D : va_G} {FU d : Nat} {r : Int32} {N : Mem}    {M : Mem}   (h : fX4_isSign_b48 FU  M = some (r, N)) : J ad ca D cX4_isSign RX4 1 (d + 0) (Gt ad ca D (some .boolean) (QI r N)) 48 [] [] M := by
  unfold fX4_isSign_b48 at h
  refine J_iconst (pc := 48) (v := (1 : Int32)) (by decide) dX4_isSign_48 ?_
  refine J_goto (pc := 49) (tgt := 53) (by decide) dX4_isSign_49 ?_
  exact J_zret (pc := 53) (Or.inr rfl) (qi_of h) dX4_isSign_53
set_option maxHeartbeats 4000000 in
set_option maxRecDepth 100000 in
theorem tX4_isSign {ad : Nat → Nat} {ca : Nat → ClassId} {D : va_G} {FU d : Nat} {r : Int32} {N : Mem}  {x0 : Int32} {M : Mem}  (h : fX4_isSign FU  x0 M = some (r, N)) : Ct ad ca D yX4_isSign cX4_isSign 1 (some .boolean) (d + 0) [vI x0] M (QI r N) := by
  refine Ct_of (by decide) (Nat.le_of_ble_eq_true rfl) ?_
  show J ad ca D cX4_isSign RX4 1 (d + 0) (Gt ad ca D (some .boolean) (QI r N)) 0 [(0, vI x0)] [] M
  unfold fX4_isSign at h
  refine J_iload_n (pc := 0) (q := 0) rfl rfl dX4_isSign_0 ?_
  refine J_bipush (pc := 1) (v := (40 : Int32)) (by decide) dX4_isSign_1 ?_
  refine J_iceq (pc := 3) (tgt := 48) (by decide) dX4_isSign_3 (fun hc3 => ?_) (fun hc3 => ?_)
  · rw [if_pos hc3] at h
    refine J_sub [] (lv' := []) rfl ?_
    exact jX4_isSign_b48  h
  · rw [if_neg hc3] at h
    refine J_iload_n (pc := 6) (q := 0) rfl rfl dX4_isSign_6 ?_
    refine J_bipush (pc := 7) (v := (41 : Int32)) (by decide) dX4_isSign_7 ?_
    refine J_iceq (pc := 9) (tgt := 48) (by decide) dX4_isSign_9 (fun hc9 => ?_) (fun hc9 => ?_)
    · rw [if_pos hc9] at h
      refine J_sub [] (lv' := []) rfl ?_
      exact jX4_isSign_b48  h
    · rw [if_neg hc9] at h
      refine J_iload_n (pc := 12) (q := 0) rfl rfl dX4_isSign_12 ?_
      refine J_bipush (pc := 13) (v := (59 : Int32)) (by decide) dX4_isSign_13 ?_
      refine J_iceq (pc := 15) (tgt := 48) (by decide) dX4_isSign_15 (fun hc15 => ?_) (fun hc15 => ?_)
      · rw [if_pos hc15] at h
        refine J_sub [] (lv' := []) rfl ?_
        exact jX4_isSign_b48  h
      · rw [if_neg hc15] at h
        refine J_iload_n (pc := 18) (q := 0) rfl rfl dX4_isSign_18 ?_
        refine J_bipush (pc := 19) (v := (43 : Int32)) (by decide) dX4_isSign_19 ?_
        refine J_iceq (pc := 21) (tgt := 48) (by decide) dX4_isSign_21 (fun hc21 => ?_) (fun hc21 => ?_)
        · rw [if_pos hc21] at h
          refine J_sub [] (lv' := []) rfl ?_
          exact jX4_isSign_b48  h
        · rw [if_neg hc21] at h
          refine J_iload_n (pc := 24) (q := 0) rfl rfl dX4_isSign_24 ?_
          refine J_bipush (pc := 25) (v := (45 : Int32)) (by decide) dX4_isSign_25 ?_
          refine J_iceq (pc := 27) (tgt := 48) (by decide) dX4_isSign_27 (fun hc27 => ?_) (fun hc27 => ?_)
          · rw [if_pos hc27] at h
            refine J_sub [] (lv' := []) rfl ?_
            exact jX4_isSign_b48  h
          · rw [if_neg hc27] at h
            refine J_iload_n (pc := 30) (q := 0) rfl rfl dX4_isSign_30 ?_
            refine J_bipush (pc := 31) (v := (42 : Int32)) (by decide) dX4_isSign_31 ?_
            refine J_iceq (pc := 33) (tgt := 48) (by decide) dX4_isSign_33 (fun hc33 => ?_) (fun hc33 => ?_)
            · rw [if_pos hc33] at h
              refine J_sub [] (lv' := []) rfl ?_
              exact jX4_isSign_b48  h
            · rw [if_neg hc33] at h
              refine J_iload_n (pc := 36) (q := 0) rfl rfl dX4_isSign_36 ?_
              refine J_bipush (pc := 37) (v := (60 : Int32)) (by decide) dX4_isSign_37 ?_
              refine J_iceq (pc := 39) (tgt := 48) (by decide) dX4_isSign_39 (fun hc39 => ?_) (fun hc39 => ?_)
              · rw [if_pos hc39] at h
                refine J_sub [] (lv' := []) rfl ?_
                exact jX4_isSign_b48  h
              · rw [if_neg hc39] at h
                refine J_iload_n (pc := 42) (q := 0) rfl rfl dX4_isSign_42 ?_
                refine J_bipush (pc := 43) (v := (61 : Int32)) (by decide) dX4_isSign_43 ?_
                refine J_icne (pc := 45) (tgt := 52) (by decide) dX4_isSign_45 (fun hc45 => ?_) (fun hc45 => ?_)
                · rw [if_pos hc45] at h
                  refine J_iconst (pc := 52) (v := (0 : Int32)) (by decide) dX4_isSign_52 ?_
                  exact J_zret (pc := 53) (Or.inl rfl) (qi_of h) dX4_isSign_53
                · rw [if_neg hc45] at h
                  refine J_sub [] (lv' := []) rfl ?_
                  exact jX4_isSign_b48  h
set_option maxHeartbeats 4000000 in
set_option maxRecDepth 100000 in
theorem jX4_next_b39 {ad : Nat → Nat} {ca : Nat → ClassId} {D : va_G} {FU d : Nat} {N : Mem}  {k0 : Mem → Option (Mem)} {x0 : Nat} {M : Mem}  (hk0 : ∀ (M : Mem), k0  M = some N → J ad ca D cX4_next RX4 2 (d + 5) (Gt ad ca D none (QV N)) 0 [(0, vR (some x0))] [] M) (h : fX4_next_b39 FU  k0 x0 M = some N) : J ad ca D cX4_next RX4 2 (d + 5) (Gt ad ca D none (QV N)) 39 [(0, vR (some x0))] [] M := by
  unfold fX4_next_b39 at h
  refine J_aload_n (pc := 39) (q := 0) rfl rfl dX4_next_39 ?_
  refine J_dup (pc := 40) rfl dX4_next_40 ?_
  obtain ⟨a41, h41, g_1⟩ := bnd h
  refine J_getI (pc := 41) (i := 6) clF4 (by decide) rfl fl_RX4_35 h41 dX4_next_41 ?_
  refine J_iconst (pc := 44) (v := (1 : Int32)) (by decide) dX4_next_44 ?_
  refine J_iadd (pc := 45) dX4_next_45 ?_
  obtain ⟨M46, h46, g_2⟩ := bnd g_1
  refine J_putI (pc := 46) (i := 6) clF4 (by decide) rfl fl_RX4_35 rfl rfl h46 dX4_next_46 ?_
  refine J_goto (pc := 49) (tgt := 0) (by decide) dX4_next_49 ?_
  exact hk0  _ g_2
set_option maxHeartbeats 4000000 in
set_option maxRecDepth 100000 in
theorem jX4_next_b52 {ad : Nat → Nat} {ca : Nat → ClassId} {D : va_G} {FU d : Nat} {N : Mem}   {x0 : Nat} {M : Mem}   (h : fX4_next_b52 FU  x0 M = some N) : J ad ca D cX4_next RX4 2 (d + 5) (Gt ad ca D none (QV N)) 52 [(0, vR (some x0))] [] M := by
  unfold fX4_next_b52 at h
  refine J_aload_n (pc := 52) (q := 0) rfl rfl dX4_next_52 ?_
  refine J_aload_n (pc := 53) (q := 0) rfl rfl dX4_next_53 ?_
  obtain ⟨a54, h54, g_3⟩ := bnd h
  refine J_getI (pc := 54) (i := 6) clF4 (by decide) rfl fl_RX4_35 h54 dX4_next_54 ?_
  obtain ⟨M57, h57, g_4⟩ := bnd g_3
  refine J_putI (pc := 57) (i := 8) clF4 (by decide) rfl fl_RX4_61 rfl rfl h57 dX4_next_57 ?_
  refine J_aload_n (pc := 60) (q := 0) rfl rfl dX4_next_60 ?_
  refine J_aload_n (pc := 61) (q := 0) rfl rfl dX4_next_61 ?_
  obtain ⟨a62, h62, g_5⟩ := bnd g_4
  refine J_getI (pc := 62) (i := 6) clF4 (by decide) rfl fl_RX4_35 h62 dX4_next_62 ?_
  obtain ⟨b65, hb65, g_6⟩ := bnd g_5
  obtain ⟨r65, M65, h65, g_7⟩ := bnd2 g_6
  refine J_callVI (pc := 65) (as := [vI a62]) (tX4_byteAt (d := d)  h65) cf_X4_byteAt cv_X4_byteAt clF4 hb65 ml_RX4_64 (by omega) (Nat.le_of_ble_eq_true rfl) dX4_next_65 ?_
  refine J_istore_n (pc := 68) rfl (by decide) (lv' := [(0, vR (some x0)), (1, vI r65)]) rfl dX4_next_68 ?_
  refine J_aload_n (pc := 69) (q := 0) rfl rfl dX4_next_69 ?_
  obtain ⟨a70, h70, g_8⟩ := bnd g_7
  refine J_getI (pc := 70) (i := 6) clF4 (by decide) rfl fl_RX4_35 h70 dX4_next_70 ?_
  refine J_aload_n (pc := 73) (q := 0) rfl rfl dX4_next_73 ?_
  obtain ⟨a74, h74, g_9⟩ := bnd g_8
  refine J_getI (pc := 74) (i := 5) clF4 (by decide) rfl fl_RX4_32 h74 dX4_next_74 ?_
  refine J_iclt (pc := 77) (tgt := 89) (by decide) dX4_next_77 (fun hc77 => ?_) (fun hc77 => ?_)
  · rw [if_pos hc77] at g_9
    refine J_iload_n (pc := 89) (q := 1) rfl rfl dX4_next_89 ?_
    obtain ⟨r90, M90, h90, g_10⟩ := bnd2 g_9
    refine J_callSI (pc := 90) (as := [vI r65]) (tX4_isLetter (d := d)  h90) cf_X4_isLetter cv_X4_isLetter ml_RX4_68 (by omega) (Nat.le_of_ble_eq_true rfl) dX4_next_90 ?_
    refine J_ifeq (pc := 93) (tgt := 103) (by decide) dX4_next_93 (fun hc93 => ?_) (fun hc93 => ?_)
    · rw [if_pos hc93] at g_10
      refine J_iload_n (pc := 103) (q := 1) rfl rfl dX4_next_103 ?_
      obtain ⟨r104, M104, h104, g_11⟩ := bnd2 g_10
      refine J_callSI (pc := 104) (as := [vI r65]) (tX4_isDigit (d := d)  h104) cf_X4_isDigit cv_X4_isDigit ml_RX4_75 (by omega) (Nat.le_of_ble_eq_true rfl) dX4_next_104 ?_
      refine J_ifeq (pc := 107) (tgt := 117) (by decide) dX4_next_107 (fun hc107 => ?_) (fun hc107 => ?_)
      · rw [if_pos hc107] at g_11
        refine J_aload_n (pc := 117) (q := 0) rfl rfl dX4_next_117 ?_
        refine J_dup (pc := 118) rfl dX4_next_118 ?_
        obtain ⟨a119, h119, g_12⟩ := bnd g_11
        refine J_getI (pc := 119) (i := 6) clF4 (by decide) rfl fl_RX4_35 h119 dX4_next_119 ?_
        refine J_iconst (pc := 122) (v := (1 : Int32)) (by decide) dX4_next_122 ?_
        refine J_iadd (pc := 123) dX4_next_123 ?_
        obtain ⟨M124, h124, g_13⟩ := bnd g_12
        refine J_putI (pc := 124) (i := 6) clF4 (by decide) rfl fl_RX4_35 rfl rfl h124 dX4_next_124 ?_
        refine J_aload_n (pc := 127) (q := 0) rfl rfl dX4_next_127 ?_
        refine J_iload_n (pc := 128) (q := 1) rfl rfl dX4_next_128 ?_
        obtain ⟨r129, M129, h129, g_14⟩ := bnd2 g_13
        refine J_callSI (pc := 129) (as := [vI r65]) (tX4_isSign (d := d)  h129) cf_X4_isSign cv_X4_isSign ml_RX4_81 (by omega) (Nat.le_of_ble_eq_true rfl) dX4_next_129 ?_
        refine J_ifeq (pc := 132) (tgt := 139) (by decide) dX4_next_132 (fun hc132 => ?_) (fun hc132 => ?_)
        · rw [if_pos hc132] at g_14
          refine J_bipush (pc := 139) (v := (13 : Int32)) (by decide) dX4_next_139 ?_
          obtain ⟨M141, h141, g_15⟩ := bnd g_14
          refine J_putI (pc := 141) (i := 7) clF4 (by decide) rfl fl_RX4_23 rfl rfl h141 dX4_next_141 ?_
          exact J_vret (pc := 144) (qv_of g_15) dX4_next_144
        · rw [if_neg hc132] at g_14
          refine J_iload_n (pc := 135) (q := 1) rfl rfl dX4_next_135 ?_
          refine J_goto (pc := 136) (tgt := 141) (by decide) dX4_next_136 ?_
          obtain ⟨M141, h141, g_16⟩ := bnd g_14
          refine J_putI (pc := 141) (i := 7) clF4 (by decide) rfl fl_RX4_23 rfl rfl h141 dX4_next_141 ?_
          exact J_vret (pc := 144) (qv_of g_16) dX4_next_144
      · rw [if_neg hc107] at g_11
        refine J_aload_n (pc := 110) (q := 0) rfl rfl dX4_next_110 ?_
        obtain ⟨b111, hb111, g_17⟩ := bnd g_11
        obtain ⟨M111, h111, g_18⟩ := bnd g_17
        refine J_callVV (pc := 111) (as := []) (tX4_readNumber (d := d)  h111) cf_X4_readNumber cv_X4_readNumber clF4 hb111 ml_RX4_78 (by omega) (Nat.le_of_ble_eq_true rfl) dX4_next_111 ?_
        refine J_goto (pc := 114) (tgt := 144) (by decide) dX4_next_114 ?_
        exact J_vret (pc := 144) (qv_of g_18) dX4_next_144
    · rw [if_neg hc93] at g_10
      refine J_aload_n (pc := 96) (q := 0) rfl rfl dX4_next_96 ?_
      obtain ⟨b97, hb97, g_19⟩ := bnd g_10
      obtain ⟨M97, h97, g_20⟩ := bnd g_19
      refine J_callVV (pc := 97) (as := []) (tX4_readWord (d := d)  h97) cf_X4_readWord cv_X4_readWord clF4 hb97 ml_RX4_72 (by omega) (Nat.le_of_ble_eq_true rfl) dX4_next_97 ?_
      refine J_goto (pc := 100) (tgt := 144) (by decide) dX4_next_100 ?_
      exact J_vret (pc := 144) (qv_of g_20) dX4_next_144
  · rw [if_neg hc77] at g_9
    refine J_aload_n (pc := 80) (q := 0) rfl rfl dX4_next_80 ?_
    refine J_bipush (pc := 81) (v := (12 : Int32)) (by decide) dX4_next_81 ?_
    obtain ⟨M83, h83, g_21⟩ := bnd g_9
    refine J_putI (pc := 83) (i := 7) clF4 (by decide) rfl fl_RX4_23 rfl rfl h83 dX4_next_83 ?_
    refine J_goto (pc := 86) (tgt := 144) (by decide) dX4_next_86 ?_
    exact J_vret (pc := 144) (qv_of g_21) dX4_next_144
set_option maxHeartbeats 4000000 in
set_option maxRecDepth 100000 in
theorem jX4_next_L0 {ad : Nat → Nat} {ca : Nat → ClassId} {D : va_G} {FU d : Nat} {N : Mem}   {x0 : Nat}   : ∀ (F : Nat)  (M : Mem), fX4_next_L0 FU  x0 F  M = some N → J ad ca D cX4_next RX4 2 (d + 5) (Gt ad ca D none (QV N)) 0 [(0, vR (some x0))] [] M := by
  intro F
  induction F with
  | zero =>
    intro  M h
    rw [fX4_next_L0] at h
    cases h
  | succ F hk0 =>
    intro  M h
    rw [fX4_next_L0] at h
    refine J_aload_n (pc := 0) (q := 0) rfl rfl dX4_next_0 ?_
    obtain ⟨a1, h1, g_22⟩ := bnd h
    refine J_getI (pc := 1) (i := 6) clF4 (by decide) rfl fl_RX4_35 h1 dX4_next_1 ?_
    refine J_aload_n (pc := 4) (q := 0) rfl rfl dX4_next_4 ?_
    obtain ⟨a5, h5, g_23⟩ := bnd g_22
    refine J_getI (pc := 5) (i := 5) clF4 (by decide) rfl fl_RX4_32 h5 dX4_next_5 ?_
    refine J_icge (pc := 8) (tgt := 52) (by decide) dX4_next_8 (fun hc8 => ?_) (fun hc8 => ?_)
    · rw [if_pos hc8] at g_23
      exact jX4_next_b52  g_23
    · rw [if_neg hc8] at g_23
      refine J_aload_n (pc := 11) (q := 0) rfl rfl dX4_next_11 ?_
      obtain ⟨a12, h12, g_24⟩ := bnd g_23
      refine J_getR (pc := 12) (i := 4) clF4 (by decide) rfl fl_RX4_19 h12 dX4_next_12 ?_
      refine J_aload_n (pc := 15) (q := 0) rfl rfl dX4_next_15 ?_
      obtain ⟨a16, h16, g_25⟩ := bnd g_24
      refine J_getI (pc := 16) (i := 6) clF4 (by decide) rfl fl_RX4_35 h16 dX4_next_16 ?_
      obtain ⟨a19, h19, g_26⟩ := bnd g_25
      refine J_ald2 (pc := 19) h19 dX4_next_19 ?_
      refine J_bipush (pc := 20) (v := (32 : Int32)) (by decide) dX4_next_20 ?_
      refine J_iceq (pc := 22) (tgt := 39) (by decide) dX4_next_22 (fun hc22 => ?_) (fun hc22 => ?_)
      · rw [if_pos hc22] at g_26
        exact jX4_next_b39 hk0 g_26
      · rw [if_neg hc22] at g_26
        refine J_aload_n (pc := 25) (q := 0) rfl rfl dX4_next_25 ?_
        obtain ⟨a26, h26, g_27⟩ := bnd g_26
        refine J_getR (pc := 26) (i := 4) clF4 (by decide) rfl fl_RX4_19 h26 dX4_next_26 ?_
        refine J_aload_n (pc := 29) (q := 0) rfl rfl dX4_next_29 ?_
        obtain ⟨a30, h30, g_28⟩ := bnd g_27
        refine J_getI (pc := 30) (i := 6) clF4 (by decide) rfl fl_RX4_35 h30 dX4_next_30 ?_
        obtain ⟨a33, h33, g_29⟩ := bnd g_28
        refine J_ald2 (pc := 33) h33 dX4_next_33 ?_
        refine J_bipush (pc := 34) (v := (10 : Int32)) (by decide) dX4_next_34 ?_
        refine J_icne (pc := 36) (tgt := 52) (by decide) dX4_next_36 (fun hc36 => ?_) (fun hc36 => ?_)
        · rw [if_pos hc36] at g_29
          exact jX4_next_b52  g_29
        · rw [if_neg hc36] at g_29
          exact jX4_next_b39 hk0 g_29
set_option maxHeartbeats 4000000 in
set_option maxRecDepth 100000 in
theorem tX4_next {ad : Nat → Nat} {ca : Nat → ClassId} {D : va_G} {FU d : Nat} {N : Mem}  {x0 : Nat} {M : Mem}  (h : fX4_next FU  x0 M = some N) : Ct ad ca D yX4_next cX4_next 2 none (d + 5) [vR (some x0)] M (QV N) := by
  refine Ct_of (by decide) (Nat.le_of_ble_eq_true rfl) ?_
  show J ad ca D cX4_next RX4 2 (d + 5) (Gt ad ca D none (QV N)) 0 [(0, vR (some x0))] [] M
  unfold fX4_next at h
  exact jX4_next_L0  FU  _ h
set_option maxHeartbeats 4000000 in
set_option maxRecDepth 100000 in
theorem tX4_fail {ad : Nat → Nat} {ca : Nat → ClassId} {D : va_G} {FU d : Nat} {N : Mem}  {x0 : Nat} {M : Mem}  (h : fX4_fail FU  x0 M = some N) : Ct ad ca D yX4_fail cX4_fail 1 none (d + 0) [vR (some x0)] M (QV N) := by
  refine Ct_of (by decide) (Nat.le_of_ble_eq_true rfl) ?_
  show J ad ca D cX4_fail RX4 1 (d + 0) (Gt ad ca D none (QV N)) 0 [(0, vR (some x0))] [] M
  unfold fX4_fail at h
  refine J_aload_n (pc := 0) (q := 0) rfl rfl dX4_fail_0 ?_
  obtain ⟨a1, h1, g_1⟩ := bnd h
  refine J_getI (pc := 1) (i := 3) clF4 (by decide) rfl fl_RX4_15 h1 dX4_fail_1 ?_
  refine J_ifge (pc := 4) (tgt := 15) (by decide) dX4_fail_4 (fun hc4 => ?_) (fun hc4 => ?_)
  · rw [if_pos hc4] at g_1
    exact J_vret (pc := 15) (qv_of g_1) dX4_fail_15
  · rw [if_neg hc4] at g_1
    refine J_aload_n (pc := 7) (q := 0) rfl rfl dX4_fail_7 ?_
    refine J_aload_n (pc := 8) (q := 0) rfl rfl dX4_fail_8 ?_
    obtain ⟨a9, h9, g_2⟩ := bnd g_1
    refine J_getI (pc := 9) (i := 8) clF4 (by decide) rfl fl_RX4_61 h9 dX4_fail_9 ?_
    obtain ⟨M12, h12, g_3⟩ := bnd g_2
    refine J_putI (pc := 12) (i := 3) clF4 (by decide) rfl fl_RX4_15 rfl rfl h12 dX4_fail_12 ?_
    exact J_vret (pc := 15) (qv_of g_3) dX4_fail_15
set_option maxHeartbeats 4000000 in
set_option maxRecDepth 100000 in
theorem tX4_expect {ad : Nat → Nat} {ca : Nat → ClassId} {D : va_G} {FU d : Nat} {N : Mem}  {x0 : Nat} {x1 : Int32} {M : Mem}  (h : fX4_expect FU  x0 x1 M = some N) : Ct ad ca D yX4_expect cX4_expect 2 none (d + 6) [vR (some x0), vI x1] M (QV N) := by
  refine Ct_of (by decide) (Nat.le_of_ble_eq_true rfl) ?_
  show J ad ca D cX4_expect RX4 2 (d + 6) (Gt ad ca D none (QV N)) 0 [(0, vR (some x0)), (1, vI x1)] [] M
  unfold fX4_expect at h
  refine J_aload_n (pc := 0) (q := 0) rfl rfl dX4_expect_0 ?_
  obtain ⟨a1, h1, g_1⟩ := bnd h
  refine J_getI (pc := 1) (i := 7) clF4 (by decide) rfl fl_RX4_23 h1 dX4_expect_1 ?_
  refine J_iload_n (pc := 4) (q := 1) rfl rfl dX4_expect_4 ?_
  refine J_icne (pc := 5) (tgt := 15) (by decide) dX4_expect_5 (fun hc5 => ?_) (fun hc5 => ?_)
  · rw [if_pos hc5] at g_1
    refine J_aload_n (pc := 15) (q := 0) rfl rfl dX4_expect_15 ?_
    obtain ⟨b16, hb16, g_2⟩ := bnd g_1
    obtain ⟨M16, h16, g_3⟩ := bnd g_2
    refine J_callVV (pc := 16) (as := []) (tX4_fail (d := d)  h16) cf_X4_fail cv_X4_fail clF4 hb16 ml_RX4_58 (by omega) (Nat.le_of_ble_eq_true rfl) dX4_expect_16 ?_
    exact J_vret (pc := 19) (qv_of g_3) dX4_expect_19
  · rw [if_neg hc5] at g_1
    refine J_aload_n (pc := 8) (q := 0) rfl rfl dX4_expect_8 ?_
    obtain ⟨b9, hb9, g_4⟩ := bnd g_1
    obtain ⟨M9, h9, g_5⟩ := bnd g_4
    refine J_callVV (pc := 9) (as := []) (tX4_next (d := d)  h9) cf_X4_next cv_X4_next clF4 hb9 ml_RX4_41 (by omega) (Nat.le_of_ble_eq_true rfl) dX4_expect_9 ?_
    refine J_goto (pc := 12) (tgt := 19) (by decide) dX4_expect_12 ?_
    exact J_vret (pc := 19) (qv_of g_5) dX4_expect_19
set_option maxHeartbeats 4000000 in
set_option maxRecDepth 100000 in
theorem tX4_isNow {ad : Nat → Nat} {ca : Nat → ClassId} {D : va_G} {FU d : Nat} {r : Int32} {N : Mem}  {x0 : Nat} {x1 : Int32} {M : Mem}  (h : fX4_isNow FU  x0 x1 M = some (r, N)) : Ct ad ca D yX4_isNow cX4_isNow 2 (some .boolean) (d + 0) [vR (some x0), vI x1] M (QI r N) := by
  refine Ct_of (by decide) (Nat.le_of_ble_eq_true rfl) ?_
  show J ad ca D cX4_isNow RX4 2 (d + 0) (Gt ad ca D (some .boolean) (QI r N)) 0 [(0, vR (some x0)), (1, vI x1)] [] M
  unfold fX4_isNow at h
  refine J_aload_n (pc := 0) (q := 0) rfl rfl dX4_isNow_0 ?_
  obtain ⟨a1, h1, g_1⟩ := bnd h
  refine J_getI (pc := 1) (i := 3) clF4 (by decide) rfl fl_RX4_15 h1 dX4_isNow_1 ?_
  refine J_ifge (pc := 4) (tgt := 19) (by decide) dX4_isNow_4 (fun hc4 => ?_) (fun hc4 => ?_)
  · rw [if_pos hc4] at g_1
    refine J_iconst (pc := 19) (v := (0 : Int32)) (by decide) dX4_isNow_19 ?_
    exact J_zret (pc := 20) (Or.inl rfl) (qi_of g_1) dX4_isNow_20
  · rw [if_neg hc4] at g_1
    refine J_aload_n (pc := 7) (q := 0) rfl rfl dX4_isNow_7 ?_
    obtain ⟨a8, h8, g_2⟩ := bnd g_1
    refine J_getI (pc := 8) (i := 7) clF4 (by decide) rfl fl_RX4_23 h8 dX4_isNow_8 ?_
    refine J_iload_n (pc := 11) (q := 1) rfl rfl dX4_isNow_11 ?_
    refine J_icne (pc := 12) (tgt := 19) (by decide) dX4_isNow_12 (fun hc12 => ?_) (fun hc12 => ?_)
    · rw [if_pos hc12] at g_2
      refine J_iconst (pc := 19) (v := (0 : Int32)) (by decide) dX4_isNow_19 ?_
      exact J_zret (pc := 20) (Or.inl rfl) (qi_of g_2) dX4_isNow_20
    · rw [if_neg hc12] at g_2
      refine J_iconst (pc := 15) (v := (1 : Int32)) (by decide) dX4_isNow_15 ?_
      refine J_goto (pc := 16) (tgt := 20) (by decide) dX4_isNow_16 ?_
      exact J_zret (pc := 20) (Or.inr rfl) (qi_of g_2) dX4_isNow_20
set_option maxHeartbeats 4000000 in
set_option maxRecDepth 100000 in
theorem tX4_opens {ad : Nat → Nat} {ca : Nat → ClassId} {D : va_G} {FU d : Nat} {r : Int32} {N : Mem}  {x0 : Nat} {M : Mem}  (h : fX4_opens FU  x0 M = some (r, N)) : Ct ad ca D yX4_opens cX4_opens 1 (some .boolean) (d + 6) [vR (some x0)] M (QI r N) := by
  refine Ct_of (by decide) (Nat.le_of_ble_eq_true rfl) ?_
  show J ad ca D cX4_opens RX4 1 (d + 6) (Gt ad ca D (some .boolean) (QI r N)) 0 [(0, vR (some x0))] [] M
  unfold fX4_opens at h
  refine J_aload_n (pc := 0) (q := 0) rfl rfl dX4_opens_0 ?_
  obtain ⟨a1, h1, g_1⟩ := bnd h
  refine J_getI (pc := 1) (i := 10) clF4 (by decide) rfl fl_RX4_38 h1 dX4_opens_1 ?_
  refine J_iconst (pc := 4) (v := (5 : Int32)) (by decide) dX4_opens_4 ?_
  refine J_iclt (pc := 5) (tgt := 14) (by decide) dX4_opens_5 (fun hc5 => ?_) (fun hc5 => ?_)
  · rw [if_pos hc5] at g_1
    refine J_aload_n (pc := 14) (q := 0) rfl rfl dX4_opens_14 ?_
    refine J_dup (pc := 15) rfl dX4_opens_15 ?_
    obtain ⟨a16, h16, g_2⟩ := bnd g_1
    refine J_getI (pc := 16) (i := 10) clF4 (by decide) rfl fl_RX4_38 h16 dX4_opens_16 ?_
    refine J_iconst (pc := 19) (v := (1 : Int32)) (by decide) dX4_opens_19 ?_
    refine J_iadd (pc := 20) dX4_opens_20 ?_
    obtain ⟨M21, h21, g_3⟩ := bnd g_2
    refine J_putI (pc := 21) (i := 10) clF4 (by decide) rfl fl_RX4_38 rfl rfl h21 dX4_opens_21 ?_
    refine J_aload_n (pc := 24) (q := 0) rfl rfl dX4_opens_24 ?_
    obtain ⟨b25, hb25, g_4⟩ := bnd g_3
    obtain ⟨M25, h25, g_5⟩ := bnd g_4
    refine J_callVV (pc := 25) (as := []) (tX4_next (d := d)  h25) cf_X4_next cv_X4_next clF4 hb25 ml_RX4_41 (by omega) (Nat.le_of_ble_eq_true rfl) dX4_opens_25 ?_
    refine J_iconst (pc := 28) (v := (1 : Int32)) (by decide) dX4_opens_28 ?_
    exact J_zret (pc := 29) (Or.inr rfl) (qi_of g_5) dX4_opens_29
  · rw [if_neg hc5] at g_1
    refine J_aload_n (pc := 8) (q := 0) rfl rfl dX4_opens_8 ?_
    obtain ⟨b9, hb9, g_6⟩ := bnd g_1
    obtain ⟨M9, h9, g_7⟩ := bnd g_6
    refine J_callVV (pc := 9) (as := []) (tX4_fail (d := d)  h9) cf_X4_fail cv_X4_fail clF4 hb9 ml_RX4_58 (by omega) (Nat.le_of_ble_eq_true rfl) dX4_opens_9 ?_
    refine J_iconst (pc := 12) (v := (0 : Int32)) (by decide) dX4_opens_12 ?_
    exact J_zret (pc := 13) (Or.inl rfl) (qi_of g_7) dX4_opens_13
set_option maxHeartbeats 4000000 in
set_option maxRecDepth 100000 in
theorem jX4_readOne_b110 {ad : Nat → Nat} {ca : Nat → ClassId} {D : va_G} {FU d : Nat} {r : Int32} {N : Mem} {g_X4_readE : Nat → Mem → Option (Int32 × Mem)} {g_X4_readOne : Nat → Mem → Option (Int32 × Mem)}  {x0 : Nat} {x1 : Int32} {s0 : Int32} {M : Mem} (H_X4_readE : ∀ (z : Nat)  (M : Mem) (r : Int32) (N : Mem), g_X4_readE z  M = some (r, N) → Ct ad ca D yX4_readE cX4_readE 4 (some .int) d [vR (some z)] M (QI r N)) (H_X4_readOne : ∀ (z : Nat)  (M : Mem) (r : Int32) (N : Mem), g_X4_readOne z  M = some (r, N) → Ct ad ca D yX4_readOne cX4_readOne 3 (some .int) d [vR (some z)] M (QI r N))  (h : fX4_readOne_b110 FU g_X4_readE g_X4_readOne x0 x1 s0 M = some (r, N)) : J ad ca D cX4_readOne RX4 3 (d + 7) (Gt ad ca D (some .int) (QI r N)) 110 [(0, vR (some x0)), (1, vI x1)] [vI s0] M := by
  unfold fX4_readOne_b110 at h
  refine J_istore_n (pc := 110) rfl (by decide) (lv' := [(0, vR (some x0)), (1, vI x1), (2, vI s0)]) rfl dX4_readOne_110 ?_
  refine J_aload_n (pc := 111) (q := 0) rfl rfl dX4_readOne_111 ?_
  refine J_dup (pc := 112) rfl dX4_readOne_112 ?_
  obtain ⟨a113, h113, g_1⟩ := bnd h
  refine J_getI (pc := 113) (i := 10) clF4 (by decide) rfl fl_RX4_38 h113 dX4_readOne_113 ?_
  refine J_iconst (pc := 116) (v := (1 : Int32)) (by decide) dX4_readOne_116 ?_
  refine J_isub (pc := 117) dX4_readOne_117 ?_
  obtain ⟨M118, h118, g_2⟩ := bnd g_1
  refine J_putI (pc := 118) (i := 10) clF4 (by decide) rfl fl_RX4_38 rfl rfl h118 dX4_readOne_118 ?_
  refine J_iload_n (pc := 121) (q := 1) rfl rfl dX4_readOne_121 ?_
  refine J_ifne (pc := 122) (tgt := 131) (by decide) dX4_readOne_122 (fun hc122 => ?_) (fun hc122 => ?_)
  · rw [if_pos hc122] at g_2
    refine J_iload_n (pc := 131) (q := 2) rfl rfl dX4_readOne_131 ?_
    exact J_iret (pc := 132) (qi_of g_2) dX4_readOne_132
  · rw [if_neg hc122] at g_2
    refine J_aload_n (pc := 125) (q := 0) rfl rfl dX4_readOne_125 ?_
    refine J_bipush (pc := 126) (v := (41 : Int32)) (by decide) dX4_readOne_126 ?_
    obtain ⟨b128, hb128, g_3⟩ := bnd g_2
    obtain ⟨M128, h128, g_4⟩ := bnd g_3
    refine J_callVV (pc := 128) (as := [vI (41 : Int32)]) (tX4_expect (d := d)  h128) cf_X4_expect cv_X4_expect clF4 hb128 ml_RX4_44 (by omega) (Nat.le_of_ble_eq_true rfl) dX4_readOne_128 ?_
    refine J_iload_n (pc := 131) (q := 2) rfl rfl dX4_readOne_131 ?_
    exact J_iret (pc := 132) (qi_of g_4) dX4_readOne_132
set_option maxHeartbeats 4000000 in
set_option maxRecDepth 100000 in
theorem jX4_readOne_b85 {ad : Nat → Nat} {ca : Nat → ClassId} {D : va_G} {FU d : Nat} {r : Int32} {N : Mem} {g_X4_readE : Nat → Mem → Option (Int32 × Mem)} {g_X4_readOne : Nat → Mem → Option (Int32 × Mem)}  {x0 : Nat} {x1 : Int32} {M : Mem} (H_X4_readE : ∀ (z : Nat)  (M : Mem) (r : Int32) (N : Mem), g_X4_readE z  M = some (r, N) → Ct ad ca D yX4_readE cX4_readE 4 (some .int) d [vR (some z)] M (QI r N)) (H_X4_readOne : ∀ (z : Nat)  (M : Mem) (r : Int32) (N : Mem), g_X4_readOne z  M = some (r, N) → Ct ad ca D yX4_readOne cX4_readOne 3 (some .int) d [vR (some z)] M (QI r N))  (h : fX4_readOne_b85 FU g_X4_readE g_X4_readOne x0 x1 M = some (r, N)) : J ad ca D cX4_readOne RX4 3 (d + 7) (Gt ad ca D (some .int) (QI r N)) 85 [(0, vR (some x0)), (1, vI x1)] [] M := by
  unfold fX4_readOne_b85 at h
  refine J_aload_n (pc := 85) (q := 0) rfl rfl dX4_readOne_85 ?_
  obtain ⟨b86, hb86, g_5⟩ := bnd h
  obtain ⟨r86, M86, h86, g_6⟩ := bnd2 g_5
  refine J_callVI (pc := 86) (as := []) (tX4_opens (d := d)  h86) cf_X4_opens cv_X4_opens clF4 hb86 ml_RX4_107 (by omega) (Nat.le_of_ble_eq_true rfl) dX4_readOne_86 ?_
  refine J_ifne (pc := 89) (tgt := 94) (by decide) dX4_readOne_89 (fun hc89 => ?_) (fun hc89 => ?_)
  · rw [if_pos hc89] at g_6
    refine J_iload_n (pc := 94) (q := 1) rfl rfl dX4_readOne_94 ?_
    refine J_ifeq (pc := 95) (tgt := 106) (by decide) dX4_readOne_95 (fun hc95 => ?_) (fun hc95 => ?_)
    · rw [if_pos hc95] at g_6
      refine J_aload_n (pc := 106) (q := 0) rfl rfl dX4_readOne_106 ?_
      obtain ⟨b107, hb107, g_7⟩ := bnd g_6
      obtain ⟨r107, M107, h107, g_8⟩ := bnd2 g_7
      refine J_callVI (pc := 107) (as := []) (H_X4_readE _ _ _ _ h107) cf_X4_readE cv_X4_readE clF4 hb107 ml_RX4_48 (by omega) (Nat.le_of_ble_eq_true rfl) dX4_readOne_107 ?_
      exact jX4_readOne_b110 H_X4_readE H_X4_readOne g_8
    · rw [if_neg hc95] at g_6
      refine J_aload_n (pc := 98) (q := 0) rfl rfl dX4_readOne_98 ?_
      obtain ⟨b99, hb99, g_9⟩ := bnd g_6
      obtain ⟨r99, M99, h99, g_10⟩ := bnd2 g_9
      refine J_callVI (pc := 99) (as := []) (H_X4_readOne _ _ _ _ h99) cf_X4_readOne cv_X4_readOne clF4 hb99 ml_RX4_117 (by omega) (Nat.le_of_ble_eq_true rfl) dX4_readOne_99 ?_
      refine J_ineg (pc := 102) dX4_readOne_102 ?_
      refine J_goto (pc := 103) (tgt := 110) (by decide) dX4_readOne_103 ?_
      exact jX4_readOne_b110 H_X4_readE H_X4_readOne g_10
  · rw [if_neg hc89] at g_6
    refine J_iconst (pc := 92) (v := (0 : Int32)) (by decide) dX4_readOne_92 ?_
    exact J_iret (pc := 93) (qi_of g_6) dX4_readOne_93
set_option maxHeartbeats 4000000 in
set_option maxRecDepth 100000 in
theorem jX4_readOne_b59 {ad : Nat → Nat} {ca : Nat → ClassId} {D : va_G} {FU d : Nat} {r : Int32} {N : Mem} {g_X4_readE : Nat → Mem → Option (Int32 × Mem)} {g_X4_readOne : Nat → Mem → Option (Int32 × Mem)}  {x0 : Nat} {M : Mem} (H_X4_readE : ∀ (z : Nat)  (M : Mem) (r : Int32) (N : Mem), g_X4_readE z  M = some (r, N) → Ct ad ca D yX4_readE cX4_readE 4 (some .int) d [vR (some z)] M (QI r N)) (H_X4_readOne : ∀ (z : Nat)  (M : Mem) (r : Int32) (N : Mem), g_X4_readOne z  M = some (r, N) → Ct ad ca D yX4_readOne cX4_readOne 3 (some .int) d [vR (some z)] M (QI r N))  (h : fX4_readOne_b59 FU g_X4_readE g_X4_readOne x0 M = some (r, N)) : J ad ca D cX4_readOne RX4 3 (d + 7) (Gt ad ca D (some .int) (QI r N)) 59 [(0, vR (some x0))] [] M := by
  unfold fX4_readOne_b59 at h
  refine J_aload_n (pc := 59) (q := 0) rfl rfl dX4_readOne_59 ?_
  refine J_bipush (pc := 60) (v := (45 : Int32)) (by decide) dX4_readOne_60 ?_
  obtain ⟨b62, hb62, g_11⟩ := bnd h
  obtain ⟨r62, M62, h62, g_12⟩ := bnd2 g_11
  refine J_callVI (pc := 62) (as := [vI (45 : Int32)]) (tX4_isNow (d := d)  h62) cf_X4_isNow cv_X4_isNow clF4 hb62 ml_RX4_101 (by omega) (Nat.le_of_ble_eq_true rfl) dX4_readOne_62 ?_
  refine J_istore_n (pc := 65) rfl (by decide) (lv' := [(0, vR (some x0)), (1, vI r62)]) rfl dX4_readOne_65 ?_
  refine J_iload_n (pc := 66) (q := 1) rfl rfl dX4_readOne_66 ?_
  refine J_ifne (pc := 67) (tgt := 85) (by decide) dX4_readOne_67 (fun hc67 => ?_) (fun hc67 => ?_)
  · rw [if_pos hc67] at g_12
    exact jX4_readOne_b85 H_X4_readE H_X4_readOne g_12
  · rw [if_neg hc67] at g_12
    refine J_aload_n (pc := 70) (q := 0) rfl rfl dX4_readOne_70 ?_
    refine J_bipush (pc := 71) (v := (40 : Int32)) (by decide) dX4_readOne_71 ?_
    obtain ⟨b73, hb73, g_13⟩ := bnd g_12
    obtain ⟨r73, M73, h73, g_14⟩ := bnd2 g_13
    refine J_callVI (pc := 73) (as := [vI (40 : Int32)]) (tX4_isNow (d := d)  h73) cf_X4_isNow cv_X4_isNow clF4 hb73 ml_RX4_101 (by omega) (Nat.le_of_ble_eq_true rfl) dX4_readOne_73 ?_
    refine J_ifne (pc := 76) (tgt := 85) (by decide) dX4_readOne_76 (fun hc76 => ?_) (fun hc76 => ?_)
    · rw [if_pos hc76] at g_14
      exact jX4_readOne_b85 H_X4_readE H_X4_readOne g_14
    · rw [if_neg hc76] at g_14
      refine J_aload_n (pc := 79) (q := 0) rfl rfl dX4_readOne_79 ?_
      obtain ⟨b80, hb80, g_15⟩ := bnd g_14
      obtain ⟨M80, h80, g_16⟩ := bnd g_15
      refine J_callVV (pc := 80) (as := []) (tX4_fail (d := d)  h80) cf_X4_fail cv_X4_fail clF4 hb80 ml_RX4_58 (by omega) (Nat.le_of_ble_eq_true rfl) dX4_readOne_80 ?_
      refine J_iconst (pc := 83) (v := (0 : Int32)) (by decide) dX4_readOne_83 ?_
      exact J_iret (pc := 84) (qi_of g_16) dX4_readOne_84
set_option maxHeartbeats 4000000 in
set_option maxRecDepth 100000 in
theorem tX4_readOne {ad : Nat → Nat} {ca : Nat → ClassId} {D : va_G} {FU d : Nat} {r : Int32} {N : Mem} {g_X4_readE : Nat → Mem → Option (Int32 × Mem)} {g_X4_readOne : Nat → Mem → Option (Int32 × Mem)} {x0 : Nat} {M : Mem} (H_X4_readE : ∀ (z : Nat)  (M : Mem) (r : Int32) (N : Mem), g_X4_readE z  M = some (r, N) → Ct ad ca D yX4_readE cX4_readE 4 (some .int) d [vR (some z)] M (QI r N)) (H_X4_readOne : ∀ (z : Nat)  (M : Mem) (r : Int32) (N : Mem), g_X4_readOne z  M = some (r, N) → Ct ad ca D yX4_readOne cX4_readOne 3 (some .int) d [vR (some z)] M (QI r N)) (h : fX4_readOne FU g_X4_readE g_X4_readOne x0 M = some (r, N)) : Ct ad ca D yX4_readOne cX4_readOne 3 (some .int) (d + 7) [vR (some x0)] M (QI r N) := by
  refine Ct_of (by decide) (Nat.le_of_ble_eq_true rfl) ?_
  show J ad ca D cX4_readOne RX4 3 (d + 7) (Gt ad ca D (some .int) (QI r N)) 0 [(0, vR (some x0))] [] M
  unfold fX4_readOne at h
  refine J_aload_n (pc := 0) (q := 0) rfl rfl dX4_readOne_0 ?_
  refine J_bipush (pc := 1) (v := (11 : Int32)) (by decide) dX4_readOne_1 ?_
  obtain ⟨b3, hb3, g_17⟩ := bnd h
  obtain ⟨r3, M3, h3, g_18⟩ := bnd2 g_17
  refine J_callVI (pc := 3) (as := [vI (11 : Int32)]) (tX4_isNow (d := d)  h3) cf_X4_isNow cv_X4_isNow clF4 hb3 ml_RX4_101 (by omega) (Nat.le_of_ble_eq_true rfl) dX4_readOne_3 ?_
  refine J_ifeq (pc := 6) (tgt := 20) (by decide) dX4_readOne_6 (fun hc6 => ?_) (fun hc6 => ?_)
  · rw [if_pos hc6] at g_18
    refine J_aload_n (pc := 20) (q := 0) rfl rfl dX4_readOne_20 ?_
    obtain ⟨a21, h21, g_19⟩ := bnd g_18
    refine J_getI (pc := 21) (i := 3) clF4 (by decide) rfl fl_RX4_15 h21 dX4_readOne_21 ?_
    refine J_ifge (pc := 24) (tgt := 59) (by decide) dX4_readOne_24 (fun hc24 => ?_) (fun hc24 => ?_)
    · rw [if_pos hc24] at g_19
      exact jX4_readOne_b59 H_X4_readE H_X4_readOne g_19
    · rw [if_neg hc24] at g_19
      refine J_aload_n (pc := 27) (q := 0) rfl rfl dX4_readOne_27 ?_
      obtain ⟨a28, h28, g_20⟩ := bnd g_19
      refine J_getI (pc := 28) (i := 7) clF4 (by decide) rfl fl_RX4_23 h28 dX4_readOne_28 ?_
      refine J_iflt (pc := 31) (tgt := 59) (by decide) dX4_readOne_31 (fun hc31 => ?_) (fun hc31 => ?_)
      · rw [if_pos hc31] at g_20
        exact jX4_readOne_b59 H_X4_readE H_X4_readOne g_20
      · rw [if_neg hc31] at g_20
        refine J_aload_n (pc := 34) (q := 0) rfl rfl dX4_readOne_34 ?_
        obtain ⟨a35, h35, g_21⟩ := bnd g_20
        refine J_getI (pc := 35) (i := 7) clF4 (by decide) rfl fl_RX4_23 h35 dX4_readOne_35 ?_
        refine J_bipush (pc := 38) (v := (6 : Int32)) (by decide) dX4_readOne_38 ?_
        refine J_icge (pc := 40) (tgt := 59) (by decide) dX4_readOne_40 (fun hc40 => ?_) (fun hc40 => ?_)
        · rw [if_pos hc40] at g_21
          exact jX4_readOne_b59 H_X4_readE H_X4_readOne g_21
        · rw [if_neg hc40] at g_21
          refine J_aload_n (pc := 43) (q := 0) rfl rfl dX4_readOne_43 ?_
          obtain ⟨a44, h44, g_22⟩ := bnd g_21
          refine J_getR (pc := 44) (i := 0) clF4 (by decide) rfl fl_RX4_11 h44 dX4_readOne_44 ?_
          refine J_aload_n (pc := 47) (q := 0) rfl rfl dX4_readOne_47 ?_
          obtain ⟨a48, h48, g_23⟩ := bnd g_22
          refine J_getI (pc := 48) (i := 7) clF4 (by decide) rfl fl_RX4_23 h48 dX4_readOne_48 ?_
          obtain ⟨a51, h51, g_24⟩ := bnd g_23
          refine J_ald0 (pc := 51) h51 dX4_readOne_51 ?_
          refine J_istore_n (pc := 52) rfl (by decide) (lv' := [(0, vR (some x0)), (1, vI a51)]) rfl dX4_readOne_52 ?_
          refine J_aload_n (pc := 53) (q := 0) rfl rfl dX4_readOne_53 ?_
          obtain ⟨b54, hb54, g_25⟩ := bnd g_24
          obtain ⟨M54, h54, g_26⟩ := bnd g_25
          refine J_callVV (pc := 54) (as := []) (tX4_next (d := d)  h54) cf_X4_next cv_X4_next clF4 hb54 ml_RX4_41 (by omega) (Nat.le_of_ble_eq_true rfl) dX4_readOne_54 ?_
          refine J_iload_n (pc := 57) (q := 1) rfl rfl dX4_readOne_57 ?_
          exact J_iret (pc := 58) (qi_of g_26) dX4_readOne_58
  · rw [if_neg hc6] at g_18
    refine J_aload_n (pc := 9) (q := 0) rfl rfl dX4_readOne_9 ?_
    obtain ⟨a10, h10, g_27⟩ := bnd g_18
    refine J_getI (pc := 10) (i := 9) clF4 (by decide) rfl fl_RX4_95 h10 dX4_readOne_10 ?_
    refine J_istore_n (pc := 13) rfl (by decide) (lv' := [(0, vR (some x0)), (1, vI a10)]) rfl dX4_readOne_13 ?_
    refine J_aload_n (pc := 14) (q := 0) rfl rfl dX4_readOne_14 ?_
    obtain ⟨b15, hb15, g_28⟩ := bnd g_27
    obtain ⟨M15, h15, g_29⟩ := bnd g_28
    refine J_callVV (pc := 15) (as := []) (tX4_next (d := d)  h15) cf_X4_next cv_X4_next clF4 hb15 ml_RX4_41 (by omega) (Nat.le_of_ble_eq_true rfl) dX4_readOne_15 ?_
    refine J_iload_n (pc := 18) (q := 1) rfl rfl dX4_readOne_18 ?_
    exact J_iret (pc := 19) (qi_of g_29) dX4_readOne_19
set_option maxHeartbeats 4000000 in
set_option maxRecDepth 100000 in
theorem jX4_readTerm_L7 {ad : Nat → Nat} {ca : Nat → ClassId} {D : va_G} {FU d : Nat} {r : Int32} {N : Mem} {g_X4_readE : Nat → Mem → Option (Int32 × Mem)} {g_X4_readOne : Nat → Mem → Option (Int32 × Mem)}  {x0 : Nat} (H_X4_readE : ∀ (z : Nat)  (M : Mem) (r : Int32) (N : Mem), g_X4_readE z  M = some (r, N) → Ct ad ca D yX4_readE cX4_readE 4 (some .int) d [vR (some z)] M (QI r N)) (H_X4_readOne : ∀ (z : Nat)  (M : Mem) (r : Int32) (N : Mem), g_X4_readOne z  M = some (r, N) → Ct ad ca D yX4_readOne cX4_readOne 3 (some .int) d [vR (some z)] M (QI r N))  : ∀ (F : Nat) (x1 : Int32) (x2 : Int32) (M : Mem), fX4_readTerm_L7 FU g_X4_readE g_X4_readOne x0 F x1 x2 M = some (r, N) → J ad ca D cX4_readTerm RX4 3 (d + 8) (Gt ad ca D (some .int) (QI r N)) 7 [(0, vR (some x0)), (1, vI x1), (2, vI x2)] [] M := by
  intro F
  induction F with
  | zero =>
    intro x1 x2 M h
    rw [fX4_readTerm_L7] at h
    cases h
  | succ F hk7 =>
    intro x1 x2 M h
    rw [fX4_readTerm_L7] at h
    refine J_iload_n (pc := 7) (q := 2) rfl rfl dX4_readTerm_7 ?_
    refine J_bipush (pc := 8) (v := (120 : Int32)) (by decide) dX4_readTerm_8 ?_
    refine J_icge (pc := 10) (tgt := 39) (by decide) dX4_readTerm_10 (fun hc10 => ?_) (fun hc10 => ?_)
    · rw [if_pos hc10] at h
      refine J_iload_n (pc := 39) (q := 1) rfl rfl dX4_readTerm_39 ?_
      exact J_iret (pc := 40) (qi_of h) dX4_readTerm_40
    · rw [if_neg hc10] at h
      refine J_aload_n (pc := 13) (q := 0) rfl rfl dX4_readTerm_13 ?_
      refine J_bipush (pc := 14) (v := (42 : Int32)) (by decide) dX4_readTerm_14 ?_
      obtain ⟨b16, hb16, g_1⟩ := bnd h
      obtain ⟨r16, M16, h16, g_2⟩ := bnd2 g_1
      refine J_callVI (pc := 16) (as := [vI (42 : Int32)]) (tX4_isNow (d := d)  h16) cf_X4_isNow cv_X4_isNow clF4 hb16 ml_RX4_101 (by omega) (Nat.le_of_ble_eq_true rfl) dX4_readTerm_16 ?_
      refine J_ifeq (pc := 19) (tgt := 39) (by decide) dX4_readTerm_19 (fun hc19 => ?_) (fun hc19 => ?_)
      · rw [if_pos hc19] at g_2
        refine J_iload_n (pc := 39) (q := 1) rfl rfl dX4_readTerm_39 ?_
        exact J_iret (pc := 40) (qi_of g_2) dX4_readTerm_40
      · rw [if_neg hc19] at g_2
        refine J_aload_n (pc := 22) (q := 0) rfl rfl dX4_readTerm_22 ?_
        obtain ⟨b23, hb23, g_3⟩ := bnd g_2
        obtain ⟨M23, h23, g_4⟩ := bnd g_3
        refine J_callVV (pc := 23) (as := []) (tX4_next (d := d)  h23) cf_X4_next cv_X4_next clF4 hb23 ml_RX4_41 (by omega) (Nat.le_of_ble_eq_true rfl) dX4_readTerm_23 ?_
        refine J_iload_n (pc := 26) (q := 1) rfl rfl dX4_readTerm_26 ?_
        refine J_aload_n (pc := 27) (q := 0) rfl rfl dX4_readTerm_27 ?_
        obtain ⟨b28, hb28, g_5⟩ := bnd g_4
        obtain ⟨r28, M28, h28, g_6⟩ := bnd2 g_5
        refine J_callVI (pc := 28) (as := []) (tX4_readOne (d := d) H_X4_readE H_X4_readOne h28) cf_X4_readOne cv_X4_readOne clF4 hb28 ml_RX4_117 (by omega) (Nat.le_of_ble_eq_true rfl) dX4_readTerm_28 ?_
        refine J_imul (pc := 31) dX4_readTerm_31 ?_
        refine J_istore_n (pc := 32) rfl (by decide) (lv' := [(0, vR (some x0)), (2, vI x2), (1, vI (x1 * r28))]) rfl dX4_readTerm_32 ?_
        refine J_iinc (pc := 33) (q := 1) rfl (v := x2 + (1 : Int32)) rfl (by decide) (lv' := [(0, vR (some x0)), (1, vI (x1 * r28)), (2, vI (x2 + (1 : Int32)))]) rfl dX4_readTerm_33 ?_
        refine J_goto (pc := 36) (tgt := 7) (by decide) dX4_readTerm_36 ?_
        exact hk7 _ _ _ g_6
set_option maxHeartbeats 4000000 in
set_option maxRecDepth 100000 in
theorem tX4_readTerm {ad : Nat → Nat} {ca : Nat → ClassId} {D : va_G} {FU d : Nat} {r : Int32} {N : Mem} {g_X4_readE : Nat → Mem → Option (Int32 × Mem)} {g_X4_readOne : Nat → Mem → Option (Int32 × Mem)} {x0 : Nat} {M : Mem} (H_X4_readE : ∀ (z : Nat)  (M : Mem) (r : Int32) (N : Mem), g_X4_readE z  M = some (r, N) → Ct ad ca D yX4_readE cX4_readE 4 (some .int) d [vR (some z)] M (QI r N)) (H_X4_readOne : ∀ (z : Nat)  (M : Mem) (r : Int32) (N : Mem), g_X4_readOne z  M = some (r, N) → Ct ad ca D yX4_readOne cX4_readOne 3 (some .int) d [vR (some z)] M (QI r N)) (h : fX4_readTerm FU g_X4_readE g_X4_readOne x0 M = some (r, N)) : Ct ad ca D yX4_readTerm cX4_readTerm 3 (some .int) (d + 8) [vR (some x0)] M (QI r N) := by
  refine Ct_of (by decide) (Nat.le_of_ble_eq_true rfl) ?_
  show J ad ca D cX4_readTerm RX4 3 (d + 8) (Gt ad ca D (some .int) (QI r N)) 0 [(0, vR (some x0))] [] M
  unfold fX4_readTerm at h
  refine J_aload_n (pc := 0) (q := 0) rfl rfl dX4_readTerm_0 ?_
  obtain ⟨b1, hb1, g_7⟩ := bnd h
  obtain ⟨r1, M1, h1, g_8⟩ := bnd2 g_7
  refine J_callVI (pc := 1) (as := []) (tX4_readOne (d := d) H_X4_readE H_X4_readOne h1) cf_X4_readOne cv_X4_readOne clF4 hb1 ml_RX4_117 (by omega) (Nat.le_of_ble_eq_true rfl) dX4_readTerm_1 ?_
  refine J_istore_n (pc := 4) rfl (by decide) (lv' := [(0, vR (some x0)), (1, vI r1)]) rfl dX4_readTerm_4 ?_
  refine J_iconst (pc := 5) (v := (0 : Int32)) (by decide) dX4_readTerm_5 ?_
  refine J_istore_n (pc := 6) rfl (by decide) (lv' := [(0, vR (some x0)), (1, vI r1), (2, vI (0 : Int32))]) rfl dX4_readTerm_6 ?_
  exact jX4_readTerm_L7 H_X4_readE H_X4_readOne FU _ _ _ g_8
set_option maxHeartbeats 4000000 in
set_option maxRecDepth 100000 in
theorem jX4_readSum_b71 {ad : Nat → Nat} {ca : Nat → ClassId} {D : va_G} {FU d : Nat} {r : Int32} {N : Mem} {g_X4_readE : Nat → Mem → Option (Int32 × Mem)} {g_X4_readOne : Nat → Mem → Option (Int32 × Mem)} {k7 : Int32 → Int32 → Mem → Option (Int32 × Mem)} {x0 : Nat} {x2 : Int32} {s0 : Int32} {M : Mem} (H_X4_readE : ∀ (z : Nat)  (M : Mem) (r : Int32) (N : Mem), g_X4_readE z  M = some (r, N) → Ct ad ca D yX4_readE cX4_readE 4 (some .int) d [vR (some z)] M (QI r N)) (H_X4_readOne : ∀ (z : Nat)  (M : Mem) (r : Int32) (N : Mem), g_X4_readOne z  M = some (r, N) → Ct ad ca D yX4_readOne cX4_readOne 3 (some .int) d [vR (some z)] M (QI r N)) (hk7 : ∀ (y1 : Int32) (y2 : Int32) (M : Mem), k7 y1 y2 M = some (r, N) → J ad ca D cX4_readSum RX4 5 (d + 9) (Gt ad ca D (some .int) (QI r N)) 7 [(0, vR (some x0)), (1, vI y1), (2, vI y2)] [] M) (h : fX4_readSum_b71 FU g_X4_readE g_X4_readOne k7 x0 x2 s0 M = some (r, N)) : J ad ca D cX4_readSum RX4 5 (d + 9) (Gt ad ca D (some .int) (QI r N)) 71 [(0, vR (some x0)), (2, vI x2)] [vI s0] M := by
  unfold fX4_readSum_b71 at h
  refine J_istore_n (pc := 71) rfl (by decide) (lv' := [(0, vR (some x0)), (2, vI x2), (1, vI s0)]) rfl dX4_readSum_71 ?_
  refine J_iinc (pc := 72) (q := 1) rfl (v := x2 + (1 : Int32)) rfl (by decide) (lv' := [(0, vR (some x0)), (1, vI s0), (2, vI (x2 + (1 : Int32)))]) rfl dX4_readSum_72 ?_
  refine J_goto (pc := 75) (tgt := 7) (by decide) dX4_readSum_75 ?_
  exact hk7 _ _ _ h
set_option maxHeartbeats 4000000 in
set_option maxRecDepth 100000 in
theorem jX4_readSum_b45 {ad : Nat → Nat} {ca : Nat → ClassId} {D : va_G} {FU d : Nat} {r : Int32} {N : Mem} {g_X4_readE : Nat → Mem → Option (Int32 × Mem)} {g_X4_readOne : Nat → Mem → Option (Int32 × Mem)} {k7 : Int32 → Int32 → Mem → Option (Int32 × Mem)} {x0 : Nat} {x1 : Int32} {x2 : Int32} {s0 : Int32} {M : Mem} (H_X4_readE : ∀ (z : Nat)  (M : Mem) (r : Int32) (N : Mem), g_X4_readE z  M = some (r, N) → Ct ad ca D yX4_readE cX4_readE 4 (some .int) d [vR (some z)] M (QI r N)) (H_X4_readOne : ∀ (z : Nat)  (M : Mem) (r : Int32) (N : Mem), g_X4_readOne z  M = some (r, N) → Ct ad ca D yX4_readOne cX4_readOne 3 (some .int) d [vR (some z)] M (QI r N)) (hk7 : ∀ (y1 : Int32) (y2 : Int32) (M : Mem), k7 y1 y2 M = some (r, N) → J ad ca D cX4_readSum RX4 5 (d + 9) (Gt ad ca D (some .int) (QI r N)) 7 [(0, vR (some x0)), (1, vI y1), (2, vI y2)] [] M) (h : fX4_readSum_b45 FU g_X4_readE g_X4_readOne k7 x0 x1 x2 s0 M = some (r, N)) : J ad ca D cX4_readSum RX4 5 (d + 9) (Gt ad ca D (some .int) (QI r N)) 45 [(0, vR (some x0)), (1, vI x1), (2, vI x2)] [vI s0] M := by
  unfold fX4_readSum_b45 at h
  refine J_istore_n (pc := 45) rfl (by decide) (lv' := [(0, vR (some x0)), (1, vI x1), (2, vI x2), (3, vI s0)]) rfl dX4_readSum_45 ?_
  refine J_aload_n (pc := 46) (q := 0) rfl rfl dX4_readSum_46 ?_
  obtain ⟨b47, hb47, g_1⟩ := bnd h
  obtain ⟨M47, h47, g_2⟩ := bnd g_1
  refine J_callVV (pc := 47) (as := []) (tX4_next (d := d)  h47) cf_X4_next cv_X4_next clF4 hb47 ml_RX4_41 (by omega) (Nat.le_of_ble_eq_true rfl) dX4_readSum_47 ?_
  refine J_aload_n (pc := 50) (q := 0) rfl rfl dX4_readSum_50 ?_
  obtain ⟨b51, hb51, g_3⟩ := bnd g_2
  obtain ⟨r51, M51, h51, g_4⟩ := bnd2 g_3
  refine J_callVI (pc := 51) (as := []) (tX4_readTerm (d := d) H_X4_readE H_X4_readOne h51) cf_X4_readTerm cv_X4_readTerm clF4 hb51 ml_RX4_114 (by omega) (Nat.le_of_ble_eq_true rfl) dX4_readSum_51 ?_
  refine J_istore (pc := 54) (by decide) (lv' := [(0, vR (some x0)), (1, vI x1), (2, vI x2), (3, vI s0), (4, vI r51)]) rfl dX4_readSum_54 ?_
  refine J_iload_n (pc := 56) (q := 3) rfl rfl dX4_readSum_56 ?_
  refine J_ifeq (pc := 57) (tgt := 67) (by decide) dX4_readSum_57 (fun hc57 => ?_) (fun hc57 => ?_)
  · rw [if_pos hc57] at g_4
    refine J_iload_n (pc := 67) (q := 1) rfl rfl dX4_readSum_67 ?_
    refine J_iload (pc := 68) (q := 4) rfl dX4_readSum_68 ?_
    refine J_isub (pc := 70) dX4_readSum_70 ?_
    refine J_sub [0, 2] (lv' := [(0, vR (some x0)), (2, vI x2)]) rfl ?_
    exact jX4_readSum_b71 H_X4_readE H_X4_readOne hk7 g_4
  · rw [if_neg hc57] at g_4
    refine J_iload_n (pc := 60) (q := 1) rfl rfl dX4_readSum_60 ?_
    refine J_iload (pc := 61) (q := 4) rfl dX4_readSum_61 ?_
    refine J_iadd (pc := 63) dX4_readSum_63 ?_
    refine J_goto (pc := 64) (tgt := 71) (by decide) dX4_readSum_64 ?_
    refine J_sub [0, 2] (lv' := [(0, vR (some x0)), (2, vI x2)]) rfl ?_
    exact jX4_readSum_b71 H_X4_readE H_X4_readOne hk7 g_4
set_option maxHeartbeats 4000000 in
set_option maxRecDepth 100000 in
theorem jX4_readSum_b31 {ad : Nat → Nat} {ca : Nat → ClassId} {D : va_G} {FU d : Nat} {r : Int32} {N : Mem} {g_X4_readE : Nat → Mem → Option (Int32 × Mem)} {g_X4_readOne : Nat → Mem → Option (Int32 × Mem)} {k7 : Int32 → Int32 → Mem → Option (Int32 × Mem)} {x0 : Nat} {x1 : Int32} {x2 : Int32} {M : Mem} (H_X4_readE : ∀ (z : Nat)  (M : Mem) (r : Int32) (N : Mem), g_X4_readE z  M = some (r, N) → Ct ad ca D yX4_readE cX4_readE 4 (some .int) d [vR (some z)] M (QI r N)) (H_X4_readOne : ∀ (z : Nat)  (M : Mem) (r : Int32) (N : Mem), g_X4_readOne z  M = some (r, N) → Ct ad ca D yX4_readOne cX4_readOne 3 (some .int) d [vR (some z)] M (QI r N)) (hk7 : ∀ (y1 : Int32) (y2 : Int32) (M : Mem), k7 y1 y2 M = some (r, N) → J ad ca D cX4_readSum RX4 5 (d + 9) (Gt ad ca D (some .int) (QI r N)) 7 [(0, vR (some x0)), (1, vI y1), (2, vI y2)] [] M) (h : fX4_readSum_b31 FU g_X4_readE g_X4_readOne k7 x0 x1 x2 M = some (r, N)) : J ad ca D cX4_readSum RX4 5 (d + 9) (Gt ad ca D (some .int) (QI r N)) 31 [(0, vR (some x0)), (1, vI x1), (2, vI x2)] [] M := by
  unfold fX4_readSum_b31 at h
  refine J_aload_n (pc := 31) (q := 0) rfl rfl dX4_readSum_31 ?_
  obtain ⟨a32, h32, g_5⟩ := bnd h
  refine J_getI (pc := 32) (i := 7) clF4 (by decide) rfl fl_RX4_23 h32 dX4_readSum_32 ?_
  refine J_bipush (pc := 35) (v := (43 : Int32)) (by decide) dX4_readSum_35 ?_
  refine J_icne (pc := 37) (tgt := 44) (by decide) dX4_readSum_37 (fun hc37 => ?_) (fun hc37 => ?_)
  · rw [if_pos hc37] at g_5
    refine J_iconst (pc := 44) (v := (0 : Int32)) (by decide) dX4_readSum_44 ?_
    exact jX4_readSum_b45 H_X4_readE H_X4_readOne hk7 g_5
  · rw [if_neg hc37] at g_5
    refine J_iconst (pc := 40) (v := (1 : Int32)) (by decide) dX4_readSum_40 ?_
    refine J_goto (pc := 41) (tgt := 45) (by decide) dX4_readSum_41 ?_
    exact jX4_readSum_b45 H_X4_readE H_X4_readOne hk7 g_5
set_option maxHeartbeats 4000000 in
set_option maxRecDepth 100000 in
theorem jX4_readSum_L7 {ad : Nat → Nat} {ca : Nat → ClassId} {D : va_G} {FU d : Nat} {r : Int32} {N : Mem} {g_X4_readE : Nat → Mem → Option (Int32 × Mem)} {g_X4_readOne : Nat → Mem → Option (Int32 × Mem)}  {x0 : Nat} (H_X4_readE : ∀ (z : Nat)  (M : Mem) (r : Int32) (N : Mem), g_X4_readE z  M = some (r, N) → Ct ad ca D yX4_readE cX4_readE 4 (some .int) d [vR (some z)] M (QI r N)) (H_X4_readOne : ∀ (z : Nat)  (M : Mem) (r : Int32) (N : Mem), g_X4_readOne z  M = some (r, N) → Ct ad ca D yX4_readOne cX4_readOne 3 (some .int) d [vR (some z)] M (QI r N))  : ∀ (F : Nat) (x1 : Int32) (x2 : Int32) (M : Mem), fX4_readSum_L7 FU g_X4_readE g_X4_readOne x0 F x1 x2 M = some (r, N) → J ad ca D cX4_readSum RX4 5 (d + 9) (Gt ad ca D (some .int) (QI r N)) 7 [(0, vR (some x0)), (1, vI x1), (2, vI x2)] [] M := by
  intro F
  induction F with
  | zero =>
    intro x1 x2 M h
    rw [fX4_readSum_L7] at h
    cases h
  | succ F hk7 =>
    intro x1 x2 M h
    rw [fX4_readSum_L7] at h
    refine J_iload_n (pc := 7) (q := 2) rfl rfl dX4_readSum_7 ?_
    refine J_bipush (pc := 8) (v := (120 : Int32)) (by decide) dX4_readSum_8 ?_
    refine J_icge (pc := 10) (tgt := 78) (by decide) dX4_readSum_10 (fun hc10 => ?_) (fun hc10 => ?_)
    · rw [if_pos hc10] at h
      refine J_iload_n (pc := 78) (q := 1) rfl rfl dX4_readSum_78 ?_
      exact J_iret (pc := 79) (qi_of h) dX4_readSum_79
    · rw [if_neg hc10] at h
      refine J_aload_n (pc := 13) (q := 0) rfl rfl dX4_readSum_13 ?_
      refine J_bipush (pc := 14) (v := (43 : Int32)) (by decide) dX4_readSum_14 ?_
      obtain ⟨b16, hb16, g_6⟩ := bnd h
      obtain ⟨r16, M16, h16, g_7⟩ := bnd2 g_6
      refine J_callVI (pc := 16) (as := [vI (43 : Int32)]) (tX4_isNow (d := d)  h16) cf_X4_isNow cv_X4_isNow clF4 hb16 ml_RX4_101 (by omega) (Nat.le_of_ble_eq_true rfl) dX4_readSum_16 ?_
      refine J_ifne (pc := 19) (tgt := 31) (by decide) dX4_readSum_19 (fun hc19 => ?_) (fun hc19 => ?_)
      · rw [if_pos hc19] at g_7
        exact jX4_readSum_b31 H_X4_readE H_X4_readOne hk7 g_7
      · rw [if_neg hc19] at g_7
        refine J_aload_n (pc := 22) (q := 0) rfl rfl dX4_readSum_22 ?_
        refine J_bipush (pc := 23) (v := (45 : Int32)) (by decide) dX4_readSum_23 ?_
        obtain ⟨b25, hb25, g_8⟩ := bnd g_7
        obtain ⟨r25, M25, h25, g_9⟩ := bnd2 g_8
        refine J_callVI (pc := 25) (as := [vI (45 : Int32)]) (tX4_isNow (d := d)  h25) cf_X4_isNow cv_X4_isNow clF4 hb25 ml_RX4_101 (by omega) (Nat.le_of_ble_eq_true rfl) dX4_readSum_25 ?_
        refine J_ifeq (pc := 28) (tgt := 78) (by decide) dX4_readSum_28 (fun hc28 => ?_) (fun hc28 => ?_)
        · rw [if_pos hc28] at g_9
          refine J_iload_n (pc := 78) (q := 1) rfl rfl dX4_readSum_78 ?_
          exact J_iret (pc := 79) (qi_of g_9) dX4_readSum_79
        · rw [if_neg hc28] at g_9
          exact jX4_readSum_b31 H_X4_readE H_X4_readOne hk7 g_9
set_option maxHeartbeats 4000000 in
set_option maxRecDepth 100000 in
theorem tX4_readSum {ad : Nat → Nat} {ca : Nat → ClassId} {D : va_G} {FU d : Nat} {r : Int32} {N : Mem} {g_X4_readE : Nat → Mem → Option (Int32 × Mem)} {g_X4_readOne : Nat → Mem → Option (Int32 × Mem)} {x0 : Nat} {M : Mem} (H_X4_readE : ∀ (z : Nat)  (M : Mem) (r : Int32) (N : Mem), g_X4_readE z  M = some (r, N) → Ct ad ca D yX4_readE cX4_readE 4 (some .int) d [vR (some z)] M (QI r N)) (H_X4_readOne : ∀ (z : Nat)  (M : Mem) (r : Int32) (N : Mem), g_X4_readOne z  M = some (r, N) → Ct ad ca D yX4_readOne cX4_readOne 3 (some .int) d [vR (some z)] M (QI r N)) (h : fX4_readSum FU g_X4_readE g_X4_readOne x0 M = some (r, N)) : Ct ad ca D yX4_readSum cX4_readSum 5 (some .int) (d + 9) [vR (some x0)] M (QI r N) := by
  refine Ct_of (by decide) (Nat.le_of_ble_eq_true rfl) ?_
  show J ad ca D cX4_readSum RX4 5 (d + 9) (Gt ad ca D (some .int) (QI r N)) 0 [(0, vR (some x0))] [] M
  unfold fX4_readSum at h
  refine J_aload_n (pc := 0) (q := 0) rfl rfl dX4_readSum_0 ?_
  obtain ⟨b1, hb1, g_10⟩ := bnd h
  obtain ⟨r1, M1, h1, g_11⟩ := bnd2 g_10
  refine J_callVI (pc := 1) (as := []) (tX4_readTerm (d := d) H_X4_readE H_X4_readOne h1) cf_X4_readTerm cv_X4_readTerm clF4 hb1 ml_RX4_114 (by omega) (Nat.le_of_ble_eq_true rfl) dX4_readSum_1 ?_
  refine J_istore_n (pc := 4) rfl (by decide) (lv' := [(0, vR (some x0)), (1, vI r1)]) rfl dX4_readSum_4 ?_
  refine J_iconst (pc := 5) (v := (0 : Int32)) (by decide) dX4_readSum_5 ?_
  refine J_istore_n (pc := 6) rfl (by decide) (lv' := [(0, vR (some x0)), (1, vI r1), (2, vI (0 : Int32))]) rfl dX4_readSum_6 ?_
  exact jX4_readSum_L7 H_X4_readE H_X4_readOne FU _ _ _ g_11
set_option maxHeartbeats 4000000 in
set_option maxRecDepth 100000 in
theorem tX4_readNot {ad : Nat → Nat} {ca : Nat → ClassId} {D : va_G} {FU d : Nat} {r : Int32} {N : Mem} {g_X4_readE : Nat → Mem → Option (Int32 × Mem)} {g_X4_readOne : Nat → Mem → Option (Int32 × Mem)} {g_X4_readNot : Nat → Mem → Option (Int32 × Mem)} {x0 : Nat} {M : Mem} (H_X4_readE : ∀ (z : Nat)  (M : Mem) (r : Int32) (N : Mem), g_X4_readE z  M = some (r, N) → Ct ad ca D yX4_readE cX4_readE 4 (some .int) d [vR (some z)] M (QI r N)) (H_X4_readOne : ∀ (z : Nat)  (M : Mem) (r : Int32) (N : Mem), g_X4_readOne z  M = some (r, N) → Ct ad ca D yX4_readOne cX4_readOne 3 (some .int) d [vR (some z)] M (QI r N)) (H_X4_readNot : ∀ (z : Nat)  (M : Mem) (r : Int32) (N : Mem), g_X4_readNot z  M = some (r, N) → Ct ad ca D yX4_readNot cX4_readNot 2 (some .int) d [vR (some z)] M (QI r N)) (h : fX4_readNot FU g_X4_readE g_X4_readOne g_X4_readNot x0 M = some (r, N)) : Ct ad ca D yX4_readNot cX4_readNot 2 (some .int) (d + 10) [vR (some x0)] M (QI r N) := by
  refine Ct_of (by decide) (Nat.le_of_ble_eq_true rfl) ?_
  show J ad ca D cX4_readNot RX4 2 (d + 10) (Gt ad ca D (some .int) (QI r N)) 0 [(0, vR (some x0))] [] M
  unfold fX4_readNot at h
  refine J_aload_n (pc := 0) (q := 0) rfl rfl dX4_readNot_0 ?_
  refine J_bipush (pc := 1) (v := (10 : Int32)) (by decide) dX4_readNot_1 ?_
  obtain ⟨b3, hb3, g_1⟩ := bnd h
  obtain ⟨r3, M3, h3, g_2⟩ := bnd2 g_1
  refine J_callVI (pc := 3) (as := [vI (10 : Int32)]) (tX4_isNow (d := d)  h3) cf_X4_isNow cv_X4_isNow clF4 hb3 ml_RX4_101 (by omega) (Nat.le_of_ble_eq_true rfl) dX4_readNot_3 ?_
  refine J_ifeq (pc := 6) (tgt := 43) (by decide) dX4_readNot_6 (fun hc6 => ?_) (fun hc6 => ?_)
  · rw [if_pos hc6] at g_2
    refine J_aload_n (pc := 43) (q := 0) rfl rfl dX4_readNot_43 ?_
    obtain ⟨b44, hb44, g_3⟩ := bnd g_2
    obtain ⟨r44, M44, h44, g_4⟩ := bnd2 g_3
    refine J_callVI (pc := 44) (as := []) (tX4_readSum (d := d) H_X4_readE H_X4_readOne h44) cf_X4_readSum cv_X4_readSum clF4 hb44 ml_RX4_111 (by omega) (Nat.le_of_ble_eq_true rfl) dX4_readNot_44 ?_
    refine J_istore_n (pc := 47) rfl (by decide) (lv' := [(0, vR (some x0)), (1, vI r44)]) rfl dX4_readNot_47 ?_
    refine J_aload_n (pc := 48) (q := 0) rfl rfl dX4_readNot_48 ?_
    refine J_bipush (pc := 49) (v := (60 : Int32)) (by decide) dX4_readNot_49 ?_
    obtain ⟨b51, hb51, g_5⟩ := bnd g_4
    obtain ⟨r51, M51, h51, g_6⟩ := bnd2 g_5
    refine J_callVI (pc := 51) (as := [vI (60 : Int32)]) (tX4_isNow (d := d)  h51) cf_X4_isNow cv_X4_isNow clF4 hb51 ml_RX4_101 (by omega) (Nat.le_of_ble_eq_true rfl) dX4_readNot_51 ?_
    refine J_ifeq (pc := 54) (tgt := 75) (by decide) dX4_readNot_54 (fun hc54 => ?_) (fun hc54 => ?_)
    · rw [if_pos hc54] at g_6
      refine J_aload_n (pc := 75) (q := 0) rfl rfl dX4_readNot_75 ?_
      refine J_bipush (pc := 76) (v := (61 : Int32)) (by decide) dX4_readNot_76 ?_
      obtain ⟨b78, hb78, g_7⟩ := bnd g_6
      obtain ⟨r78, M78, h78, g_8⟩ := bnd2 g_7
      refine J_callVI (pc := 78) (as := [vI (61 : Int32)]) (tX4_isNow (d := d)  h78) cf_X4_isNow cv_X4_isNow clF4 hb78 ml_RX4_101 (by omega) (Nat.le_of_ble_eq_true rfl) dX4_readNot_78 ?_
      refine J_ifeq (pc := 81) (tgt := 102) (by decide) dX4_readNot_81 (fun hc81 => ?_) (fun hc81 => ?_)
      · rw [if_pos hc81] at g_8
        refine J_iload_n (pc := 102) (q := 1) rfl rfl dX4_readNot_102 ?_
        exact J_iret (pc := 103) (qi_of g_8) dX4_readNot_103
      · rw [if_neg hc81] at g_8
        refine J_aload_n (pc := 84) (q := 0) rfl rfl dX4_readNot_84 ?_
        obtain ⟨b85, hb85, g_9⟩ := bnd g_8
        obtain ⟨M85, h85, g_10⟩ := bnd g_9
        refine J_callVV (pc := 85) (as := []) (tX4_next (d := d)  h85) cf_X4_next cv_X4_next clF4 hb85 ml_RX4_41 (by omega) (Nat.le_of_ble_eq_true rfl) dX4_readNot_85 ?_
        refine J_iload_n (pc := 88) (q := 1) rfl rfl dX4_readNot_88 ?_
        refine J_aload_n (pc := 89) (q := 0) rfl rfl dX4_readNot_89 ?_
        obtain ⟨b90, hb90, g_11⟩ := bnd g_10
        obtain ⟨r90, M90, h90, g_12⟩ := bnd2 g_11
        refine J_callVI (pc := 90) (as := []) (tX4_readSum (d := d) H_X4_readE H_X4_readOne h90) cf_X4_readSum cv_X4_readSum clF4 hb90 ml_RX4_111 (by omega) (Nat.le_of_ble_eq_true rfl) dX4_readNot_90 ?_
        refine J_icne (pc := 93) (tgt := 100) (by decide) dX4_readNot_93 (fun hc93 => ?_) (fun hc93 => ?_)
        · rw [if_pos hc93] at g_12
          refine J_iconst (pc := 100) (v := (0 : Int32)) (by decide) dX4_readNot_100 ?_
          exact J_iret (pc := 101) (qi_of g_12) dX4_readNot_101
        · rw [if_neg hc93] at g_12
          refine J_iconst (pc := 96) (v := (1 : Int32)) (by decide) dX4_readNot_96 ?_
          refine J_goto (pc := 97) (tgt := 101) (by decide) dX4_readNot_97 ?_
          exact J_iret (pc := 101) (qi_of g_12) dX4_readNot_101
    · rw [if_neg hc54] at g_6
      refine J_aload_n (pc := 57) (q := 0) rfl rfl dX4_readNot_57 ?_
      obtain ⟨b58, hb58, g_13⟩ := bnd g_6
      obtain ⟨M58, h58, g_14⟩ := bnd g_13
      refine J_callVV (pc := 58) (as := []) (tX4_next (d := d)  h58) cf_X4_next cv_X4_next clF4 hb58 ml_RX4_41 (by omega) (Nat.le_of_ble_eq_true rfl) dX4_readNot_58 ?_
      refine J_iload_n (pc := 61) (q := 1) rfl rfl dX4_readNot_61 ?_
      refine J_aload_n (pc := 62) (q := 0) rfl rfl dX4_readNot_62 ?_
      obtain ⟨b63, hb63, g_15⟩ := bnd g_14
      obtain ⟨r63, M63, h63, g_16⟩ := bnd2 g_15
      refine J_callVI (pc := 63) (as := []) (tX4_readSum (d := d) H_X4_readE H_X4_readOne h63) cf_X4_readSum cv_X4_readSum clF4 hb63 ml_RX4_111 (by omega) (Nat.le_of_ble_eq_true rfl) dX4_readNot_63 ?_
      refine J_icge (pc := 66) (tgt := 73) (by decide) dX4_readNot_66 (fun hc66 => ?_) (fun hc66 => ?_)
      · rw [if_pos hc66] at g_16
        refine J_iconst (pc := 73) (v := (0 : Int32)) (by decide) dX4_readNot_73 ?_
        exact J_iret (pc := 74) (qi_of g_16) dX4_readNot_74
      · rw [if_neg hc66] at g_16
        refine J_iconst (pc := 69) (v := (1 : Int32)) (by decide) dX4_readNot_69 ?_
        refine J_goto (pc := 70) (tgt := 74) (by decide) dX4_readNot_70 ?_
        exact J_iret (pc := 74) (qi_of g_16) dX4_readNot_74
  · rw [if_neg hc6] at g_2
    refine J_aload_n (pc := 9) (q := 0) rfl rfl dX4_readNot_9 ?_
    obtain ⟨b10, hb10, g_17⟩ := bnd g_2
    obtain ⟨r10, M10, h10, g_18⟩ := bnd2 g_17
    refine J_callVI (pc := 10) (as := []) (tX4_opens (d := d)  h10) cf_X4_opens cv_X4_opens clF4 hb10 ml_RX4_107 (by omega) (Nat.le_of_ble_eq_true rfl) dX4_readNot_10 ?_
    refine J_ifne (pc := 13) (tgt := 18) (by decide) dX4_readNot_13 (fun hc13 => ?_) (fun hc13 => ?_)
    · rw [if_pos hc13] at g_18
      refine J_aload_n (pc := 18) (q := 0) rfl rfl dX4_readNot_18 ?_
      obtain ⟨b19, hb19, g_19⟩ := bnd g_18
      obtain ⟨r19, M19, h19, g_20⟩ := bnd2 g_19
      refine J_callVI (pc := 19) (as := []) (H_X4_readNot _ _ _ _ h19) cf_X4_readNot cv_X4_readNot clF4 hb19 ml_RX4_104 (by omega) (Nat.le_of_ble_eq_true rfl) dX4_readNot_19 ?_
      refine J_istore_n (pc := 22) rfl (by decide) (lv' := [(0, vR (some x0)), (1, vI r19)]) rfl dX4_readNot_22 ?_
      refine J_aload_n (pc := 23) (q := 0) rfl rfl dX4_readNot_23 ?_
      refine J_dup (pc := 24) rfl dX4_readNot_24 ?_
      obtain ⟨a25, h25, g_21⟩ := bnd g_20
      refine J_getI (pc := 25) (i := 10) clF4 (by decide) rfl fl_RX4_38 h25 dX4_readNot_25 ?_
      refine J_iconst (pc := 28) (v := (1 : Int32)) (by decide) dX4_readNot_28 ?_
      refine J_isub (pc := 29) dX4_readNot_29 ?_
      obtain ⟨M30, h30, g_22⟩ := bnd g_21
      refine J_putI (pc := 30) (i := 10) clF4 (by decide) rfl fl_RX4_38 rfl rfl h30 dX4_readNot_30 ?_
      refine J_iload_n (pc := 33) (q := 1) rfl rfl dX4_readNot_33 ?_
      refine J_ifne (pc := 34) (tgt := 41) (by decide) dX4_readNot_34 (fun hc34 => ?_) (fun hc34 => ?_)
      · rw [if_pos hc34] at g_22
        refine J_iconst (pc := 41) (v := (0 : Int32)) (by decide) dX4_readNot_41 ?_
        exact J_iret (pc := 42) (qi_of g_22) dX4_readNot_42
      · rw [if_neg hc34] at g_22
        refine J_iconst (pc := 37) (v := (1 : Int32)) (by decide) dX4_readNot_37 ?_
        refine J_goto (pc := 38) (tgt := 42) (by decide) dX4_readNot_38 ?_
        exact J_iret (pc := 42) (qi_of g_22) dX4_readNot_42
    · rw [if_neg hc13] at g_18
      refine J_iconst (pc := 16) (v := (0 : Int32)) (by decide) dX4_readNot_16 ?_
      exact J_iret (pc := 17) (qi_of g_18) dX4_readNot_17
set_option maxHeartbeats 4000000 in
set_option maxRecDepth 100000 in
theorem jX4_readAnd_b44 {ad : Nat → Nat} {ca : Nat → ClassId} {D : va_G} {FU d : Nat} {r : Int32} {N : Mem} {g_X4_readE : Nat → Mem → Option (Int32 × Mem)} {g_X4_readOne : Nat → Mem → Option (Int32 × Mem)} {g_X4_readNot : Nat → Mem → Option (Int32 × Mem)} {k7 : Int32 → Int32 → Mem → Option (Int32 × Mem)} {x0 : Nat} {x2 : Int32} {s0 : Int32} {M : Mem} (H_X4_readE : ∀ (z : Nat)  (M : Mem) (r : Int32) (N : Mem), g_X4_readE z  M = some (r, N) → Ct ad ca D yX4_readE cX4_readE 4 (some .int) d [vR (some z)] M (QI r N)) (H_X4_readOne : ∀ (z : Nat)  (M : Mem) (r : Int32) (N : Mem), g_X4_readOne z  M = some (r, N) → Ct ad ca D yX4_readOne cX4_readOne 3 (some .int) d [vR (some z)] M (QI r N)) (H_X4_readNot : ∀ (z : Nat)  (M : Mem) (r : Int32) (N : Mem), g_X4_readNot z  M = some (r, N) → Ct ad ca D yX4_readNot cX4_readNot 2 (some .int) d [vR (some z)] M (QI r N)) (hk7 : ∀ (y1 : Int32) (y2 : Int32) (M : Mem), k7 y1 y2 M = some (r, N) → J ad ca D cX4_readAnd RX4 4 (d + 11) (Gt ad ca D (some .int) (QI r N)) 7 [(0, vR (some x0)), (1, vI y1), (2, vI y2)] [] M) (h : fX4_readAnd_b44 FU g_X4_readE g_X4_readOne g_X4_readNot k7 x0 x2 s0 M = some (r, N)) : J ad ca D cX4_readAnd RX4 4 (d + 11) (Gt ad ca D (some .int) (QI r N)) 44 [(0, vR (some x0)), (2, vI x2)] [vI s0] M := by
  unfold fX4_readAnd_b44 at h
  refine J_istore_n (pc := 44) rfl (by decide) (lv' := [(0, vR (some x0)), (2, vI x2), (1, vI s0)]) rfl dX4_readAnd_44 ?_
  refine J_iinc (pc := 45) (q := 1) rfl (v := x2 + (1 : Int32)) rfl (by decide) (lv' := [(0, vR (some x0)), (1, vI s0), (2, vI (x2 + (1 : Int32)))]) rfl dX4_readAnd_45 ?_
  refine J_goto (pc := 48) (tgt := 7) (by decide) dX4_readAnd_48 ?_
  exact hk7 _ _ _ h
set_option maxHeartbeats 4000000 in
set_option maxRecDepth 100000 in
theorem jX4_readAnd_b43 {ad : Nat → Nat} {ca : Nat → ClassId} {D : va_G} {FU d : Nat} {r : Int32} {N : Mem} {g_X4_readE : Nat → Mem → Option (Int32 × Mem)} {g_X4_readOne : Nat → Mem → Option (Int32 × Mem)} {g_X4_readNot : Nat → Mem → Option (Int32 × Mem)} {k7 : Int32 → Int32 → Mem → Option (Int32 × Mem)} {x0 : Nat} {x2 : Int32} {M : Mem} (H_X4_readE : ∀ (z : Nat)  (M : Mem) (r : Int32) (N : Mem), g_X4_readE z  M = some (r, N) → Ct ad ca D yX4_readE cX4_readE 4 (some .int) d [vR (some z)] M (QI r N)) (H_X4_readOne : ∀ (z : Nat)  (M : Mem) (r : Int32) (N : Mem), g_X4_readOne z  M = some (r, N) → Ct ad ca D yX4_readOne cX4_readOne 3 (some .int) d [vR (some z)] M (QI r N)) (H_X4_readNot : ∀ (z : Nat)  (M : Mem) (r : Int32) (N : Mem), g_X4_readNot z  M = some (r, N) → Ct ad ca D yX4_readNot cX4_readNot 2 (some .int) d [vR (some z)] M (QI r N)) (hk7 : ∀ (y1 : Int32) (y2 : Int32) (M : Mem), k7 y1 y2 M = some (r, N) → J ad ca D cX4_readAnd RX4 4 (d + 11) (Gt ad ca D (some .int) (QI r N)) 7 [(0, vR (some x0)), (1, vI y1), (2, vI y2)] [] M) (h : fX4_readAnd_b43 FU g_X4_readE g_X4_readOne g_X4_readNot k7 x0 x2 M = some (r, N)) : J ad ca D cX4_readAnd RX4 4 (d + 11) (Gt ad ca D (some .int) (QI r N)) 43 [(0, vR (some x0)), (2, vI x2)] [] M := by
  unfold fX4_readAnd_b43 at h
  refine J_iconst (pc := 43) (v := (0 : Int32)) (by decide) dX4_readAnd_43 ?_
  exact jX4_readAnd_b44 H_X4_readE H_X4_readOne H_X4_readNot hk7 h
set_option maxHeartbeats 4000000 in
set_option maxRecDepth 100000 in
theorem jX4_readAnd_L7 {ad : Nat → Nat} {ca : Nat → ClassId} {D : va_G} {FU d : Nat} {r : Int32} {N : Mem} {g_X4_readE : Nat → Mem → Option (Int32 × Mem)} {g_X4_readOne : Nat → Mem → Option (Int32 × Mem)} {g_X4_readNot : Nat → Mem → Option (Int32 × Mem)}  {x0 : Nat} (H_X4_readE : ∀ (z : Nat)  (M : Mem) (r : Int32) (N : Mem), g_X4_readE z  M = some (r, N) → Ct ad ca D yX4_readE cX4_readE 4 (some .int) d [vR (some z)] M (QI r N)) (H_X4_readOne : ∀ (z : Nat)  (M : Mem) (r : Int32) (N : Mem), g_X4_readOne z  M = some (r, N) → Ct ad ca D yX4_readOne cX4_readOne 3 (some .int) d [vR (some z)] M (QI r N)) (H_X4_readNot : ∀ (z : Nat)  (M : Mem) (r : Int32) (N : Mem), g_X4_readNot z  M = some (r, N) → Ct ad ca D yX4_readNot cX4_readNot 2 (some .int) d [vR (some z)] M (QI r N))  : ∀ (F : Nat) (x1 : Int32) (x2 : Int32) (M : Mem), fX4_readAnd_L7 FU g_X4_readE g_X4_readOne g_X4_readNot x0 F x1 x2 M = some (r, N) → J ad ca D cX4_readAnd RX4 4 (d + 11) (Gt ad ca D (some .int) (QI r N)) 7 [(0, vR (some x0)), (1, vI x1), (2, vI x2)] [] M := by
  intro F
  induction F with
  | zero =>
    intro x1 x2 M h
    rw [fX4_readAnd_L7] at h
    cases h
  | succ F hk7 =>
    intro x1 x2 M h
    rw [fX4_readAnd_L7] at h
    refine J_iload_n (pc := 7) (q := 2) rfl rfl dX4_readAnd_7 ?_
    refine J_bipush (pc := 8) (v := (120 : Int32)) (by decide) dX4_readAnd_8 ?_
    refine J_icge (pc := 10) (tgt := 51) (by decide) dX4_readAnd_10 (fun hc10 => ?_) (fun hc10 => ?_)
    · rw [if_pos hc10] at h
      refine J_iload_n (pc := 51) (q := 1) rfl rfl dX4_readAnd_51 ?_
      exact J_iret (pc := 52) (qi_of h) dX4_readAnd_52
    · rw [if_neg hc10] at h
      refine J_aload_n (pc := 13) (q := 0) rfl rfl dX4_readAnd_13 ?_
      refine J_bipush (pc := 14) (v := (9 : Int32)) (by decide) dX4_readAnd_14 ?_
      obtain ⟨b16, hb16, g_1⟩ := bnd h
      obtain ⟨r16, M16, h16, g_2⟩ := bnd2 g_1
      refine J_callVI (pc := 16) (as := [vI (9 : Int32)]) (tX4_isNow (d := d)  h16) cf_X4_isNow cv_X4_isNow clF4 hb16 ml_RX4_101 (by omega) (Nat.le_of_ble_eq_true rfl) dX4_readAnd_16 ?_
      refine J_ifeq (pc := 19) (tgt := 51) (by decide) dX4_readAnd_19 (fun hc19 => ?_) (fun hc19 => ?_)
      · rw [if_pos hc19] at g_2
        refine J_iload_n (pc := 51) (q := 1) rfl rfl dX4_readAnd_51 ?_
        exact J_iret (pc := 52) (qi_of g_2) dX4_readAnd_52
      · rw [if_neg hc19] at g_2
        refine J_aload_n (pc := 22) (q := 0) rfl rfl dX4_readAnd_22 ?_
        obtain ⟨b23, hb23, g_3⟩ := bnd g_2
        obtain ⟨M23, h23, g_4⟩ := bnd g_3
        refine J_callVV (pc := 23) (as := []) (tX4_next (d := d)  h23) cf_X4_next cv_X4_next clF4 hb23 ml_RX4_41 (by omega) (Nat.le_of_ble_eq_true rfl) dX4_readAnd_23 ?_
        refine J_aload_n (pc := 26) (q := 0) rfl rfl dX4_readAnd_26 ?_
        obtain ⟨b27, hb27, g_5⟩ := bnd g_4
        obtain ⟨r27, M27, h27, g_6⟩ := bnd2 g_5
        refine J_callVI (pc := 27) (as := []) (tX4_readNot (d := d) H_X4_readE H_X4_readOne H_X4_readNot h27) cf_X4_readNot cv_X4_readNot clF4 hb27 ml_RX4_104 (by omega) (Nat.le_of_ble_eq_true rfl) dX4_readAnd_27 ?_
        refine J_istore_n (pc := 30) rfl (by decide) (lv' := [(0, vR (some x0)), (1, vI x1), (2, vI x2), (3, vI r27)]) rfl dX4_readAnd_30 ?_
        refine J_iload_n (pc := 31) (q := 1) rfl rfl dX4_readAnd_31 ?_
        refine J_ifeq (pc := 32) (tgt := 43) (by decide) dX4_readAnd_32 (fun hc32 => ?_) (fun hc32 => ?_)
        · rw [if_pos hc32] at g_6
          refine J_sub [0, 2] (lv' := [(0, vR (some x0)), (2, vI x2)]) rfl ?_
          exact jX4_readAnd_b43 H_X4_readE H_X4_readOne H_X4_readNot hk7 g_6
        · rw [if_neg hc32] at g_6
          refine J_iload_n (pc := 35) (q := 3) rfl rfl dX4_readAnd_35 ?_
          refine J_ifeq (pc := 36) (tgt := 43) (by decide) dX4_readAnd_36 (fun hc36 => ?_) (fun hc36 => ?_)
          · rw [if_pos hc36] at g_6
            refine J_sub [0, 2] (lv' := [(0, vR (some x0)), (2, vI x2)]) rfl ?_
            exact jX4_readAnd_b43 H_X4_readE H_X4_readOne H_X4_readNot hk7 g_6
          · rw [if_neg hc36] at g_6
            refine J_iconst (pc := 39) (v := (1 : Int32)) (by decide) dX4_readAnd_39 ?_
            refine J_goto (pc := 40) (tgt := 44) (by decide) dX4_readAnd_40 ?_
            refine J_sub [0, 2] (lv' := [(0, vR (some x0)), (2, vI x2)]) rfl ?_
            exact jX4_readAnd_b44 H_X4_readE H_X4_readOne H_X4_readNot hk7 g_6
set_option maxHeartbeats 4000000 in
set_option maxRecDepth 100000 in
theorem tX4_readAnd {ad : Nat → Nat} {ca : Nat → ClassId} {D : va_G} {FU d : Nat} {r : Int32} {N : Mem} {g_X4_readE : Nat → Mem → Option (Int32 × Mem)} {g_X4_readOne : Nat → Mem → Option (Int32 × Mem)} {g_X4_readNot : Nat → Mem → Option (Int32 × Mem)} {x0 : Nat} {M : Mem} (H_X4_readE : ∀ (z : Nat)  (M : Mem) (r : Int32) (N : Mem), g_X4_readE z  M = some (r, N) → Ct ad ca D yX4_readE cX4_readE 4 (some .int) d [vR (some z)] M (QI r N)) (H_X4_readOne : ∀ (z : Nat)  (M : Mem) (r : Int32) (N : Mem), g_X4_readOne z  M = some (r, N) → Ct ad ca D yX4_readOne cX4_readOne 3 (some .int) d [vR (some z)] M (QI r N)) (H_X4_readNot : ∀ (z : Nat)  (M : Mem) (r : Int32) (N : Mem), g_X4_readNot z  M = some (r, N) → Ct ad ca D yX4_readNot cX4_readNot 2 (some .int) d [vR (some z)] M (QI r N)) (h : fX4_readAnd FU g_X4_readE g_X4_readOne g_X4_readNot x0 M = some (r, N)) : Ct ad ca D yX4_readAnd cX4_readAnd 4 (some .int) (d + 11) [vR (some x0)] M (QI r N) := by
  refine Ct_of (by decide) (Nat.le_of_ble_eq_true rfl) ?_
  show J ad ca D cX4_readAnd RX4 4 (d + 11) (Gt ad ca D (some .int) (QI r N)) 0 [(0, vR (some x0))] [] M
  unfold fX4_readAnd at h
  refine J_aload_n (pc := 0) (q := 0) rfl rfl dX4_readAnd_0 ?_
  obtain ⟨b1, hb1, g_7⟩ := bnd h
  obtain ⟨r1, M1, h1, g_8⟩ := bnd2 g_7
  refine J_callVI (pc := 1) (as := []) (tX4_readNot (d := d) H_X4_readE H_X4_readOne H_X4_readNot h1) cf_X4_readNot cv_X4_readNot clF4 hb1 ml_RX4_104 (by omega) (Nat.le_of_ble_eq_true rfl) dX4_readAnd_1 ?_
  refine J_istore_n (pc := 4) rfl (by decide) (lv' := [(0, vR (some x0)), (1, vI r1)]) rfl dX4_readAnd_4 ?_
  refine J_iconst (pc := 5) (v := (0 : Int32)) (by decide) dX4_readAnd_5 ?_
  refine J_istore_n (pc := 6) rfl (by decide) (lv' := [(0, vR (some x0)), (1, vI r1), (2, vI (0 : Int32))]) rfl dX4_readAnd_6 ?_
  exact jX4_readAnd_L7 H_X4_readE H_X4_readOne H_X4_readNot FU _ _ _ g_8
set_option maxHeartbeats 4000000 in
set_option maxRecDepth 100000 in
theorem jX4_readE_b44 {ad : Nat → Nat} {ca : Nat → ClassId} {D : va_G} {FU d : Nat} {r : Int32} {N : Mem} {g_X4_readE : Nat → Mem → Option (Int32 × Mem)} {g_X4_readOne : Nat → Mem → Option (Int32 × Mem)} {g_X4_readNot : Nat → Mem → Option (Int32 × Mem)} {k7 : Int32 → Int32 → Mem → Option (Int32 × Mem)} {x0 : Nat} {x2 : Int32} {s0 : Int32} {M : Mem} (H_X4_readE : ∀ (z : Nat)  (M : Mem) (r : Int32) (N : Mem), g_X4_readE z  M = some (r, N) → Ct ad ca D yX4_readE cX4_readE 4 (some .int) d [vR (some z)] M (QI r N)) (H_X4_readOne : ∀ (z : Nat)  (M : Mem) (r : Int32) (N : Mem), g_X4_readOne z  M = some (r, N) → Ct ad ca D yX4_readOne cX4_readOne 3 (some .int) d [vR (some z)] M (QI r N)) (H_X4_readNot : ∀ (z : Nat)  (M : Mem) (r : Int32) (N : Mem), g_X4_readNot z  M = some (r, N) → Ct ad ca D yX4_readNot cX4_readNot 2 (some .int) d [vR (some z)] M (QI r N)) (hk7 : ∀ (y1 : Int32) (y2 : Int32) (M : Mem), k7 y1 y2 M = some (r, N) → J ad ca D cX4_readE RX4 4 (d + 12) (Gt ad ca D (some .int) (QI r N)) 7 [(0, vR (some x0)), (1, vI y1), (2, vI y2)] [] M) (h : fX4_readE_b44 FU g_X4_readE g_X4_readOne g_X4_readNot k7 x0 x2 s0 M = some (r, N)) : J ad ca D cX4_readE RX4 4 (d + 12) (Gt ad ca D (some .int) (QI r N)) 44 [(0, vR (some x0)), (2, vI x2)] [vI s0] M := by
  unfold fX4_readE_b44 at h
  refine J_istore_n (pc := 44) rfl (by decide) (lv' := [(0, vR (some x0)), (2, vI x2), (1, vI s0)]) rfl dX4_readE_44 ?_
  refine J_iinc (pc := 45) (q := 1) rfl (v := x2 + (1 : Int32)) rfl (by decide) (lv' := [(0, vR (some x0)), (1, vI s0), (2, vI (x2 + (1 : Int32)))]) rfl dX4_readE_45 ?_
  refine J_goto (pc := 48) (tgt := 7) (by decide) dX4_readE_48 ?_
  exact hk7 _ _ _ h
set_option maxHeartbeats 4000000 in
set_option maxRecDepth 100000 in
theorem jX4_readE_b39 {ad : Nat → Nat} {ca : Nat → ClassId} {D : va_G} {FU d : Nat} {r : Int32} {N : Mem} {g_X4_readE : Nat → Mem → Option (Int32 × Mem)} {g_X4_readOne : Nat → Mem → Option (Int32 × Mem)} {g_X4_readNot : Nat → Mem → Option (Int32 × Mem)} {k7 : Int32 → Int32 → Mem → Option (Int32 × Mem)} {x0 : Nat} {x2 : Int32} {M : Mem} (H_X4_readE : ∀ (z : Nat)  (M : Mem) (r : Int32) (N : Mem), g_X4_readE z  M = some (r, N) → Ct ad ca D yX4_readE cX4_readE 4 (some .int) d [vR (some z)] M (QI r N)) (H_X4_readOne : ∀ (z : Nat)  (M : Mem) (r : Int32) (N : Mem), g_X4_readOne z  M = some (r, N) → Ct ad ca D yX4_readOne cX4_readOne 3 (some .int) d [vR (some z)] M (QI r N)) (H_X4_readNot : ∀ (z : Nat)  (M : Mem) (r : Int32) (N : Mem), g_X4_readNot z  M = some (r, N) → Ct ad ca D yX4_readNot cX4_readNot 2 (some .int) d [vR (some z)] M (QI r N)) (hk7 : ∀ (y1 : Int32) (y2 : Int32) (M : Mem), k7 y1 y2 M = some (r, N) → J ad ca D cX4_readE RX4 4 (d + 12) (Gt ad ca D (some .int) (QI r N)) 7 [(0, vR (some x0)), (1, vI y1), (2, vI y2)] [] M) (h : fX4_readE_b39 FU g_X4_readE g_X4_readOne g_X4_readNot k7 x0 x2 M = some (r, N)) : J ad ca D cX4_readE RX4 4 (d + 12) (Gt ad ca D (some .int) (QI r N)) 39 [(0, vR (some x0)), (2, vI x2)] [] M := by
  unfold fX4_readE_b39 at h
  refine J_iconst (pc := 39) (v := (1 : Int32)) (by decide) dX4_readE_39 ?_
  refine J_goto (pc := 40) (tgt := 44) (by decide) dX4_readE_40 ?_
  exact jX4_readE_b44 H_X4_readE H_X4_readOne H_X4_readNot hk7 h
set_option maxHeartbeats 4000000 in
set_option maxRecDepth 100000 in
theorem jX4_readE_L7 {ad : Nat → Nat} {ca : Nat → ClassId} {D : va_G} {FU d : Nat} {r : Int32} {N : Mem} {g_X4_readE : Nat → Mem → Option (Int32 × Mem)} {g_X4_readOne : Nat → Mem → Option (Int32 × Mem)} {g_X4_readNot : Nat → Mem → Option (Int32 × Mem)}  {x0 : Nat} (H_X4_readE : ∀ (z : Nat)  (M : Mem) (r : Int32) (N : Mem), g_X4_readE z  M = some (r, N) → Ct ad ca D yX4_readE cX4_readE 4 (some .int) d [vR (some z)] M (QI r N)) (H_X4_readOne : ∀ (z : Nat)  (M : Mem) (r : Int32) (N : Mem), g_X4_readOne z  M = some (r, N) → Ct ad ca D yX4_readOne cX4_readOne 3 (some .int) d [vR (some z)] M (QI r N)) (H_X4_readNot : ∀ (z : Nat)  (M : Mem) (r : Int32) (N : Mem), g_X4_readNot z  M = some (r, N) → Ct ad ca D yX4_readNot cX4_readNot 2 (some .int) d [vR (some z)] M (QI r N))  : ∀ (F : Nat) (x1 : Int32) (x2 : Int32) (M : Mem), fX4_readE_L7 FU g_X4_readE g_X4_readOne g_X4_readNot x0 F x1 x2 M = some (r, N) → J ad ca D cX4_readE RX4 4 (d + 12) (Gt ad ca D (some .int) (QI r N)) 7 [(0, vR (some x0)), (1, vI x1), (2, vI x2)] [] M := by
  intro F
  induction F with
  | zero =>
    intro x1 x2 M h
    rw [fX4_readE_L7] at h
    cases h
  | succ F hk7 =>
    intro x1 x2 M h
    rw [fX4_readE_L7] at h
    refine J_iload_n (pc := 7) (q := 2) rfl rfl dX4_readE_7 ?_
    refine J_bipush (pc := 8) (v := (120 : Int32)) (by decide) dX4_readE_8 ?_
    refine J_icge (pc := 10) (tgt := 51) (by decide) dX4_readE_10 (fun hc10 => ?_) (fun hc10 => ?_)
    · rw [if_pos hc10] at h
      refine J_iload_n (pc := 51) (q := 1) rfl rfl dX4_readE_51 ?_
      exact J_iret (pc := 52) (qi_of h) dX4_readE_52
    · rw [if_neg hc10] at h
      refine J_aload_n (pc := 13) (q := 0) rfl rfl dX4_readE_13 ?_
      refine J_bipush (pc := 14) (v := (8 : Int32)) (by decide) dX4_readE_14 ?_
      obtain ⟨b16, hb16, g_1⟩ := bnd h
      obtain ⟨r16, M16, h16, g_2⟩ := bnd2 g_1
      refine J_callVI (pc := 16) (as := [vI (8 : Int32)]) (tX4_isNow (d := d)  h16) cf_X4_isNow cv_X4_isNow clF4 hb16 ml_RX4_101 (by omega) (Nat.le_of_ble_eq_true rfl) dX4_readE_16 ?_
      refine J_ifeq (pc := 19) (tgt := 51) (by decide) dX4_readE_19 (fun hc19 => ?_) (fun hc19 => ?_)
      · rw [if_pos hc19] at g_2
        refine J_iload_n (pc := 51) (q := 1) rfl rfl dX4_readE_51 ?_
        exact J_iret (pc := 52) (qi_of g_2) dX4_readE_52
      · rw [if_neg hc19] at g_2
        refine J_aload_n (pc := 22) (q := 0) rfl rfl dX4_readE_22 ?_
        obtain ⟨b23, hb23, g_3⟩ := bnd g_2
        obtain ⟨M23, h23, g_4⟩ := bnd g_3
        refine J_callVV (pc := 23) (as := []) (tX4_next (d := d)  h23) cf_X4_next cv_X4_next clF4 hb23 ml_RX4_41 (by omega) (Nat.le_of_ble_eq_true rfl) dX4_readE_23 ?_
        refine J_aload_n (pc := 26) (q := 0) rfl rfl dX4_readE_26 ?_
        obtain ⟨b27, hb27, g_5⟩ := bnd g_4
        obtain ⟨r27, M27, h27, g_6⟩ := bnd2 g_5
        refine J_callVI (pc := 27) (as := []) (tX4_readAnd (d := d) H_X4_readE H_X4_readOne H_X4_readNot h27) cf_X4_readAnd cv_X4_readAnd clF4 hb27 ml_RX4_98 (by omega) (Nat.le_of_ble_eq_true rfl) dX4_readE_27 ?_
        refine J_istore_n (pc := 30) rfl (by decide) (lv' := [(0, vR (some x0)), (1, vI x1), (2, vI x2), (3, vI r27)]) rfl dX4_readE_30 ?_
        refine J_iload_n (pc := 31) (q := 1) rfl rfl dX4_readE_31 ?_
        refine J_ifne (pc := 32) (tgt := 39) (by decide) dX4_readE_32 (fun hc32 => ?_) (fun hc32 => ?_)
        · rw [if_pos hc32] at g_6
          refine J_sub [0, 2] (lv' := [(0, vR (some x0)), (2, vI x2)]) rfl ?_
          exact jX4_readE_b39 H_X4_readE H_X4_readOne H_X4_readNot hk7 g_6
        · rw [if_neg hc32] at g_6
          refine J_iload_n (pc := 35) (q := 3) rfl rfl dX4_readE_35 ?_
          refine J_ifeq (pc := 36) (tgt := 43) (by decide) dX4_readE_36 (fun hc36 => ?_) (fun hc36 => ?_)
          · rw [if_pos hc36] at g_6
            refine J_iconst (pc := 43) (v := (0 : Int32)) (by decide) dX4_readE_43 ?_
            refine J_sub [0, 2] (lv' := [(0, vR (some x0)), (2, vI x2)]) rfl ?_
            exact jX4_readE_b44 H_X4_readE H_X4_readOne H_X4_readNot hk7 g_6
          · rw [if_neg hc36] at g_6
            refine J_sub [0, 2] (lv' := [(0, vR (some x0)), (2, vI x2)]) rfl ?_
            exact jX4_readE_b39 H_X4_readE H_X4_readOne H_X4_readNot hk7 g_6
set_option maxHeartbeats 4000000 in
set_option maxRecDepth 100000 in
theorem tX4_readE {ad : Nat → Nat} {ca : Nat → ClassId} {D : va_G} {FU d : Nat} {r : Int32} {N : Mem} {g_X4_readE : Nat → Mem → Option (Int32 × Mem)} {g_X4_readOne : Nat → Mem → Option (Int32 × Mem)} {g_X4_readNot : Nat → Mem → Option (Int32 × Mem)} {x0 : Nat} {M : Mem} (H_X4_readE : ∀ (z : Nat)  (M : Mem) (r : Int32) (N : Mem), g_X4_readE z  M = some (r, N) → Ct ad ca D yX4_readE cX4_readE 4 (some .int) d [vR (some z)] M (QI r N)) (H_X4_readOne : ∀ (z : Nat)  (M : Mem) (r : Int32) (N : Mem), g_X4_readOne z  M = some (r, N) → Ct ad ca D yX4_readOne cX4_readOne 3 (some .int) d [vR (some z)] M (QI r N)) (H_X4_readNot : ∀ (z : Nat)  (M : Mem) (r : Int32) (N : Mem), g_X4_readNot z  M = some (r, N) → Ct ad ca D yX4_readNot cX4_readNot 2 (some .int) d [vR (some z)] M (QI r N)) (h : fX4_readE FU g_X4_readE g_X4_readOne g_X4_readNot x0 M = some (r, N)) : Ct ad ca D yX4_readE cX4_readE 4 (some .int) (d + 12) [vR (some x0)] M (QI r N) := by
  refine Ct_of (by decide) (Nat.le_of_ble_eq_true rfl) ?_
  show J ad ca D cX4_readE RX4 4 (d + 12) (Gt ad ca D (some .int) (QI r N)) 0 [(0, vR (some x0))] [] M
  unfold fX4_readE at h
  refine J_aload_n (pc := 0) (q := 0) rfl rfl dX4_readE_0 ?_
  obtain ⟨b1, hb1, g_7⟩ := bnd h
  obtain ⟨r1, M1, h1, g_8⟩ := bnd2 g_7
  refine J_callVI (pc := 1) (as := []) (tX4_readAnd (d := d) H_X4_readE H_X4_readOne H_X4_readNot h1) cf_X4_readAnd cv_X4_readAnd clF4 hb1 ml_RX4_98 (by omega) (Nat.le_of_ble_eq_true rfl) dX4_readE_1 ?_
  refine J_istore_n (pc := 4) rfl (by decide) (lv' := [(0, vR (some x0)), (1, vI r1)]) rfl dX4_readE_4 ?_
  refine J_iconst (pc := 5) (v := (0 : Int32)) (by decide) dX4_readE_5 ?_
  refine J_istore_n (pc := 6) rfl (by decide) (lv' := [(0, vR (some x0)), (1, vI r1), (2, vI (0 : Int32))]) rfl dX4_readE_6 ?_
  exact jX4_readE_L7 H_X4_readE H_X4_readOne H_X4_readNot FU _ _ _ g_8
theorem tqX4 {ad : Nat → Nat} {ca : Nat → ClassId} {D : va_G} {FU : Nat} : ∀ (n d : Nat), (∀ (z : Nat) (M : Mem) (r : Int32) (N : Mem), (qX4 FU n).1 z M = some (r, N) → Ct ad ca D yX4_readE cX4_readE 4 (some .int) (d + n * 12) [vR (some z)] M (QI r N)) ∧ (∀ (z : Nat) (M : Mem) (r : Int32) (N : Mem), (qX4 FU n).2.1 z M = some (r, N) → Ct ad ca D yX4_readOne cX4_readOne 3 (some .int) (d + n * 12) [vR (some z)] M (QI r N)) ∧ (∀ (z : Nat) (M : Mem) (r : Int32) (N : Mem), (qX4 FU n).2.2 z M = some (r, N) → Ct ad ca D yX4_readNot cX4_readNot 2 (some .int) (d + n * 12) [vR (some z)] M (QI r N)) := by
  intro n
  induction n with
  | zero => exact fun d => ⟨fun z M r N h => (by cases h), fun z M r N h => (by cases h), fun z M r N h => (by cases h)⟩
  | succ n ih =>
    intro d
    refine ⟨fun z M r N h => ?_, fun z M r N h => ?_, fun z M r N h => ?_⟩
    · have h2 := tX4_readE (ad := ad) (ca := ca) (D := D) (FU := FU) (d := d + 0 + n * 12) (ih (d + 0)).1 (ih (d + 0)).2.1 (ih (d + 0)).2.2 h
      rw [show d + (n + 1) * 12 = d + 0 + n * 12 + 12 by omega]
      exact h2
    · have h2 := tX4_readOne (ad := ad) (ca := ca) (D := D) (FU := FU) (d := d + 5 + n * 12) (ih (d + 5)).1 (ih (d + 5)).2.1 h
      rw [show d + (n + 1) * 12 = d + 5 + n * 12 + 7 by omega]
      exact h2
    · have h2 := tX4_readNot (ad := ad) (ca := ca) (D := D) (FU := FU) (d := d + 2 + n * 12) (ih (d + 2)).1 (ih (d + 2)).2.1 (ih (d + 2)).2.2 h
      rw [show d + (n + 1) * 12 = d + 2 + n * 12 + 10 by omega]
      exact h2
theorem tqX4_readE {ad : Nat → Nat} {ca : Nat → ClassId} {D : va_G} {FU : Nat} (n d : Nat) {z : Nat} {M : Mem} {r : Int32} {N : Mem} (h : qX4_readE FU n z M = some (r, N)) : Ct ad ca D yX4_readE cX4_readE 4 (some .int) (d + n * 12) [vR (some z)] M (QI r N) := (tqX4 n d).1 z M r N h
set_option maxHeartbeats 4000000 in
set_option maxRecDepth 100000 in
theorem tX4_read {ad : Nat → Nat} {ca : Nat → ClassId} {D : va_G} {FU d : Nat} {N : Mem}  {x0 : Nat} {x1 : Option Nat} {x2 : Int32} {M : Mem}  (h : fX4_read FU  x0 x1 x2 M = some N) : Ct ad ca D yX4_read cX4_read 3 none (d + 121) [vR (some x0), vR x1, vI x2] M (QV N) := by
  refine Ct_of (by decide) (Nat.le_of_ble_eq_true rfl) ?_
  show J ad ca D cX4_read RX4 3 (d + 121) (Gt ad ca D none (QV N)) 0 [(0, vR (some x0)), (1, vR x1), (2, vI x2)] [] M
  unfold fX4_read at h
  refine J_aload_n (pc := 0) (q := 0) rfl rfl dX4_read_0 ?_
  refine J_aload_n (pc := 1) (q := 1) rfl rfl dX4_read_1 ?_
  obtain ⟨M2, h2, g_1⟩ := bnd h
  refine J_putR (pc := 2) (i := 4) clF4 (by decide) rfl fl_RX4_19 rfl (Or.inr ⟨_, rfl⟩) h2 dX4_read_2 ?_
  refine J_aload_n (pc := 5) (q := 0) rfl rfl dX4_read_5 ?_
  refine J_iload_n (pc := 6) (q := 2) rfl rfl dX4_read_6 ?_
  refine J_aload_n (pc := 7) (q := 1) rfl rfl dX4_read_7 ?_
  obtain ⟨a8, h8, g_2⟩ := bnd g_1
  refine J_alen (pc := 8) h8 dX4_read_8 ?_
  refine J_mmin (pc := 9) ml_RX4_26 (by omega) (Nat.le_of_ble_eq_true rfl) dX4_read_9 ?_
  obtain ⟨M12, h12, g_3⟩ := bnd g_2
  refine J_putI (pc := 12) (i := 5) clF4 (by decide) rfl fl_RX4_32 rfl rfl h12 dX4_read_12 ?_
  refine J_aload_n (pc := 15) (q := 0) rfl rfl dX4_read_15 ?_
  refine J_iconst (pc := 16) (v := (0 : Int32)) (by decide) dX4_read_16 ?_
  obtain ⟨M17, h17, g_4⟩ := bnd g_3
  refine J_putI (pc := 17) (i := 6) clF4 (by decide) rfl fl_RX4_35 rfl rfl h17 dX4_read_17 ?_
  refine J_aload_n (pc := 20) (q := 0) rfl rfl dX4_read_20 ?_
  refine J_iconst (pc := 21) (v := (0 : Int32)) (by decide) dX4_read_21 ?_
  obtain ⟨M22, h22, g_5⟩ := bnd g_4
  refine J_putI (pc := 22) (i := 10) clF4 (by decide) rfl fl_RX4_38 rfl rfl h22 dX4_read_22 ?_
  refine J_aload_n (pc := 25) (q := 0) rfl rfl dX4_read_25 ?_
  refine J_iconst (pc := 26) (v := (-1 : Int32)) (by decide) dX4_read_26 ?_
  obtain ⟨M27, h27, g_6⟩ := bnd g_5
  refine J_putI (pc := 27) (i := 3) clF4 (by decide) rfl fl_RX4_15 rfl rfl h27 dX4_read_27 ?_
  refine J_aload_n (pc := 30) (q := 0) rfl rfl dX4_read_30 ?_
  obtain ⟨b31, hb31, g_7⟩ := bnd g_6
  obtain ⟨M31, h31, g_8⟩ := bnd g_7
  refine J_callVV (pc := 31) (as := []) (tX4_next (d := d)  h31) cf_X4_next cv_X4_next clF4 hb31 ml_RX4_41 (by omega) (Nat.le_of_ble_eq_true rfl) dX4_read_31 ?_
  refine J_aload_n (pc := 34) (q := 0) rfl rfl dX4_read_34 ?_
  refine J_bipush (pc := 35) (v := (6 : Int32)) (by decide) dX4_read_35 ?_
  obtain ⟨b37, hb37, g_9⟩ := bnd g_8
  obtain ⟨M37, h37, g_10⟩ := bnd g_9
  refine J_callVV (pc := 37) (as := [vI (6 : Int32)]) (tX4_expect (d := d)  h37) cf_X4_expect cv_X4_expect clF4 hb37 ml_RX4_44 (by omega) (Nat.le_of_ble_eq_true rfl) dX4_read_37 ?_
  refine J_aload_n (pc := 40) (q := 0) rfl rfl dX4_read_40 ?_
  refine J_aload_n (pc := 41) (q := 0) rfl rfl dX4_read_41 ?_
  obtain ⟨b42, hb42, g_11⟩ := bnd g_10
  obtain ⟨r42, M42, h42, g_12⟩ := bnd2 g_11
  refine J_callVI (pc := 42) (as := []) (tqX4_readE 10 d h42) cf_X4_readE cv_X4_readE clF4 hb42 ml_RX4_48 (by omega) (Nat.le_of_ble_eq_true rfl) dX4_read_42 ?_
  obtain ⟨M45, h45, g_13⟩ := bnd g_12
  refine J_putI (pc := 45) (i := 1) clF4 (by decide) rfl fl_RX4_52 rfl rfl h45 dX4_read_45 ?_
  refine J_aload_n (pc := 48) (q := 0) rfl rfl dX4_read_48 ?_
  refine J_bipush (pc := 49) (v := (59 : Int32)) (by decide) dX4_read_49 ?_
  obtain ⟨b51, hb51, g_14⟩ := bnd g_13
  obtain ⟨M51, h51, g_15⟩ := bnd g_14
  refine J_callVV (pc := 51) (as := [vI (59 : Int32)]) (tX4_expect (d := d)  h51) cf_X4_expect cv_X4_expect clF4 hb51 ml_RX4_44 (by omega) (Nat.le_of_ble_eq_true rfl) dX4_read_51 ?_
  refine J_aload_n (pc := 54) (q := 0) rfl rfl dX4_read_54 ?_
  refine J_bipush (pc := 55) (v := (7 : Int32)) (by decide) dX4_read_55 ?_
  obtain ⟨b57, hb57, g_16⟩ := bnd g_15
  obtain ⟨M57, h57, g_17⟩ := bnd g_16
  refine J_callVV (pc := 57) (as := [vI (7 : Int32)]) (tX4_expect (d := d)  h57) cf_X4_expect cv_X4_expect clF4 hb57 ml_RX4_44 (by omega) (Nat.le_of_ble_eq_true rfl) dX4_read_57 ?_
  refine J_aload_n (pc := 60) (q := 0) rfl rfl dX4_read_60 ?_
  refine J_aload_n (pc := 61) (q := 0) rfl rfl dX4_read_61 ?_
  obtain ⟨b62, hb62, g_18⟩ := bnd g_17
  obtain ⟨r62, M62, h62, g_19⟩ := bnd2 g_18
  refine J_callVI (pc := 62) (as := []) (tqX4_readE 10 d h62) cf_X4_readE cv_X4_readE clF4 hb62 ml_RX4_48 (by omega) (Nat.le_of_ble_eq_true rfl) dX4_read_62 ?_
  obtain ⟨M65, h65, g_20⟩ := bnd g_19
  refine J_putI (pc := 65) (i := 2) clF4 (by decide) rfl fl_RX4_55 rfl rfl h65 dX4_read_65 ?_
  refine J_aload_n (pc := 68) (q := 0) rfl rfl dX4_read_68 ?_
  refine J_bipush (pc := 69) (v := (59 : Int32)) (by decide) dX4_read_69 ?_
  obtain ⟨b71, hb71, g_21⟩ := bnd g_20
  obtain ⟨M71, h71, g_22⟩ := bnd g_21
  refine J_callVV (pc := 71) (as := [vI (59 : Int32)]) (tX4_expect (d := d)  h71) cf_X4_expect cv_X4_expect clF4 hb71 ml_RX4_44 (by omega) (Nat.le_of_ble_eq_true rfl) dX4_read_71 ?_
  refine J_aload_n (pc := 74) (q := 0) rfl rfl dX4_read_74 ?_
  refine J_bipush (pc := 75) (v := (12 : Int32)) (by decide) dX4_read_75 ?_
  obtain ⟨b77, hb77, g_23⟩ := bnd g_22
  obtain ⟨M77, h77, g_24⟩ := bnd g_23
  refine J_callVV (pc := 77) (as := [vI (12 : Int32)]) (tX4_expect (d := d)  h77) cf_X4_expect cv_X4_expect clF4 hb77 ml_RX4_44 (by omega) (Nat.le_of_ble_eq_true rfl) dX4_read_77 ?_
  exact J_vret (pc := 80) (qv_of g_24) dX4_read_80
set_option maxHeartbeats 4000000 in
set_option maxRecDepth 100000 in
theorem jX5_become_L21 {ad : Nat → Nat} {ca : Nat → ClassId} {D : va_G} {FU d : Nat} {N : Mem}   {x0 : Nat}   : ∀ (F : Nat) (x3 : Int32) (M : Mem), fX5_become_L21 FU  x0 F x3 M = some N → J ad ca D cX5_become RX5 4 (d + 1) (Gt ad ca D none (QV N)) 21 [(0, vR (some x0)), (3, vI x3)] [] M := by
  intro F
  induction F with
  | zero =>
    intro x3 M h
    rw [fX5_become_L21] at h
    cases h
  | succ F hk21 =>
    intro x3 M h
    rw [fX5_become_L21] at h
    refine J_iload_n (pc := 21) (q := 1) rfl rfl dX5_become_21 ?_
    refine J_bipush (pc := 22) (v := (40 : Int32)) (by decide) dX5_become_22 ?_
    refine J_icge (pc := 24) (tgt := 40) (by decide) dX5_become_24 (fun hc24 => ?_) (fun hc24 => ?_)
    · rw [if_pos hc24] at h
      exact J_vret (pc := 40) (qv_of h) dX5_become_40
    · rw [if_neg hc24] at h
      refine J_aload_n (pc := 27) (q := 0) rfl rfl dX5_become_27 ?_
      obtain ⟨a28, h28, g_1⟩ := bnd h
      refine J_getR (pc := 28) (i := 2) clF5 (by decide) rfl fl_RX5_15 h28 dX5_become_28 ?_
      refine J_iload_n (pc := 31) (q := 1) rfl rfl dX5_become_31 ?_
      refine J_iconst (pc := 32) (v := (0 : Int32)) (by decide) dX5_become_32 ?_
      obtain ⟨M33, h33, g_2⟩ := bnd g_1
      refine J_ast0 (pc := 33) h33 dX5_become_33 ?_
      refine J_iinc (pc := 34) (q := 1) rfl (v := x3 + (1 : Int32)) rfl (by decide) (lv' := [(0, vR (some x0)), (3, vI (x3 + (1 : Int32)))]) rfl dX5_become_34 ?_
      refine J_goto (pc := 37) (tgt := 21) (by decide) dX5_become_37 ?_
      exact hk21 _ _ g_2
set_option maxHeartbeats 4000000 in
set_option maxRecDepth 100000 in
theorem tX5_become {ad : Nat → Nat} {ca : Nat → ClassId} {D : va_G} {FU d : Nat} {N : Mem}  {x0 : Nat} {x1 : Int32} {x2 : Int32} {M : Mem}  (h : fX5_become FU  x0 x1 x2 M = some N) : Ct ad ca D yX5_become cX5_become 4 none (d + 1) [vR (some x0), vI x1, vI x2] M (QV N) := by
  refine Ct_of (by decide) (Nat.le_of_ble_eq_true rfl) ?_
  show J ad ca D cX5_become RX5 4 (d + 1) (Gt ad ca D none (QV N)) 0 [(0, vR (some x0)), (1, vI x1), (2, vI x2)] [] M
  unfold fX5_become at h
  refine J_aload_n (pc := 0) (q := 0) rfl rfl dX5_become_0 ?_
  refine J_iload_n (pc := 1) (q := 1) rfl rfl dX5_become_1 ?_
  obtain ⟨M2, h2, g_3⟩ := bnd h
  refine J_putI (pc := 2) (i := 0) clF5 (by decide) rfl fl_RX5_9 rfl rfl h2 dX5_become_2 ?_
  refine J_aload_n (pc := 5) (q := 0) rfl rfl dX5_become_5 ?_
  refine J_iconst (pc := 6) (v := (0 : Int32)) (by decide) dX5_become_6 ?_
  refine J_iload_n (pc := 7) (q := 2) rfl rfl dX5_become_7 ?_
  refine J_bipush (pc := 8) (v := (40 : Int32)) (by decide) dX5_become_8 ?_
  refine J_mmin (pc := 10) ml_RX5_19 (by omega) (Nat.le_of_ble_eq_true rfl) dX5_become_10 ?_
  refine J_mmax (pc := 13) ml_RX5_25 (by omega) (Nat.le_of_ble_eq_true rfl) dX5_become_13 ?_
  obtain ⟨M16, h16, g_4⟩ := bnd g_3
  refine J_putI (pc := 16) (i := 1) clF5 (by decide) rfl fl_RX5_28 rfl rfl h16 dX5_become_16 ?_
  refine J_iconst (pc := 19) (v := (0 : Int32)) (by decide) dX5_become_19 ?_
  refine J_istore_n (pc := 20) rfl (by decide) (lv' := [(0, vR (some x0)), (1, vI x1), (2, vI x2), (3, vI (0 : Int32))]) rfl dX5_become_20 ?_
  refine J_sub [0, 3] (lv' := [(0, vR (some x0)), (3, vI (0 : Int32))]) rfl ?_
  exact jX5_become_L21  FU _ _ g_4
