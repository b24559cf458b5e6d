set_option maxHeartbeats 4000000 in
set_option maxRecDepth 100000 in
theorem tX3_allPlaces {ad : Nat → Nat} {ca : Nat → ClassId} {D : va_G} {FU d : Nat} {r : Int32} {N : Mem}  {x0 : Nat} {M : Mem}  (h : fX3_allPlaces FU  x0 M = some (r, N)) : Ct ad ca D yX3_allPlaces cX3_allPlaces 1 (some .int) (d + 0) [vR (some x0)] M (QI r N) := by
  refine Ct_of (by decide) (Nat.le_of_ble_eq_true rfl) ?_
  show J ad ca D cX3_allPlaces RX3 1 (d + 0) (Gt ad ca D (some .int) (QI r N)) 0 [(0, vR (some x0))] [] M
  unfold fX3_allPlaces at h
  refine J_iconst (pc := 0) (v := (1 : Int32)) (by decide) dX3_allPlaces_0 ?_
  refine J_aload_n (pc := 1) (q := 0) rfl rfl dX3_allPlaces_1 ?_
  obtain ⟨a2, h2, g_1⟩ := bnd h
  refine J_getI (pc := 2) (i := 0) clF3 (by decide) rfl fl_RX3_40 h2 dX3_allPlaces_2 ?_
  refine J_ishl (pc := 5) dX3_allPlaces_5 ?_
  refine J_iconst (pc := 6) (v := (1 : Int32)) (by decide) dX3_allPlaces_6 ?_
  refine J_isub (pc := 7) dX3_allPlaces_7 ?_
  exact J_iret (pc := 8) (qi_of g_1) dX3_allPlaces_8
set_option maxHeartbeats 4000000 in
set_option maxRecDepth 100000 in
theorem tX3_placesOf {ad : Nat → Nat} {ca : Nat → ClassId} {D : va_G} {FU d : Nat} {r : Int32} {N : Mem}  {x0 : Int32} {M : Mem}  (h : fX3_placesOf FU  x0 M = some (r, N)) : Ct ad ca D yX3_placesOf cX3_placesOf 1 (some .int) (d + 0) [vI x0] M (QI r N) := by
  refine Ct_of (by decide) (Nat.le_of_ble_eq_true rfl) ?_
  show J ad ca D cX3_placesOf RX3 1 (d + 0) (Gt ad ca D (some .int) (QI r N)) 0 [(0, vI x0)] [] M
  unfold fX3_placesOf at h
  refine J_iconst (pc := 0) (v := (1 : Int32)) (by decide) dX3_placesOf_0 ?_
  refine J_iload_n (pc := 1) (q := 0) rfl rfl dX3_placesOf_1 ?_
  refine J_iconst (pc := 2) (v := (3 : Int32)) (by decide) dX3_placesOf_2 ?_
  refine J_ishr (pc := 3) dX3_placesOf_3 ?_
  refine J_ishl (pc := 4) dX3_placesOf_4 ?_
  refine J_iconst (pc := 5) (v := (1 : Int32)) (by decide) dX3_placesOf_5 ?_
  refine J_iload_n (pc := 6) (q := 0) rfl rfl dX3_placesOf_6 ?_
  refine J_bipush (pc := 7) (v := (7 : Int32)) (by decide) dX3_placesOf_7 ?_
  refine J_iand (pc := 9) dX3_placesOf_9 ?_
  refine J_ishl (pc := 10) dX3_placesOf_10 ?_
  refine J_ior (pc := 11) dX3_placesOf_11 ?_
  exact J_iret (pc := 12) (qi_of h) dX3_placesOf_12
set_option maxHeartbeats 4000000 in
set_option maxRecDepth 100000 in
theorem jX3_seenFromPlace_b74 {ad : Nat → Nat} {ca : Nat → ClassId} {D : va_G} {FU d : Nat} {r : Int32} {N : Mem}  {k32 : Int32 → Int32 → Mem → Option (Int32 × Mem)} {k44 : Int32 → Int32 → Mem → Option (Int32 × Mem)} {x0 : Nat} {x2 : Int32} {x3 : Int32} {x4 : Int32} {x5 : Int32} {x6 : Int32} {M : Mem}  (hk32 : ∀ (y3 : Int32) (y4 : Int32) (M : Mem), k32 y3 y4 M = some (r, N) → J ad ca D cX3_seenFromPlace RX3 7 (d + 0) (Gt ad ca D (some .int) (QI r N)) 32 [(0, vR (some x0)), (2, vI x2), (3, vI y3), (4, vI y4)] [] M) (hk44 : ∀ (y5 : Int32) (y6 : Int32) (M : Mem), k44 y5 y6 M = some (r, N) → J ad ca D cX3_seenFromPlace RX3 7 (d + 0) (Gt ad ca D (some .int) (QI r N)) 44 [(0, vR (some x0)), (2, vI x2), (3, vI x3), (4, vI x4), (5, vI y5), (6, vI y6)] [] M) (h : fX3_seenFromPlace_b74 FU  k32 k44 x0 x2 x3 x4 x5 x6 M = some (r, N)) : J ad ca D cX3_seenFromPlace RX3 7 (d + 0) (Gt ad ca D (some .int) (QI r N)) 74 [(0, vR (some x0)), (2, vI x2), (3, vI x3), (4, vI x4), (5, vI x5), (6, vI x6)] [] M := by
  unfold fX3_seenFromPlace_b74 at h
  refine J_iinc (pc := 74) (q := 5) rfl (v := x6 + (1 : Int32)) rfl (by decide) (lv' := [(0, vR (some x0)), (2, vI x2), (3, vI x3), (4, vI x4), (5, vI x5), (6, vI (x6 + (1 : Int32)))]) rfl dX3_seenFromPlace_74 ?_
  refine J_goto (pc := 77) (tgt := 44) (by decide) dX3_seenFromPlace_77 ?_
  exact hk44 _ _ _ h
set_option maxHeartbeats 4000000 in
set_option maxRecDepth 100000 in
theorem jX3_seenFromPlace_L44 {ad : Nat → Nat} {ca : Nat → ClassId} {D : va_G} {FU d : Nat} {r : Int32} {N : Mem}  {k32 : Int32 → Int32 → Mem → Option (Int32 × Mem)} {x0 : Nat} {x2 : Int32} {x3 : Int32} {x4 : Int32}  (hk32 : ∀ (y3 : Int32) (y4 : Int32) (M : Mem), k32 y3 y4 M = some (r, N) → J ad ca D cX3_seenFromPlace RX3 7 (d + 0) (Gt ad ca D (some .int) (QI r N)) 32 [(0, vR (some x0)), (2, vI x2), (3, vI y3), (4, vI y4)] [] M) : ∀ (F : Nat) (x5 : Int32) (x6 : Int32) (M : Mem), fX3_seenFromPlace_L44 FU  k32 x0 x2 x3 x4 F x5 x6 M = some (r, N) → J ad ca D cX3_seenFromPlace RX3 7 (d + 0) (Gt ad ca D (some .int) (QI r N)) 44 [(0, vR (some x0)), (2, vI x2), (3, vI x3), (4, vI x4), (5, vI x5), (6, vI x6)] [] M := by
  intro F
  induction F with
  | zero =>
    intro x5 x6 M h
    rw [fX3_seenFromPlace_L44] at h
    cases h
  | succ F hk44 =>
    intro x5 x6 M h
    rw [fX3_seenFromPlace_L44] at h
    refine J_iload (pc := 44) (q := 5) rfl dX3_seenFromPlace_44 ?_
    refine J_aload_n (pc := 46) (q := 0) rfl rfl dX3_seenFromPlace_46 ?_
    obtain ⟨a47, h47, g_1⟩ := bnd h
    refine J_getI (pc := 47) (i := 0) clF3 (by decide) rfl fl_RX3_40 h47 dX3_seenFromPlace_47 ?_
    refine J_icge (pc := 50) (tgt := 80) (by decide) dX3_seenFromPlace_50 (fun hc50 => ?_) (fun hc50 => ?_)
    · rw [if_pos hc50] at g_1
      refine J_iload (pc := 80) (q := 4) rfl dX3_seenFromPlace_80 ?_
      refine J_istore_n (pc := 82) rfl (by decide) (lv' := [(0, vR (some x0)), (2, vI x2), (4, vI x4), (5, vI x5), (6, vI x6), (3, vI x5)]) rfl dX3_seenFromPlace_82 ?_
      refine J_iinc (pc := 83) (q := 2) rfl (v := x4 + (1 : Int32)) rfl (by decide) (lv' := [(0, vR (some x0)), (2, vI x2), (5, vI x5), (6, vI x6), (3, vI x5), (4, vI (x4 + (1 : Int32)))]) rfl dX3_seenFromPlace_83 ?_
      refine J_goto (pc := 86) (tgt := 32) (by decide) dX3_seenFromPlace_86 ?_
      refine J_sub [0, 1, 4, 5] (lv' := [(0, vR (some x0)), (2, vI x2), (3, vI x5), (4, vI (x4 + (1 : Int32)))]) rfl ?_
      exact hk32 _ _ _ g_1
    · rw [if_neg hc50] at g_1
      refine J_iload_n (pc := 53) (q := 2) rfl rfl dX3_seenFromPlace_53 ?_
      refine J_iload (pc := 54) (q := 5) rfl dX3_seenFromPlace_54 ?_
      refine J_ishr (pc := 56) dX3_seenFromPlace_56 ?_
      refine J_iconst (pc := 57) (v := (1 : Int32)) (by decide) dX3_seenFromPlace_57 ?_
      refine J_iand (pc := 58) dX3_seenFromPlace_58 ?_
      refine J_ifeq (pc := 59) (tgt := 74) (by decide) dX3_seenFromPlace_59 (fun hc59 => ?_) (fun hc59 => ?_)
      · rw [if_pos hc59] at g_1
        exact jX3_seenFromPlace_b74 hk32 hk44 g_1
      · rw [if_neg hc59] at g_1
        refine J_iload (pc := 62) (q := 4) rfl dX3_seenFromPlace_62 ?_
        refine J_aload_n (pc := 64) (q := 0) rfl rfl dX3_seenFromPlace_64 ?_
        obtain ⟨a65, h65, g_2⟩ := bnd g_1
        refine J_getR (pc := 65) (i := 7) clF3 (by decide) rfl fl_RX3_30 h65 dX3_seenFromPlace_65 ?_
        refine J_iload (pc := 68) (q := 5) rfl dX3_seenFromPlace_68 ?_
        obtain ⟨a70, h70, g_3⟩ := bnd g_2
        refine J_ald0 (pc := 70) h70 dX3_seenFromPlace_70 ?_
        refine J_ior (pc := 71) dX3_seenFromPlace_71 ?_
        refine J_istore (pc := 72) (by decide) (lv' := [(0, vR (some x0)), (2, vI x2), (3, vI x3), (4, vI x4), (6, vI x6), (5, vI (x5 ||| a70))]) rfl dX3_seenFromPlace_72 ?_
        refine J_sub [0, 1, 2, 3, 5, 4] (lv' := [(0, vR (some x0)), (2, vI x2), (3, vI x3), (4, vI x4), (5, vI (x5 ||| a70)), (6, vI x6)]) rfl ?_
        exact jX3_seenFromPlace_b74 hk32 hk44 g_3
set_option maxHeartbeats 4000000 in
set_option maxRecDepth 100000 in
theorem jX3_seenFromPlace_L32 {ad : Nat → Nat} {ca : Nat → ClassId} {D : va_G} {FU d : Nat} {r : Int32} {N : Mem}   {x0 : Nat} {x2 : Int32}   : ∀ (F : Nat) (x3 : Int32) (x4 : Int32) (M : Mem), fX3_seenFromPlace_L32 FU  x0 x2 F x3 x4 M = some (r, N) → J ad ca D cX3_seenFromPlace RX3 7 (d + 0) (Gt ad ca D (some .int) (QI r N)) 32 [(0, vR (some x0)), (2, vI x2), (3, vI x3), (4, vI x4)] [] M := by
  intro F
  induction F with
  | zero =>
    intro x3 x4 M h
    rw [fX3_seenFromPlace_L32] at h
    cases h
  | succ F hk32 =>
    intro x3 x4 M h
    rw [fX3_seenFromPlace_L32] at h
    refine J_iload (pc := 32) (q := 3) rfl dX3_seenFromPlace_32 ?_
    refine J_iload_n (pc := 34) (q := 1) rfl rfl dX3_seenFromPlace_34 ?_
    refine J_icge (pc := 35) (tgt := 89) (by decide) dX3_seenFromPlace_35 (fun hc35 => ?_) (fun hc35 => ?_)
    · rw [if_pos hc35] at h
      refine J_iload_n (pc := 89) (q := 2) rfl rfl dX3_seenFromPlace_89 ?_
      exact J_iret (pc := 90) (qi_of h) dX3_seenFromPlace_90
    · rw [if_neg hc35] at h
      refine J_iload_n (pc := 38) (q := 2) rfl rfl dX3_seenFromPlace_38 ?_
      refine J_istore (pc := 39) (by decide) (lv' := [(0, vR (some x0)), (2, vI x2), (3, vI x3), (4, vI x4), (5, vI x3)]) rfl dX3_seenFromPlace_39 ?_
      refine J_iconst (pc := 41) (v := (0 : Int32)) (by decide) dX3_seenFromPlace_41 ?_
      refine J_istore (pc := 42) (by decide) (lv' := [(0, vR (some x0)), (2, vI x2), (3, vI x3), (4, vI x4), (5, vI x3), (6, vI (0 : Int32))]) rfl dX3_seenFromPlace_42 ?_
      exact jX3_seenFromPlace_L44 hk32 FU _ _ _ h
set_option maxHeartbeats 4000000 in
set_option maxRecDepth 100000 in
theorem jX3_seenFromPlace_b24 {ad : Nat → Nat} {ca : Nat → ClassId} {D : va_G} {FU d : Nat} {r : Int32} {N : Mem}   {x0 : Nat} {x1 : Int32} {s0 : Int32} {M : Mem}   (h : fX3_seenFromPlace_b24 FU  x0 x1 s0 M = some (r, N)) : J ad ca D cX3_seenFromPlace RX3 7 (d + 0) (Gt ad ca D (some .int) (QI r N)) 24 [(0, vR (some x0)), (1, vI x1)] [vI s0] M := by
  unfold fX3_seenFromPlace_b24 at h
  refine J_istore_n (pc := 24) rfl (by decide) (lv' := [(0, vR (some x0)), (1, vI x1), (2, vI s0)]) rfl dX3_seenFromPlace_24 ?_
  refine J_iconst (pc := 25) (v := (1 : Int32)) (by decide) dX3_seenFromPlace_25 ?_
  refine J_iload_n (pc := 26) (q := 1) rfl rfl dX3_seenFromPlace_26 ?_
  refine J_ishl (pc := 27) dX3_seenFromPlace_27 ?_
  refine J_istore_n (pc := 28) rfl (by decide) (lv' := [(0, vR (some x0)), (1, vI x1), (2, vI s0), (3, vI ((1 : Int32) <<< (x1 &&& 31)))]) rfl dX3_seenFromPlace_28 ?_
  refine J_iconst (pc := 29) (v := (0 : Int32)) (by decide) dX3_seenFromPlace_29 ?_
  refine J_istore (pc := 30) (by decide) (lv' := [(0, vR (some x0)), (1, vI x1), (2, vI s0), (3, vI ((1 : Int32) <<< (x1 &&& 31))), (4, vI (0 : Int32))]) rfl dX3_seenFromPlace_30 ?_
  refine J_sub [0, 2, 3, 4] (lv' := [(0, vR (some x0)), (2, vI s0), (3, vI ((1 : Int32) <<< (x1 &&& 31))), (4, vI (0 : Int32))]) rfl ?_
  exact jX3_seenFromPlace_L32  FU _ _ _ h
set_option maxHeartbeats 4000000 in
set_option maxRecDepth 100000 in
theorem tX3_seenFromPlace {ad : Nat → Nat} {ca : Nat → ClassId} {D : va_G} {FU d : Nat} {r : Int32} {N : Mem}  {x0 : Nat} {x1 : Int32} {M : Mem}  (h : fX3_seenFromPlace FU  x0 x1 M = some (r, N)) : Ct ad ca D yX3_seenFromPlace cX3_seenFromPlace 7 (some .int) (d + 0) [vR (some x0), vI x1] M (QI r N) := by
  refine Ct_of (by decide) (Nat.le_of_ble_eq_true rfl) ?_
  show J ad ca D cX3_seenFromPlace RX3 7 (d + 0) (Gt ad ca D (some .int) (QI r N)) 0 [(0, vR (some x0)), (1, vI x1)] [] M
  unfold fX3_seenFromPlace at h
  refine J_aload_n (pc := 0) (q := 0) rfl rfl dX3_seenFromPlace_0 ?_
  obtain ⟨a1, h1, g_4⟩ := bnd h
  refine J_getR (pc := 1) (i := 6) clF3 (by decide) rfl fl_RX3_27 h1 dX3_seenFromPlace_1 ?_
  refine J_iload_n (pc := 4) (q := 1) rfl rfl dX3_seenFromPlace_4 ?_
  obtain ⟨a5, h5, g_5⟩ := bnd g_4
  refine J_ald0 (pc := 5) h5 dX3_seenFromPlace_5 ?_
  refine J_iconst (pc := 6) (v := (2 : Int32)) (by decide) dX3_seenFromPlace_6 ?_
  refine J_iand (pc := 7) dX3_seenFromPlace_7 ?_
  refine J_ifeq (pc := 8) (tgt := 20) (by decide) dX3_seenFromPlace_8 (fun hc8 => ?_) (fun hc8 => ?_)
  · rw [if_pos hc8] at g_5
    refine J_aload_n (pc := 20) (q := 0) rfl rfl dX3_seenFromPlace_20 ?_
    obtain ⟨a21, h21, g_6⟩ := bnd g_5
    refine J_getI (pc := 21) (i := 11) clF3 (by decide) rfl fl_RX3_37 h21 dX3_seenFromPlace_21 ?_
    exact jX3_seenFromPlace_b24  g_6
  · rw [if_neg hc8] at g_5
    refine J_aload_n (pc := 11) (q := 0) rfl rfl dX3_seenFromPlace_11 ?_
    obtain ⟨a12, h12, g_7⟩ := bnd g_5
    refine J_getI (pc := 12) (i := 11) clF3 (by decide) rfl fl_RX3_37 h12 dX3_seenFromPlace_12 ?_
    refine J_iconst (pc := 15) (v := (1 : Int32)) (by decide) dX3_seenFromPlace_15 ?_
    refine J_iadd (pc := 16) dX3_seenFromPlace_16 ?_
    refine J_goto (pc := 17) (tgt := 24) (by decide) dX3_seenFromPlace_17 ?_
    exact jX3_seenFromPlace_b24  g_7
set_option maxHeartbeats 4000000 in
set_option maxRecDepth 100000 in
theorem tX3_seenFrom {ad : Nat → Nat} {ca : Nat → ClassId} {D : va_G} {FU d : Nat} {r : Int32} {N : Mem}  {x0 : Nat} {x1 : Int32} {M : Mem}  (h : fX3_seenFrom FU  x0 x1 M = some (r, N)) : Ct ad ca D yX3_seenFrom cX3_seenFrom 2 (some .int) (d + 1) [vR (some x0), vI x1] M (QI r N) := by
  refine Ct_of (by decide) (Nat.le_of_ble_eq_true rfl) ?_
  show J ad ca D cX3_seenFrom RX3 2 (d + 1) (Gt ad ca D (some .int) (QI r N)) 0 [(0, vR (some x0)), (1, vI x1)] [] M
  unfold fX3_seenFrom at h
  refine J_aload_n (pc := 0) (q := 0) rfl rfl dX3_seenFrom_0 ?_
  refine J_iload_n (pc := 1) (q := 1) rfl rfl dX3_seenFrom_1 ?_
  refine J_iconst (pc := 2) (v := (3 : Int32)) (by decide) dX3_seenFrom_2 ?_
  refine J_ishr (pc := 3) dX3_seenFrom_3 ?_
  obtain ⟨b4, hb4, g_1⟩ := bnd h
  obtain ⟨r4, M4, h4, g_2⟩ := bnd2 g_1
  refine J_callVI (pc := 4) (as := [vI (x1 >>> ((3 : Int32) &&& 31))]) (tX3_seenFromPlace (d := d)  h4) cf_X3_seenFromPlace cv_X3_seenFromPlace clF3 hb4 ml_RX3_98 (by omega) (Nat.le_of_ble_eq_true rfl) dX3_seenFrom_4 ?_
  refine J_aload_n (pc := 7) (q := 0) rfl rfl dX3_seenFrom_7 ?_
  refine J_iload_n (pc := 8) (q := 1) rfl rfl dX3_seenFrom_8 ?_
  refine J_bipush (pc := 9) (v := (7 : Int32)) (by decide) dX3_seenFrom_9 ?_
  refine J_iand (pc := 11) dX3_seenFrom_11 ?_
  obtain ⟨b12, hb12, g_3⟩ := bnd g_2
  obtain ⟨r12, M12, h12, g_4⟩ := bnd2 g_3
  refine J_callVI (pc := 12) (as := [vI (x1 &&& (7 : Int32))]) (tX3_seenFromPlace (d := d)  h12) cf_X3_seenFromPlace cv_X3_seenFromPlace clF3 hb12 ml_RX3_98 (by omega) (Nat.le_of_ble_eq_true rfl) dX3_seenFrom_12 ?_
  refine J_ior (pc := 15) dX3_seenFrom_15 ?_
  exact J_iret (pc := 16) (qi_of g_4) dX3_seenFrom_16
set_option maxHeartbeats 4000000 in
set_option maxRecDepth 100000 in
theorem tX0_look {ad : Nat → Nat} {ca : Nat → ClassId} {D : va_G} {FU d : Nat} {N : Mem}  {x0 : Nat} {x1 : Option Nat} {M : Mem}  (h : fX0_look FU  x0 x1 M = some N) : Ct ad ca D yX0_look cX0_look 4 none (d + 2) [vR (some x0), vR x1] M (QV N) := by
  refine Ct_of (by decide) (Nat.le_of_ble_eq_true rfl) ?_
  show J ad ca D cX0_look RX0 4 (d + 2) (Gt ad ca D none (QV N)) 0 [(0, vR (some x0)), (1, vR x1)] [] M
  unfold fX0_look at h
  refine J_aload_n (pc := 0) (q := 1) rfl rfl dX0_look_0 ?_
  refine J_aload_n (pc := 1) (q := 0) rfl rfl dX0_look_1 ?_
  obtain ⟨a2, h2, g_1⟩ := bnd h
  refine J_getI (pc := 2) (i := 1) clF0 (by decide) rfl fl_RX0_29 h2 dX0_look_2 ?_
  refine J_iconst (pc := 5) (v := (3 : Int32)) (by decide) dX0_look_5 ?_
  refine J_ishr (pc := 6) dX0_look_6 ?_
  refine J_bipush (pc := 7) (v := (63 : Int32)) (by decide) dX0_look_7 ?_
  refine J_iand (pc := 9) dX0_look_9 ?_
  obtain ⟨b10, hb10, g_2⟩ := bnd g_1
  obtain ⟨r10, M10, h10, g_3⟩ := bnd2 g_2
  refine J_callVI (pc := 10) (as := [vI ((a2 >>> ((3 : Int32) &&& 31)) &&& (63 : Int32))]) (tX3_seenFrom (d := d)  h10) cf_X3_seenFrom cv_X3_seenFrom clF3 hb10 ml_RX0_49 (by omega) (Nat.le_of_ble_eq_true rfl) dX0_look_10 ?_
  refine J_istore_n (pc := 13) rfl (by decide) (lv' := [(0, vR (some x0)), (1, vR x1), (2, vI r10)]) rfl dX0_look_13 ?_
  refine J_aload_n (pc := 14) (q := 0) rfl rfl dX0_look_14 ?_
  obtain ⟨a15, h15, g_4⟩ := bnd g_3
  refine J_getI (pc := 15) (i := 1) clF0 (by decide) rfl fl_RX0_29 h15 dX0_look_15 ?_
  refine J_bipush (pc := 18) (v := (7 : Int32)) (by decide) dX0_look_18 ?_
  refine J_iand (pc := 20) dX0_look_20 ?_
  refine J_istore_n (pc := 21) rfl (by decide) (lv' := [(0, vR (some x0)), (1, vR x1), (2, vI r10), (3, vI (a15 &&& (7 : Int32)))]) rfl dX0_look_21 ?_
  refine J_aload_n (pc := 22) (q := 0) rfl rfl dX0_look_22 ?_
  refine J_iload_n (pc := 23) (q := 2) rfl rfl dX0_look_23 ?_
  refine J_iload_n (pc := 24) (q := 3) rfl rfl dX0_look_24 ?_
  refine J_ishr (pc := 25) dX0_look_25 ?_
  refine J_iconst (pc := 26) (v := (1 : Int32)) (by decide) dX0_look_26 ?_
  refine J_iand (pc := 27) dX0_look_27 ?_
  refine J_ifeq (pc := 28) (tgt := 37) (by decide) dX0_look_28 (fun hc28 => ?_) (fun hc28 => ?_)
  · rw [if_pos hc28] at g_4
    refine J_aload_n (pc := 37) (q := 0) rfl rfl dX0_look_37 ?_
    obtain ⟨a38, h38, g_5⟩ := bnd g_4
    refine J_getI (pc := 38) (i := 2) clF0 (by decide) rfl fl_RX0_42 h38 dX0_look_38 ?_
    refine J_iload_n (pc := 41) (q := 2) rfl rfl dX0_look_41 ?_
    refine J_iconst (pc := 42) (v := (-1 : Int32)) (by decide) dX0_look_42 ?_
    refine J_ixor (pc := 43) dX0_look_43 ?_
    refine J_iand (pc := 44) dX0_look_44 ?_
    obtain ⟨M45, h45, g_6⟩ := bnd g_5
    refine J_putI (pc := 45) (i := 2) clF0 (by decide) rfl fl_RX0_42 rfl rfl h45 dX0_look_45 ?_
    exact J_vret (pc := 48) (qv_of g_6) dX0_look_48
  · rw [if_neg hc28] at g_4
    refine J_iconst (pc := 31) (v := (1 : Int32)) (by decide) dX0_look_31 ?_
    refine J_iload_n (pc := 32) (q := 3) rfl rfl dX0_look_32 ?_
    refine J_ishl (pc := 33) dX0_look_33 ?_
    refine J_goto (pc := 34) (tgt := 45) (by decide) dX0_look_34 ?_
    obtain ⟨M45, h45, g_7⟩ := bnd g_4
    refine J_putI (pc := 45) (i := 2) clF0 (by decide) rfl fl_RX0_42 rfl rfl h45 dX0_look_45 ?_
    exact J_vret (pc := 48) (qv_of g_7) dX0_look_48
set_option maxHeartbeats 4000000 in
set_option maxRecDepth 100000 in
theorem tX0_begin {ad : Nat → Nat} {ca : Nat → ClassId} {D : va_G} {FU d : Nat} {N : Mem}  {x0 : Nat} {x1 : Option Nat} {x2 : Int32} {x3 : Int32} {M : Mem}  (h : fX0_begin FU  x0 x1 x2 x3 M = some N) : Ct ad ca D yX0_begin cX0_begin 4 none (d + 3) [vR (some x0), vR x1, vI x2, vI x3] M (QV N) := by
  refine Ct_of (by decide) (Nat.le_of_ble_eq_true rfl) ?_
  show J ad ca D cX0_begin RX0 4 (d + 3) (Gt ad ca D none (QV N)) 0 [(0, vR (some x0)), (1, vR x1), (2, vI x2), (3, vI x3)] [] M
  unfold fX0_begin at h
  refine J_aload_n (pc := 0) (q := 0) rfl rfl dX0_begin_0 ?_
  refine J_iconst (pc := 1) (v := (1 : Int32)) (by decide) dX0_begin_1 ?_
  obtain ⟨M2, h2, g_1⟩ := bnd h
  refine J_putZ (pc := 2) (i := 0) clF0 (by decide) rfl fl_RX0_18 rfl rfl (Or.inr rfl) h2 dX0_begin_2 ?_
  refine J_aload_n (pc := 5) (q := 0) rfl rfl dX0_begin_5 ?_
  refine J_iconst (pc := 6) (v := (0 : Int32)) (by decide) dX0_begin_6 ?_
  obtain ⟨M7, h7, g_2⟩ := bnd g_1
  refine J_putI (pc := 7) (i := 3) clF0 (by decide) rfl fl_RX0_22 rfl rfl h7 dX0_begin_7 ?_
  refine J_aload_n (pc := 10) (q := 0) rfl rfl dX0_begin_10 ?_
  refine J_iconst (pc := 11) (v := (0 : Int32)) (by decide) dX0_begin_11 ?_
  obtain ⟨M12, h12, g_3⟩ := bnd g_2
  refine J_putI (pc := 12) (i := 4) clF0 (by decide) rfl fl_RX0_26 rfl rfl h12 dX0_begin_12 ?_
  refine J_aload_n (pc := 15) (q := 0) rfl rfl dX0_begin_15 ?_
  refine J_iload_n (pc := 16) (q := 2) rfl rfl dX0_begin_16 ?_
  refine J_bipush (pc := 17) (v := (8 : Int32)) (by decide) dX0_begin_17 ?_
  refine J_imul (pc := 19) dX0_begin_19 ?_
  refine J_iload_n (pc := 20) (q := 3) rfl rfl dX0_begin_20 ?_
  refine J_iadd (pc := 21) dX0_begin_21 ?_
  obtain ⟨M22, h22, g_4⟩ := bnd g_3
  refine J_putI (pc := 22) (i := 1) clF0 (by decide) rfl fl_RX0_29 rfl rfl h22 dX0_begin_22 ?_
  refine J_aload_n (pc := 25) (q := 0) rfl rfl dX0_begin_25 ?_
  refine J_aload_n (pc := 26) (q := 1) rfl rfl dX0_begin_26 ?_
  obtain ⟨b27, hb27, g_5⟩ := bnd g_4
  obtain ⟨r27, M27, h27, g_6⟩ := bnd2 g_5
  refine J_callVI (pc := 27) (as := []) (tX3_allPlaces (d := d)  h27) cf_X3_allPlaces cv_X3_allPlaces clF3 hb27 ml_RX0_32 (by omega) (Nat.le_of_ble_eq_true rfl) dX0_begin_27 ?_
  refine J_iload_n (pc := 30) (q := 2) rfl rfl dX0_begin_30 ?_
  obtain ⟨r31, M31, h31, g_7⟩ := bnd2 g_6
  refine J_callSI (pc := 31) (as := [vI x2]) (tX3_placesOf (d := d)  h31) cf_X3_placesOf cv_X3_placesOf ml_RX0_38 (by omega) (Nat.le_of_ble_eq_true rfl) dX0_begin_31 ?_
  refine J_iconst (pc := 34) (v := (-1 : Int32)) (by decide) dX0_begin_34 ?_
  refine J_ixor (pc := 35) dX0_begin_35 ?_
  refine J_iand (pc := 36) dX0_begin_36 ?_
  obtain ⟨M37, h37, g_8⟩ := bnd g_7
  refine J_putI (pc := 37) (i := 2) clF0 (by decide) rfl fl_RX0_42 rfl rfl h37 dX0_begin_37 ?_
  refine J_aload_n (pc := 40) (q := 0) rfl rfl dX0_begin_40 ?_
  refine J_aload_n (pc := 41) (q := 1) rfl rfl dX0_begin_41 ?_
  obtain ⟨b42, hb42, g_9⟩ := bnd g_8
  obtain ⟨M42, h42, g_10⟩ := bnd g_9
  refine J_callVV (pc := 42) (as := [vR x1]) (tX0_look (d := d)  h42) cf_X0_look cv_X0_look clF0 hb42 ml_RX0_45 (by omega) (Nat.le_of_ble_eq_true rfl) dX0_begin_42 ?_
  exact J_vret (pc := 45) (qv_of g_10) dX0_begin_45
set_option maxHeartbeats 4000000 in
set_option maxRecDepth 100000 in
theorem tX6_isRunnersTurn {ad : Nat → Nat} {ca : Nat → ClassId} {D : va_G} {FU d : Nat} {r : Int32} {N : Mem}  {x0 : Int32} {M : Mem}  (h : fX6_isRunnersTurn FU  x0 M = some (r, N)) : Ct ad ca D yX6_isRunnersTurn cX6_isRunnersTurn 1 (some .boolean) (d + 0) [vI x0] M (QI r N) := by
  refine Ct_of (by decide) (Nat.le_of_ble_eq_true rfl) ?_
  show J ad ca D cX6_isRunnersTurn RX6 1 (d + 0) (Gt ad ca D (some .boolean) (QI r N)) 0 [(0, vI x0)] [] M
  unfold fX6_isRunnersTurn at h
  refine J_iload_n (pc := 0) (q := 0) rfl rfl dX6_isRunnersTurn_0 ?_
  refine J_sipush (pc := 1) (v := (512 : Int32)) (by decide) dX6_isRunnersTurn_1 ?_
  refine J_iand (pc := 4) dX6_isRunnersTurn_4 ?_
  refine J_ifeq (pc := 5) (tgt := 12) (by decide) dX6_isRunnersTurn_5 (fun hc5 => ?_) (fun hc5 => ?_)
  · rw [if_pos hc5] at h
    refine J_iconst (pc := 12) (v := (0 : Int32)) (by decide) dX6_isRunnersTurn_12 ?_
    exact J_zret (pc := 13) (Or.inl rfl) (qi_of h) dX6_isRunnersTurn_13
  · rw [if_neg hc5] at h
    refine J_iconst (pc := 8) (v := (1 : Int32)) (by decide) dX6_isRunnersTurn_8 ?_
    refine J_goto (pc := 9) (tgt := 13) (by decide) dX6_isRunnersTurn_9 ?_
    exact J_zret (pc := 13) (Or.inr rfl) (qi_of h) dX6_isRunnersTurn_13
set_option maxHeartbeats 4000000 in
set_option maxRecDepth 100000 in
theorem tX3_isWell {ad : Nat → Nat} {ca : Nat → ClassId} {D : va_G} {FU d : Nat} {r : Int32} {N : Mem}  {x0 : Nat} {x1 : Int32} {M : Mem}  (h : fX3_isWell FU  x0 x1 M = some (r, N)) : Ct ad ca D yX3_isWell cX3_isWell 2 (some .boolean) (d + 0) [vR (some x0), vI x1] M (QI r N) := by
  refine Ct_of (by decide) (Nat.le_of_ble_eq_true rfl) ?_
  show J ad ca D cX3_isWell RX3 2 (d + 0) (Gt ad ca D (some .boolean) (QI r N)) 0 [(0, vR (some x0)), (1, vI x1)] [] M
  unfold fX3_isWell at h
  refine J_aload_n (pc := 0) (q := 0) rfl rfl dX3_isWell_0 ?_
  obtain ⟨a1, h1, g_1⟩ := bnd h
  refine J_getR (pc := 1) (i := 6) clF3 (by decide) rfl fl_RX3_27 h1 dX3_isWell_1 ?_
  refine J_iload_n (pc := 4) (q := 1) rfl rfl dX3_isWell_4 ?_
  obtain ⟨a5, h5, g_2⟩ := bnd g_1
  refine J_ald0 (pc := 5) h5 dX3_isWell_5 ?_
  refine J_iconst (pc := 6) (v := (1 : Int32)) (by decide) dX3_isWell_6 ?_
  refine J_iand (pc := 7) dX3_isWell_7 ?_
  refine J_ifeq (pc := 8) (tgt := 15) (by decide) dX3_isWell_8 (fun hc8 => ?_) (fun hc8 => ?_)
  · rw [if_pos hc8] at g_2
    refine J_iconst (pc := 15) (v := (0 : Int32)) (by decide) dX3_isWell_15 ?_
    exact J_zret (pc := 16) (Or.inl rfl) (qi_of g_2) dX3_isWell_16
  · rw [if_neg hc8] at g_2
    refine J_iconst (pc := 11) (v := (1 : Int32)) (by decide) dX3_isWell_11 ?_
    refine J_goto (pc := 12) (tgt := 16) (by decide) dX3_isWell_12 ?_
    exact J_zret (pc := 16) (Or.inr rfl) (qi_of g_2) dX3_isWell_16
set_option maxHeartbeats 4000000 in
set_option maxRecDepth 100000 in
theorem tX3_otherEnd {ad : Nat → Nat} {ca : Nat → ClassId} {D : va_G} {FU d : Nat} {r : Int32} {N : Mem}  {x0 : Nat} {x1 : Int32} {x2 : Int32} {M : Mem}  (h : fX3_otherEnd FU  x0 x1 x2 M = some (r, N)) : Ct ad ca D yX3_otherEnd cX3_otherEnd 3 (some .int) (d + 0) [vR (some x0), vI x1, vI x2] M (QI r N) := by
  refine Ct_of (by decide) (Nat.le_of_ble_eq_true rfl) ?_
  show J ad ca D cX3_otherEnd RX3 3 (d + 0) (Gt ad ca D (some .int) (QI r N)) 0 [(0, vR (some x0)), (1, vI x1), (2, vI x2)] [] M
  unfold fX3_otherEnd at h
  refine J_aload_n (pc := 0) (q := 0) rfl rfl dX3_otherEnd_0 ?_
  obtain ⟨a1, h1, g_1⟩ := bnd h
  refine J_getR (pc := 1) (i := 2) clF3 (by decide) rfl fl_RX3_15 h1 dX3_otherEnd_1 ?_
  refine J_iload_n (pc := 4) (q := 1) rfl rfl dX3_otherEnd_4 ?_
  obtain ⟨a5, h5, g_2⟩ := bnd g_1
  refine J_ald0 (pc := 5) h5 dX3_otherEnd_5 ?_
  refine J_iload_n (pc := 6) (q := 2) rfl rfl dX3_otherEnd_6 ?_
  refine J_icne (pc := 7) (tgt := 17) (by decide) dX3_otherEnd_7 (fun hc7 => ?_) (fun hc7 => ?_)
  · rw [if_pos hc7] at g_2
    refine J_aload_n (pc := 17) (q := 0) rfl rfl dX3_otherEnd_17 ?_
    obtain ⟨a18, h18, g_3⟩ := bnd g_2
    refine J_getR (pc := 18) (i := 3) clF3 (by decide) rfl fl_RX3_18 h18 dX3_otherEnd_18 ?_
    refine J_iload_n (pc := 21) (q := 1) rfl rfl dX3_otherEnd_21 ?_
    obtain ⟨a22, h22, g_4⟩ := bnd g_3
    refine J_ald0 (pc := 22) h22 dX3_otherEnd_22 ?_
    refine J_iload_n (pc := 23) (q := 2) rfl rfl dX3_otherEnd_23 ?_
    refine J_icne (pc := 24) (tgt := 46) (by decide) dX3_otherEnd_24 (fun hc24 => ?_) (fun hc24 => ?_)
    · rw [if_pos hc24] at g_4
      refine J_iconst (pc := 46) (v := (-1 : Int32)) (by decide) dX3_otherEnd_46 ?_
      exact J_iret (pc := 47) (qi_of g_4) dX3_otherEnd_47
    · rw [if_neg hc24] at g_4
      refine J_aload_n (pc := 27) (q := 0) rfl rfl dX3_otherEnd_27 ?_
      obtain ⟨a28, h28, g_5⟩ := bnd g_4
      refine J_getR (pc := 28) (i := 1) clF3 (by decide) rfl fl_RX3_9 h28 dX3_otherEnd_28 ?_
      refine J_iload_n (pc := 31) (q := 1) rfl rfl dX3_otherEnd_31 ?_
      obtain ⟨a32, h32, g_6⟩ := bnd g_5
      refine J_ald0 (pc := 32) h32 dX3_otherEnd_32 ?_
      refine J_iconst (pc := 33) (v := (5 : Int32)) (by decide) dX3_otherEnd_33 ?_
      refine J_iceq (pc := 34) (tgt := 46) (by decide) dX3_otherEnd_34 (fun hc34 => ?_) (fun hc34 => ?_)
      · rw [if_pos hc34] at g_6
        refine J_iconst (pc := 46) (v := (-1 : Int32)) (by decide) dX3_otherEnd_46 ?_
        exact J_iret (pc := 47) (qi_of g_6) dX3_otherEnd_47
      · rw [if_neg hc34] at g_6
        refine J_aload_n (pc := 37) (q := 0) rfl rfl dX3_otherEnd_37 ?_
        obtain ⟨a38, h38, g_7⟩ := bnd g_6
        refine J_getR (pc := 38) (i := 2) clF3 (by decide) rfl fl_RX3_15 h38 dX3_otherEnd_38 ?_
        refine J_iload_n (pc := 41) (q := 1) rfl rfl dX3_otherEnd_41 ?_
        obtain ⟨a42, h42, g_8⟩ := bnd g_7
        refine J_ald0 (pc := 42) h42 dX3_otherEnd_42 ?_
        refine J_goto (pc := 43) (tgt := 47) (by decide) dX3_otherEnd_43 ?_
        exact J_iret (pc := 47) (qi_of g_8) dX3_otherEnd_47
  · rw [if_neg hc7] at g_2
    refine J_aload_n (pc := 10) (q := 0) rfl rfl dX3_otherEnd_10 ?_
    obtain ⟨a11, h11, g_9⟩ := bnd g_2
    refine J_getR (pc := 11) (i := 3) clF3 (by decide) rfl fl_RX3_18 h11 dX3_otherEnd_11 ?_
    refine J_iload_n (pc := 14) (q := 1) rfl rfl dX3_otherEnd_14 ?_
    obtain ⟨a15, h15, g_10⟩ := bnd g_9
    refine J_ald0 (pc := 15) h15 dX3_otherEnd_15 ?_
    exact J_iret (pc := 16) (qi_of g_10) dX3_otherEnd_16
set_option maxHeartbeats 4000000 in
set_option maxRecDepth 100000 in
theorem jX3_runnerEnd_b39 {ad : Nat → Nat} {ca : Nat → ClassId} {D : va_G} {FU d : Nat} {r : Int32} {N : Mem}   {x0 : Nat} {x1 : Int32} {x2 : Int32} {s0 : Int32} {M : Mem}   (h : fX3_runnerEnd_b39 FU  x0 x1 x2 s0 M = some (r, N)) : J ad ca D cX3_runnerEnd RX3 5 (d + 1) (Gt ad ca D (some .int) (QI r N)) 39 [(0, vR (some x0)), (1, vI x1), (2, vI x2)] [vI s0] M := by
  unfold fX3_runnerEnd_b39 at h
  refine J_istore (pc := 39) (by decide) (lv' := [(0, vR (some x0)), (1, vI x1), (2, vI x2), (4, vI s0)]) rfl dX3_runnerEnd_39 ?_
  refine J_iload (pc := 41) (q := 3) rfl dX3_runnerEnd_41 ?_
  refine J_ifeq (pc := 43) (tgt := 50) (by decide) dX3_runnerEnd_43 (fun hc43 => ?_) (fun hc43 => ?_)
  · rw [if_pos hc43] at h
    refine J_aload_n (pc := 50) (q := 0) rfl rfl dX3_runnerEnd_50 ?_
    refine J_iload_n (pc := 51) (q := 1) rfl rfl dX3_runnerEnd_51 ?_
    refine J_iload_n (pc := 52) (q := 2) rfl rfl dX3_runnerEnd_52 ?_
    obtain ⟨b53, hb53, g_1⟩ := bnd h
    obtain ⟨r53, M53, h53, g_2⟩ := bnd2 g_1
    refine J_callVI (pc := 53) (as := [vI x1, vI x2]) (tX3_otherEnd (d := d)  h53) cf_X3_otherEnd cv_X3_otherEnd clF3 hb53 ml_RX3_78 (by omega) (Nat.le_of_ble_eq_true rfl) dX3_runnerEnd_53 ?_
    exact J_iret (pc := 56) (qi_of g_2) dX3_runnerEnd_56
  · rw [if_neg hc43] at h
    refine J_iconst (pc := 46) (v := (-1 : Int32)) (by decide) dX3_runnerEnd_46 ?_
    refine J_goto (pc := 47) (tgt := 56) (by decide) dX3_runnerEnd_47 ?_
    exact J_iret (pc := 56) (qi_of h) dX3_runnerEnd_56
set_option maxHeartbeats 4000000 in
set_option maxRecDepth 100000 in
theorem jX3_runnerEnd_b34 {ad : Nat → Nat} {ca : Nat → ClassId} {D : va_G} {FU d : Nat} {r : Int32} {N : Mem}   {x0 : Nat} {x1 : Int32} {x2 : Int32} {M : Mem}   (h : fX3_runnerEnd_b34 FU  x0 x1 x2 M = some (r, N)) : J ad ca D cX3_runnerEnd RX3 5 (d + 1) (Gt ad ca D (some .int) (QI r N)) 34 [(0, vR (some x0)), (1, vI x1), (2, vI x2)] [] M := by
  unfold fX3_runnerEnd_b34 at h
  refine J_iconst (pc := 34) (v := (1 : Int32)) (by decide) dX3_runnerEnd_34 ?_
  refine J_goto (pc := 35) (tgt := 39) (by decide) dX3_runnerEnd_35 ?_
  exact jX3_runnerEnd_b39  h
set_option maxHeartbeats 4000000 in
set_option maxRecDepth 100000 in
theorem jX3_runnerEnd_b38 {ad : Nat → Nat} {ca : Nat → ClassId} {D : va_G} {FU d : Nat} {r : Int32} {N : Mem}   {x0 : Nat} {x1 : Int32} {x2 : Int32} {M : Mem}   (h : fX3_runnerEnd_b38 FU  x0 x1 x2 M = some (r, N)) : J ad ca D cX3_runnerEnd RX3 5 (d + 1) (Gt ad ca D (some .int) (QI r N)) 38 [(0, vR (some x0)), (1, vI x1), (2, vI x2)] [] M := by
  unfold fX3_runnerEnd_b38 at h
  refine J_iconst (pc := 38) (v := (0 : Int32)) (by decide) dX3_runnerEnd_38 ?_
  exact jX3_runnerEnd_b39  h
set_option maxHeartbeats 4000000 in
set_option maxRecDepth 100000 in
theorem tX3_runnerEnd {ad : Nat → Nat} {ca : Nat → ClassId} {D : va_G} {FU d : Nat} {r : Int32} {N : Mem}  {x0 : Nat} {x1 : Int32} {x2 : Int32} {x3 : Int32} {M : Mem}  (h : fX3_runnerEnd FU  x0 x1 x2 x3 M = some (r, N)) : Ct ad ca D yX3_runnerEnd cX3_runnerEnd 5 (some .int) (d + 1) [vR (some x0), vI x1, vI x2, vI x3] M (QI r N) := by
  refine Ct_of (by decide) (Nat.le_of_ble_eq_true rfl) ?_
  show J ad ca D cX3_runnerEnd RX3 5 (d + 1) (Gt ad ca D (some .int) (QI r N)) 0 [(0, vR (some x0)), (1, vI x1), (2, vI x2), (3, vI x3)] [] M
  unfold fX3_runnerEnd at h
  refine J_aload_n (pc := 0) (q := 0) rfl rfl dX3_runnerEnd_0 ?_
  obtain ⟨a1, h1, g_3⟩ := bnd h
  refine J_getR (pc := 1) (i := 1) clF3 (by decide) rfl fl_RX3_9 h1 dX3_runnerEnd_1 ?_
  refine J_iload_n (pc := 4) (q := 1) rfl rfl dX3_runnerEnd_4 ?_
  obtain ⟨a5, h5, g_4⟩ := bnd g_3
  refine J_ald0 (pc := 5) h5 dX3_runnerEnd_5 ?_
  refine J_iconst (pc := 6) (v := (3 : Int32)) (by decide) dX3_runnerEnd_6 ?_
  refine J_iceq (pc := 7) (tgt := 34) (by decide) dX3_runnerEnd_7 (fun hc7 => ?_) (fun hc7 => ?_)
  · rw [if_pos hc7] at g_4
    refine J_sub [0, 1, 2] (lv' := [(0, vR (some x0)), (1, vI x1), (2, vI x2)]) rfl ?_
    exact jX3_runnerEnd_b34  g_4
  · rw [if_neg hc7] at g_4
    refine J_aload_n (pc := 10) (q := 0) rfl rfl dX3_runnerEnd_10 ?_
    obtain ⟨a11, h11, g_5⟩ := bnd g_4
    refine J_getR (pc := 11) (i := 1) clF3 (by decide) rfl fl_RX3_9 h11 dX3_runnerEnd_11 ?_
    refine J_iload_n (pc := 14) (q := 1) rfl rfl dX3_runnerEnd_14 ?_
    obtain ⟨a15, h15, g_6⟩ := bnd g_5
    refine J_ald0 (pc := 15) h15 dX3_runnerEnd_15 ?_
    refine J_iconst (pc := 16) (v := (4 : Int32)) (by decide) dX3_runnerEnd_16 ?_
    refine J_icne (pc := 17) (tgt := 38) (by decide) dX3_runnerEnd_17 (fun hc17 => ?_) (fun hc17 => ?_)
    · rw [if_pos hc17] at g_6
      refine J_sub [0, 1, 2] (lv' := [(0, vR (some x0)), (1, vI x1), (2, vI x2)]) rfl ?_
      exact jX3_runnerEnd_b38  g_6
    · rw [if_neg hc17] at g_6
      refine J_aload_n (pc := 20) (q := 0) rfl rfl dX3_runnerEnd_20 ?_
      obtain ⟨a21, h21, g_7⟩ := bnd g_6
      refine J_getR (pc := 21) (i := 7) clF3 (by decide) rfl fl_RX3_30 h21 dX3_runnerEnd_21 ?_
      refine J_iload_n (pc := 24) (q := 2) rfl rfl dX3_runnerEnd_24 ?_
      obtain ⟨a25, h25, g_8⟩ := bnd g_7
      refine J_ald0 (pc := 25) h25 dX3_runnerEnd_25 ?_
      refine J_iload_n (pc := 26) (q := 3) rfl rfl dX3_runnerEnd_26 ?_
      obtain ⟨r27, M27, h27, g_9⟩ := bnd2 g_8
      refine J_callSI (pc := 27) (as := [vI x3]) (tX3_placesOf (d := d)  h27) cf_X3_placesOf cv_X3_placesOf ml_RX3_81 (by omega) (Nat.le_of_ble_eq_true rfl) dX3_runnerEnd_27 ?_
      refine J_iand (pc := 30) dX3_runnerEnd_30 ?_
      refine J_ifeq (pc := 31) (tgt := 38) (by decide) dX3_runnerEnd_31 (fun hc31 => ?_) (fun hc31 => ?_)
      · rw [if_pos hc31] at g_9
        refine J_sub [0, 1, 2] (lv' := [(0, vR (some x0)), (1, vI x1), (2, vI x2)]) rfl ?_
        exact jX3_runnerEnd_b38  g_9
      · rw [if_neg hc31] at g_9
        refine J_sub [0, 1, 2] (lv' := [(0, vR (some x0)), (1, vI x1), (2, vI x2)]) rfl ?_
        exact jX3_runnerEnd_b34  g_9
set_option maxHeartbeats 4000000 in
set_option maxRecDepth 100000 in
theorem tX3_runnerAfter {ad : Nat → Nat} {ca : Nat → ClassId} {D : va_G} {FU d : Nat} {r : Int32} {N : Mem}  {x0 : Nat} {x1 : Int32} {x2 : Int32} {x3 : Int32} {M : Mem}  (h : fX3_runnerAfter FU  x0 x1 x2 x3 M = some (r, N)) : Ct ad ca D yX3_runnerAfter cX3_runnerAfter 4 (some .int) (d + 2) [vR (some x0), vI x1, vI x2, vI x3] M (QI r N) := by
  refine Ct_of (by decide) (Nat.le_of_ble_eq_true rfl) ?_
  show J ad ca D cX3_runnerAfter RX3 4 (d + 2) (Gt ad ca D (some .int) (QI r N)) 0 [(0, vR (some x0)), (1, vI x1), (2, vI x2), (3, vI x3)] [] M
  unfold fX3_runnerAfter at h
  refine J_iload_n (pc := 0) (q := 3) rfl rfl dX3_runnerAfter_0 ?_
  refine J_ifne (pc := 1) (tgt := 18) (by decide) dX3_runnerAfter_1 (fun hc1 => ?_) (fun hc1 => ?_)
  · rw [if_pos hc1] at h
    refine J_iload_n (pc := 18) (q := 3) rfl rfl dX3_runnerAfter_18 ?_
    refine J_aload_n (pc := 19) (q := 0) rfl rfl dX3_runnerAfter_19 ?_
    obtain ⟨a20, h20, g_1⟩ := bnd h
    refine J_getI (pc := 20) (i := 8) clF3 (by decide) rfl fl_RX3_53 h20 dX3_runnerAfter_20 ?_
    refine J_icle (pc := 23) (tgt := 30) (by decide) dX3_runnerAfter_23 (fun hc23 => ?_) (fun hc23 => ?_)
    · rw [if_pos hc23] at g_1
      refine J_aload_n (pc := 30) (q := 0) rfl rfl dX3_runnerAfter_30 ?_
      refine J_iload_n (pc := 31) (q := 3) rfl rfl dX3_runnerAfter_31 ?_
      refine J_iconst (pc := 32) (v := (1 : Int32)) (by decide) dX3_runnerAfter_32 ?_
      refine J_isub (pc := 33) dX3_runnerAfter_33 ?_
      refine J_iload_n (pc := 34) (q := 2) rfl rfl dX3_runnerAfter_34 ?_
      refine J_iload_n (pc := 35) (q := 1) rfl rfl dX3_runnerAfter_35 ?_
      obtain ⟨b36, hb36, g_2⟩ := bnd g_1
      obtain ⟨r36, M36, h36, g_3⟩ := bnd2 g_2
      refine J_callVI (pc := 36) (as := [vI (x3 - (1 : Int32)), vI x2, vI x1]) (tX3_runnerEnd (d := d)  h36) cf_X3_runnerEnd cv_X3_runnerEnd clF3 hb36 ml_RX3_91 (by omega) (Nat.le_of_ble_eq_true rfl) dX3_runnerAfter_36 ?_
      exact J_iret (pc := 39) (qi_of g_3) dX3_runnerAfter_39
    · rw [if_neg hc23] at g_1
      refine J_iconst (pc := 26) (v := (-1 : Int32)) (by decide) dX3_runnerAfter_26 ?_
      refine J_goto (pc := 27) (tgt := 39) (by decide) dX3_runnerAfter_27 ?_
      exact J_iret (pc := 39) (qi_of g_1) dX3_runnerAfter_39
  · rw [if_neg hc1] at h
    refine J_aload_n (pc := 4) (q := 0) rfl rfl dX3_runnerAfter_4 ?_
    refine J_iload_n (pc := 5) (q := 2) rfl rfl dX3_runnerAfter_5 ?_
    obtain ⟨b6, hb6, g_4⟩ := bnd h
    obtain ⟨r6, M6, h6, g_5⟩ := bnd2 g_4
    refine J_callVI (pc := 6) (as := [vI x2]) (tX3_isWell (d := d)  h6) cf_X3_isWell cv_X3_isWell clF3 hb6 ml_RX3_88 (by omega) (Nat.le_of_ble_eq_true rfl) dX3_runnerAfter_6 ?_
    refine J_ifeq (pc := 9) (tgt := 16) (by decide) dX3_runnerAfter_9 (fun hc9 => ?_) (fun hc9 => ?_)
    · rw [if_pos hc9] at g_5
      refine J_iconst (pc := 16) (v := (-1 : Int32)) (by decide) dX3_runnerAfter_16 ?_
      exact J_iret (pc := 17) (qi_of g_5) dX3_runnerAfter_17
    · rw [if_neg hc9] at g_5
      refine J_iload_n (pc := 12) (q := 2) rfl rfl dX3_runnerAfter_12 ?_
      refine J_goto (pc := 13) (tgt := 17) (by decide) dX3_runnerAfter_13 ?_
      exact J_iret (pc := 17) (qi_of g_5) dX3_runnerAfter_17
set_option maxHeartbeats 4000000 in
set_option maxRecDepth 100000 in
theorem jX3_hunterEnd_b25 {ad : Nat → Nat} {ca : Nat → ClassId} {D : va_G} {FU d : Nat} {r : Int32} {N : Mem}   {x0 : Nat} {x1 : Int32} {x2 : Int32} {s0 : Int32} {M : Mem}   (h : fX3_hunterEnd_b25 FU  x0 x1 x2 s0 M = some (r, N)) : J ad ca D cX3_hunterEnd RX3 4 (d + 1) (Gt ad ca D (some .int) (QI r N)) 25 [(0, vR (some x0)), (1, vI x1), (2, vI x2)] [vI s0] M := by
  unfold fX3_hunterEnd_b25 at h
  refine J_istore_n (pc := 25) rfl (by decide) (lv' := [(0, vR (some x0)), (1, vI x1), (2, vI x2), (3, vI s0)]) rfl dX3_hunterEnd_25 ?_
  refine J_iload_n (pc := 26) (q := 3) rfl rfl dX3_hunterEnd_26 ?_
  refine J_ifeq (pc := 27) (tgt := 34) (by decide) dX3_hunterEnd_27 (fun hc27 => ?_) (fun hc27 => ?_)
  · rw [if_pos hc27] at h
    refine J_aload_n (pc := 34) (q := 0) rfl rfl dX3_hunterEnd_34 ?_
    refine J_iload_n (pc := 35) (q := 1) rfl rfl dX3_hunterEnd_35 ?_
    refine J_iload_n (pc := 36) (q := 2) rfl rfl dX3_hunterEnd_36 ?_
    obtain ⟨b37, hb37, g_1⟩ := bnd h
    obtain ⟨r37, M37, h37, g_2⟩ := bnd2 g_1
    refine J_callVI (pc := 37) (as := [vI x1, vI x2]) (tX3_otherEnd (d := d)  h37) cf_X3_otherEnd cv_X3_otherEnd clF3 hb37 ml_RX3_78 (by omega) (Nat.le_of_ble_eq_true rfl) dX3_hunterEnd_37 ?_
    exact J_iret (pc := 40) (qi_of g_2) dX3_hunterEnd_40
  · rw [if_neg hc27] at h
    refine J_iconst (pc := 30) (v := (-1 : Int32)) (by decide) dX3_hunterEnd_30 ?_
    refine J_goto (pc := 31) (tgt := 40) (by decide) dX3_hunterEnd_31 ?_
    exact J_iret (pc := 40) (qi_of h) dX3_hunterEnd_40
set_option maxHeartbeats 4000000 in
set_option maxRecDepth 100000 in
theorem jX3_hunterEnd_b20 {ad : Nat → Nat} {ca : Nat → ClassId} {D : va_G} {FU d : Nat} {r : Int32} {N : Mem}   {x0 : Nat} {x1 : Int32} {x2 : Int32} {M : Mem}   (h : fX3_hunterEnd_b20 FU  x0 x1 x2 M = some (r, N)) : J ad ca D cX3_hunterEnd RX3 4 (d + 1) (Gt ad ca D (some .int) (QI r N)) 20 [(0, vR (some x0)), (1, vI x1), (2, vI x2)] [] M := by
  unfold fX3_hunterEnd_b20 at h
  refine J_iconst (pc := 20) (v := (1 : Int32)) (by decide) dX3_hunterEnd_20 ?_
  refine J_goto (pc := 21) (tgt := 25) (by decide) dX3_hunterEnd_21 ?_
  exact jX3_hunterEnd_b25  h
set_option maxHeartbeats 4000000 in
set_option maxRecDepth 100000 in
theorem tX3_hunterEnd {ad : Nat → Nat} {ca : Nat → ClassId} {D : va_G} {FU d : Nat} {r : Int32} {N : Mem}  {x0 : Nat} {x1 : Int32} {x2 : Int32} {M : Mem}  (h : fX3_hunterEnd FU  x0 x1 x2 M = some (r, N)) : Ct ad ca D yX3_hunterEnd cX3_hunterEnd 4 (some .int) (d + 1) [vR (some x0), vI x1, vI x2] M (QI r N) := by
  refine Ct_of (by decide) (Nat.le_of_ble_eq_true rfl) ?_
  show J ad ca D cX3_hunterEnd RX3 4 (d + 1) (Gt ad ca D (some .int) (QI r N)) 0 [(0, vR (some x0)), (1, vI x1), (2, vI x2)] [] M
  unfold fX3_hunterEnd at h
  refine J_aload_n (pc := 0) (q := 0) rfl rfl dX3_hunterEnd_0 ?_
  obtain ⟨a1, h1, g_3⟩ := bnd h
  refine J_getR (pc := 1) (i := 1) clF3 (by decide) rfl fl_RX3_9 h1 dX3_hunterEnd_1 ?_
  refine J_iload_n (pc := 4) (q := 1) rfl rfl dX3_hunterEnd_4 ?_
  obtain ⟨a5, h5, g_4⟩ := bnd g_3
  refine J_ald0 (pc := 5) h5 dX3_hunterEnd_5 ?_
  refine J_iconst (pc := 6) (v := (1 : Int32)) (by decide) dX3_hunterEnd_6 ?_
  refine J_iceq (pc := 7) (tgt := 20) (by decide) dX3_hunterEnd_7 (fun hc7 => ?_) (fun hc7 => ?_)
  · rw [if_pos hc7] at g_4
    exact jX3_hunterEnd_b20  g_4
  · rw [if_neg hc7] at g_4
    refine J_aload_n (pc := 10) (q := 0) rfl rfl dX3_hunterEnd_10 ?_
    obtain ⟨a11, h11, g_5⟩ := bnd g_4
    refine J_getR (pc := 11) (i := 1) clF3 (by decide) rfl fl_RX3_9 h11 dX3_hunterEnd_11 ?_
    refine J_iload_n (pc := 14) (q := 1) rfl rfl dX3_hunterEnd_14 ?_
    obtain ⟨a15, h15, g_6⟩ := bnd g_5
    refine J_ald0 (pc := 15) h15 dX3_hunterEnd_15 ?_
    refine J_iconst (pc := 16) (v := (4 : Int32)) (by decide) dX3_hunterEnd_16 ?_
    refine J_icne (pc := 17) (tgt := 24) (by decide) dX3_hunterEnd_17 (fun hc17 => ?_) (fun hc17 => ?_)
    · rw [if_pos hc17] at g_6
      refine J_iconst (pc := 24) (v := (0 : Int32)) (by decide) dX3_hunterEnd_24 ?_
      exact jX3_hunterEnd_b25  g_6
    · rw [if_neg hc17] at g_6
      exact jX3_hunterEnd_b20  g_6
set_option maxHeartbeats 4000000 in
set_option maxRecDepth 100000 in
theorem tX3_sortedPair {ad : Nat → Nat} {ca : Nat → ClassId} {D : va_G} {FU d : Nat} {r : Int32} {N : Mem}  {x0 : Int32} {x1 : Int32} {M : Mem}  (h : fX3_sortedPair FU  x0 x1 M = some (r, N)) : Ct ad ca D yX3_sortedPair cX3_sortedPair 2 (some .int) (d + 1) [vI x0, vI x1] M (QI r N) := by
  refine Ct_of (by decide) (Nat.le_of_ble_eq_true rfl) ?_
  show J ad ca D cX3_sortedPair RX3 2 (d + 1) (Gt ad ca D (some .int) (QI r N)) 0 [(0, vI x0), (1, vI x1)] [] M
  unfold fX3_sortedPair at h
  refine J_iload_n (pc := 0) (q := 0) rfl rfl dX3_sortedPair_0 ?_
  refine J_iload_n (pc := 1) (q := 1) rfl rfl dX3_sortedPair_1 ?_
  refine J_mmin (pc := 2) ml_RX3_66 (by omega) (Nat.le_of_ble_eq_true rfl) dX3_sortedPair_2 ?_
  refine J_bipush (pc := 5) (v := (8 : Int32)) (by decide) dX3_sortedPair_5 ?_
  refine J_imul (pc := 7) dX3_sortedPair_7 ?_
  refine J_iload_n (pc := 8) (q := 0) rfl rfl dX3_sortedPair_8 ?_
  refine J_iload_n (pc := 9) (q := 1) rfl rfl dX3_sortedPair_9 ?_
  refine J_mmax (pc := 10) ml_RX3_72 (by omega) (Nat.le_of_ble_eq_true rfl) dX3_sortedPair_10 ?_
  refine J_iadd (pc := 13) dX3_sortedPair_13 ?_
  exact J_iret (pc := 14) (qi_of h) dX3_sortedPair_14
set_option maxHeartbeats 4000000 in
set_option maxRecDepth 100000 in
theorem jX3_pairAfter_b117 {ad : Nat → Nat} {ca : Nat → ClassId} {D : va_G} {FU d : Nat} {r : Int32} {N : Mem}   {s0 : Int32} {s1 : Int32} {M : Mem}   (h : fX3_pairAfter_b117 FU  s0 s1 M = some (r, N)) : J ad ca D cX3_pairAfter RX3 8 (d + 2) (Gt ad ca D (some .int) (QI r N)) 117 [] [vI s1, vI s0] M := by
  unfold fX3_pairAfter_b117 at h
  obtain ⟨r117, M117, h117, g_1⟩ := bnd2 h
  refine J_callSI (pc := 117) (as := [vI s0, vI s1]) (tX3_sortedPair (d := d)  h117) cf_X3_sortedPair cv_X3_sortedPair ml_RX3_75 (by omega) (Nat.le_of_ble_eq_true rfl) dX3_pairAfter_117 ?_
  exact J_iret (pc := 120) (qi_of g_1) dX3_pairAfter_120
set_option maxHeartbeats 4000000 in
set_option maxRecDepth 100000 in
theorem jX3_pairAfter_b73 {ad : Nat → Nat} {ca : Nat → ClassId} {D : va_G} {FU d : Nat} {r : Int32} {N : Mem}   {x0 : Nat} {x4 : Int32} {x5 : Int32} {x6 : Int32} {s0 : Option Nat} {s1 : Int32} {s2 : Int32} {M : Mem}   (h : fX3_pairAfter_b73 FU  x0 x4 x5 x6 s0 s1 s2 M = some (r, N)) : J ad ca D cX3_pairAfter RX3 8 (d + 2) (Gt ad ca D (some .int) (QI r N)) 73 [(0, vR (some x0)), (4, vI x4), (5, vI x5), (6, vI x6)] [vI s2, vI s1, vR s0] M := by
  unfold fX3_pairAfter_b73 at h
  obtain ⟨b73, hb73, g_2⟩ := bnd h
  obtain ⟨r73, M73, h73, g_3⟩ := bnd2 g_2
  refine J_callVI (pc := 73) (as := [vI s1, vI s2]) (tX3_hunterEnd (d := d)  h73) cf_X3_hunterEnd cv_X3_hunterEnd clF3 hb73 ml_RX3_85 (by omega) (Nat.le_of_ble_eq_true rfl) dX3_pairAfter_73 ?_
  refine J_istore (pc := 76) (by decide) (lv' := [(0, vR (some x0)), (4, vI x4), (5, vI x5), (6, vI x6), (7, vI r73)]) rfl dX3_pairAfter_76 ?_
  refine J_iload (pc := 78) (q := 4) rfl dX3_pairAfter_78 ?_
  refine J_ifge (pc := 80) (tgt := 85) (by decide) dX3_pairAfter_80 (fun hc80 => ?_) (fun hc80 => ?_)
  · rw [if_pos hc80] at g_3
    refine J_aload_n (pc := 85) (q := 0) rfl rfl dX3_pairAfter_85 ?_
    obtain ⟨a86, h86, g_4⟩ := bnd g_3
    refine J_getI (pc := 86) (i := 10) clF3 (by decide) rfl fl_RX3_33 h86 dX3_pairAfter_86 ?_
    refine J_iconst (pc := 89) (v := (1 : Int32)) (by decide) dX3_pairAfter_89 ?_
    refine J_icne (pc := 90) (tgt := 103) (by decide) dX3_pairAfter_90 (fun hc90 => ?_) (fun hc90 => ?_)
    · rw [if_pos hc90] at g_4
      refine J_iload (pc := 103) (q := 4) rfl dX3_pairAfter_103 ?_
      refine J_iload (pc := 105) (q := 1) rfl dX3_pairAfter_105 ?_
      refine J_ifeq (pc := 107) (tgt := 115) (by decide) dX3_pairAfter_107 (fun hc107 => ?_) (fun hc107 => ?_)
      · rw [if_pos hc107] at g_4
        refine J_iload (pc := 115) (q := 3) rfl dX3_pairAfter_115 ?_
        refine J_sub [] (lv' := []) rfl ?_
        exact jX3_pairAfter_b117  g_4
      · rw [if_neg hc107] at g_4
        refine J_iload (pc := 110) (q := 2) rfl dX3_pairAfter_110 ?_
        refine J_goto (pc := 112) (tgt := 117) (by decide) dX3_pairAfter_112 ?_
        refine J_sub [] (lv' := []) rfl ?_
        exact jX3_pairAfter_b117  g_4
    · rw [if_neg hc90] at g_4
      refine J_iload (pc := 93) (q := 4) rfl dX3_pairAfter_93 ?_
      refine J_iload (pc := 95) (q := 4) rfl dX3_pairAfter_95 ?_
      obtain ⟨r97, M97, h97, g_5⟩ := bnd2 g_4
      refine J_callSI (pc := 97) (as := [vI r73, vI r73]) (tX3_sortedPair (d := d)  h97) cf_X3_sortedPair cv_X3_sortedPair ml_RX3_75 (by omega) (Nat.le_of_ble_eq_true rfl) dX3_pairAfter_97 ?_
      refine J_goto (pc := 100) (tgt := 120) (by decide) dX3_pairAfter_100 ?_
      exact J_iret (pc := 120) (qi_of g_5) dX3_pairAfter_120
  · rw [if_neg hc80] at g_3
    refine J_iconst (pc := 83) (v := (-1 : Int32)) (by decide) dX3_pairAfter_83 ?_
    exact J_iret (pc := 84) (qi_of g_3) dX3_pairAfter_84
set_option maxHeartbeats 4000000 in
set_option maxRecDepth 100000 in
theorem jX3_pairAfter_b59 {ad : Nat → Nat} {ca : Nat → ClassId} {D : va_G} {FU d : Nat} {r : Int32} {N : Mem}   {x0 : Nat} {x3 : Int32} {x4 : Int32} {x5 : Int32} {x6 : Int32} {M : Mem}   (h : fX3_pairAfter_b59 FU  x0 x3 x4 x5 x6 M = some (r, N)) : J ad ca D cX3_pairAfter RX3 8 (d + 2) (Gt ad ca D (some .int) (QI r N)) 59 [(0, vR (some x0)), (3, vI x3), (4, vI x4), (5, vI x5), (6, vI x6)] [] M := by
  unfold fX3_pairAfter_b59 at h
  refine J_aload_n (pc := 59) (q := 0) rfl rfl dX3_pairAfter_59 ?_
  refine J_iload_n (pc := 60) (q := 1) rfl rfl dX3_pairAfter_60 ?_
  refine J_iload (pc := 61) (q := 2) rfl dX3_pairAfter_61 ?_
  refine J_ifeq (pc := 63) (tgt := 71) (by decide) dX3_pairAfter_63 (fun hc63 => ?_) (fun hc63 => ?_)
  · rw [if_pos hc63] at h
    refine J_iload (pc := 71) (q := 3) rfl dX3_pairAfter_71 ?_
    refine J_sub [0, 2, 3, 4] (lv' := [(0, vR (some x0)), (4, vI x4), (5, vI x5), (6, vI x6)]) rfl ?_
    exact jX3_pairAfter_b73  h
  · rw [if_neg hc63] at h
    refine J_iload (pc := 66) (q := 4) rfl dX3_pairAfter_66 ?_
    refine J_goto (pc := 68) (tgt := 73) (by decide) dX3_pairAfter_68 ?_
    refine J_sub [0, 2, 3, 4] (lv' := [(0, vR (some x0)), (4, vI x4), (5, vI x5), (6, vI x6)]) rfl ?_
    exact jX3_pairAfter_b73  h
set_option maxHeartbeats 4000000 in
set_option maxRecDepth 100000 in
theorem jX3_pairAfter_b24 {ad : Nat → Nat} {ca : Nat → ClassId} {D : va_G} {FU d : Nat} {r : Int32} {N : Mem}   {x0 : Nat} {x1 : Int32} {x3 : Int32} {s0 : Int32} {M : Mem}   (h : fX3_pairAfter_b24 FU  x0 x1 x3 s0 M = some (r, N)) : J ad ca D cX3_pairAfter RX3 8 (d + 2) (Gt ad ca D (some .int) (QI r N)) 24 [(0, vR (some x0)), (1, vI x1), (3, vI x3)] [vI s0] M := by
  unfold fX3_pairAfter_b24 at h
  refine J_istore (pc := 24) (by decide) (lv' := [(0, vR (some x0)), (1, vI x1), (3, vI x3), (4, vI s0)]) rfl dX3_pairAfter_24 ?_
  refine J_iload_n (pc := 26) (q := 1) rfl rfl dX3_pairAfter_26 ?_
  refine J_iconst (pc := 27) (v := (3 : Int32)) (by decide) dX3_pairAfter_27 ?_
  refine J_ishr (pc := 28) dX3_pairAfter_28 ?_
  refine J_istore (pc := 29) (by decide) (lv' := [(0, vR (some x0)), (1, vI x1), (3, vI x3), (4, vI s0), (5, vI (x1 >>> ((3 : Int32) &&& 31)))]) rfl dX3_pairAfter_29 ?_
  refine J_iload_n (pc := 31) (q := 1) rfl rfl dX3_pairAfter_31 ?_
  refine J_bipush (pc := 32) (v := (7 : Int32)) (by decide) dX3_pairAfter_32 ?_
  refine J_iand (pc := 34) dX3_pairAfter_34 ?_
  refine J_istore (pc := 35) (by decide) (lv' := [(0, vR (some x0)), (1, vI x1), (3, vI x3), (4, vI s0), (5, vI (x1 >>> ((3 : Int32) &&& 31))), (6, vI (x1 &&& (7 : Int32)))]) rfl dX3_pairAfter_35 ?_
  refine J_iload_n (pc := 37) (q := 2) rfl rfl dX3_pairAfter_37 ?_
  refine J_aload_n (pc := 38) (q := 0) rfl rfl dX3_pairAfter_38 ?_
  obtain ⟨a39, h39, g_6⟩ := bnd h
  refine J_getI (pc := 39) (i := 8) clF3 (by decide) rfl fl_RX3_53 h39 dX3_pairAfter_39 ?_
  refine J_icge (pc := 42) (tgt := 57) (by decide) dX3_pairAfter_42 (fun hc42 => ?_) (fun hc42 => ?_)
  · rw [if_pos hc42] at g_6
    refine J_iconst (pc := 57) (v := (-1 : Int32)) (by decide) dX3_pairAfter_57 ?_
    exact J_iret (pc := 58) (qi_of g_6) dX3_pairAfter_58
  · rw [if_neg hc42] at g_6
    refine J_iload (pc := 45) (q := 3) rfl dX3_pairAfter_45 ?_
    refine J_ifeq (pc := 47) (tgt := 59) (by decide) dX3_pairAfter_47 (fun hc47 => ?_) (fun hc47 => ?_)
    · rw [if_pos hc47] at g_6
      refine J_sub [0, 2, 3, 4, 5] (lv' := [(0, vR (some x0)), (3, vI x3), (4, vI s0), (5, vI (x1 >>> ((3 : Int32) &&& 31))), (6, vI (x1 &&& (7 : Int32)))]) rfl ?_
      exact jX3_pairAfter_b59  g_6
    · rw [if_neg hc47] at g_6
      refine J_iload (pc := 50) (q := 4) rfl dX3_pairAfter_50 ?_
      refine J_iload (pc := 52) (q := 5) rfl dX3_pairAfter_52 ?_
      refine J_icne (pc := 54) (tgt := 59) (by decide) dX3_pairAfter_54 (fun hc54 => ?_) (fun hc54 => ?_)
      · rw [if_pos hc54] at g_6
        refine J_sub [0, 2, 3, 4, 5] (lv' := [(0, vR (some x0)), (3, vI x3), (4, vI s0), (5, vI (x1 >>> ((3 : Int32) &&& 31))), (6, vI (x1 &&& (7 : Int32)))]) rfl ?_
        exact jX3_pairAfter_b59  g_6
      · rw [if_neg hc54] at g_6
        refine J_iconst (pc := 57) (v := (-1 : Int32)) (by decide) dX3_pairAfter_57 ?_
        exact J_iret (pc := 58) (qi_of g_6) dX3_pairAfter_58
set_option maxHeartbeats 4000000 in
set_option maxRecDepth 100000 in
theorem tX3_pairAfter {ad : Nat → Nat} {ca : Nat → ClassId} {D : va_G} {FU d : Nat} {r : Int32} {N : Mem}  {x0 : Nat} {x1 : Int32} {x2 : Int32} {M : Mem}  (h : fX3_pairAfter FU  x0 x1 x2 M = some (r, N)) : Ct ad ca D yX3_pairAfter cX3_pairAfter 8 (some .int) (d + 2) [vR (some x0), vI x1, vI x2] M (QI r N) := by
  refine Ct_of (by decide) (Nat.le_of_ble_eq_true rfl) ?_
  show J ad ca D cX3_pairAfter RX3 8 (d + 2) (Gt ad ca D (some .int) (QI r N)) 0 [(0, vR (some x0)), (1, vI x1), (2, vI x2)] [] M
  unfold fX3_pairAfter at h
  refine J_iload_n (pc := 0) (q := 2) rfl rfl dX3_pairAfter_0 ?_
  refine J_ifne (pc := 1) (tgt := 6) (by decide) dX3_pairAfter_1 (fun hc1 => ?_) (fun hc1 => ?_)
  · rw [if_pos hc1] at h
    refine J_iload_n (pc := 6) (q := 2) rfl rfl dX3_pairAfter_6 ?_
    refine J_iconst (pc := 7) (v := (1 : Int32)) (by decide) dX3_pairAfter_7 ?_
    refine J_isub (pc := 8) dX3_pairAfter_8 ?_
    refine J_bipush (pc := 9) (v := (15 : Int32)) (by decide) dX3_pairAfter_9 ?_
    refine J_iand (pc := 11) dX3_pairAfter_11 ?_
    refine J_istore_n (pc := 12) rfl (by decide) (lv' := [(0, vR (some x0)), (1, vI x1), (2, vI x2), (3, vI ((x2 - (1 : Int32)) &&& (15 : Int32)))]) rfl dX3_pairAfter_12 ?_
    refine J_iload_n (pc := 13) (q := 2) rfl rfl dX3_pairAfter_13 ?_
    refine J_bipush (pc := 14) (v := (16 : Int32)) (by decide) dX3_pairAfter_14 ?_
    refine J_icle (pc := 16) (tgt := 23) (by decide) dX3_pairAfter_16 (fun hc16 => ?_) (fun hc16 => ?_)
    · rw [if_pos hc16] at h
      refine J_iconst (pc := 23) (v := (0 : Int32)) (by decide) dX3_pairAfter_23 ?_
      refine J_sub [0, 1, 3] (lv' := [(0, vR (some x0)), (1, vI x1), (3, vI ((x2 - (1 : Int32)) &&& (15 : Int32)))]) rfl ?_
      exact jX3_pairAfter_b24  h
    · rw [if_neg hc16] at h
      refine J_iconst (pc := 19) (v := (1 : Int32)) (by decide) dX3_pairAfter_19 ?_
      refine J_goto (pc := 20) (tgt := 24) (by decide) dX3_pairAfter_20 ?_
      refine J_sub [0, 1, 3] (lv' := [(0, vR (some x0)), (1, vI x1), (3, vI ((x2 - (1 : Int32)) &&& (15 : Int32)))]) rfl ?_
      exact jX3_pairAfter_b24  h
  · rw [if_neg hc1] at h
    refine J_iload_n (pc := 4) (q := 1) rfl rfl dX3_pairAfter_4 ?_
    exact J_iret (pc := 5) (qi_of h) dX3_pairAfter_5
set_option maxHeartbeats 4000000 in
set_option maxRecDepth 100000 in
theorem tX3_shutterPassed {ad : Nat → Nat} {ca : Nat → ClassId} {D : va_G} {FU d : Nat} {r : Int32} {N : Mem}  {x0 : Nat} {x1 : Int32} {M : Mem}  (h : fX3_shutterPassed FU  x0 x1 M = some (r, N)) : Ct ad ca D yX3_shutterPassed cX3_shutterPassed 2 (some .int) (d + 0) [vR (some x0), vI x1] M (QI r N) := by
  refine Ct_of (by decide) (Nat.le_of_ble_eq_true rfl) ?_
  show J ad ca D cX3_shutterPassed RX3 2 (d + 0) (Gt ad ca D (some .int) (QI r N)) 0 [(0, vR (some x0)), (1, vI x1)] [] M
  unfold fX3_shutterPassed at h
  refine J_iload_n (pc := 0) (q := 1) rfl rfl dX3_shutterPassed_0 ?_
  refine J_ifne (pc := 1) (tgt := 8) (by decide) dX3_shutterPassed_1 (fun hc1 => ?_) (fun hc1 => ?_)
  · rw [if_pos hc1] at h
    refine J_aload_n (pc := 8) (q := 0) rfl rfl dX3_shutterPassed_8 ?_
    obtain ⟨a9, h9, g_1⟩ := bnd h
    refine J_getR (pc := 9) (i := 4) clF3 (by decide) rfl fl_RX3_21 h9 dX3_shutterPassed_9 ?_
    refine J_iload_n (pc := 12) (q := 1) rfl rfl dX3_shutterPassed_12 ?_
    refine J_iconst (pc := 13) (v := (1 : Int32)) (by decide) dX3_shutterPassed_13 ?_
    refine J_isub (pc := 14) dX3_shutterPassed_14 ?_
    refine J_bipush (pc := 15) (v := (15 : Int32)) (by decide) dX3_shutterPassed_15 ?_
    refine J_iand (pc := 17) dX3_shutterPassed_17 ?_
    obtain ⟨a18, h18, g_2⟩ := bnd g_1
    refine J_ald0 (pc := 18) h18 dX3_shutterPassed_18 ?_
    exact J_iret (pc := 19) (qi_of g_2) dX3_shutterPassed_19
  · rw [if_neg hc1] at h
    refine J_iconst (pc := 4) (v := (-1 : Int32)) (by decide) dX3_shutterPassed_4 ?_
    refine J_goto (pc := 5) (tgt := 19) (by decide) dX3_shutterPassed_5 ?_
    exact J_iret (pc := 19) (qi_of h) dX3_shutterPassed_19
set_option maxHeartbeats 4000000 in
set_option maxRecDepth 100000 in
theorem jX6_after_b56 {ad : Nat → Nat} {ca : Nat → ClassId} {D : va_G} {FU d : Nat} {r : Int32} {N : Mem}   {x0 : Nat} {x2 : Int32} {x3 : Int32} {x4 : Int32} {x5 : Int32} {x6 : Int32} {s0 : Int32} {M : Mem}   (h : fX6_after_b56 FU  x0 x2 x3 x4 x5 x6 s0 M = some (r, N)) : J ad ca D cX6_after RX6 9 (d + 3) (Gt ad ca D (some .int) (QI r N)) 56 [(0, vR (some x0)), (2, vI x2), (3, vI x3), (4, vI x4), (5, vI x5), (6, vI x6)] [vI s0] M := by
  unfold fX6_after_b56 at h
  refine J_istore (pc := 56) (by decide) (lv' := [(0, vR (some x0)), (2, vI x2), (3, vI x3), (4, vI x4), (5, vI x5), (6, vI x6), (7, vI s0)]) rfl dX6_after_56 ?_
  refine J_iload (pc := 58) (q := 6) rfl dX6_after_58 ?_
  refine J_ifge (pc := 60) (tgt := 65) (by decide) dX6_after_60 (fun hc60 => ?_) (fun hc60 => ?_)
  · rw [if_pos hc60] at h
    refine J_aload_n (pc := 65) (q := 0) rfl rfl dX6_after_65 ?_
    obtain ⟨a66, h66, g_1⟩ := bnd h
    refine J_getR (pc := 66) (i := 15) clF6 (by decide) rfl fl_RX6_40 h66 dX6_after_66 ?_
    refine J_aload_n (pc := 69) (q := 0) rfl rfl dX6_after_69 ?_
    obtain ⟨a70, h70, g_2⟩ := bnd g_1
    refine J_getR (pc := 70) (i := 0) clF6 (by decide) rfl fl_RX6_50 h70 dX6_after_70 ?_
    refine J_iload_n (pc := 73) (q := 1) rfl rfl dX6_after_73 ?_
    obtain ⟨b74, hb74, g_3⟩ := bnd g_2
    obtain ⟨r74, M74, h74, g_4⟩ := bnd2 g_3
    refine J_callVI (pc := 74) (as := [vI x2]) (tX3_shutterPassed (d := d)  h74) cf_X3_shutterPassed cv_X3_shutterPassed clF3 hb74 ml_RX6_120 (by omega) (Nat.le_of_ble_eq_true rfl) dX6_after_74 ?_
    refine J_iconst (pc := 77) (v := (1 : Int32)) (by decide) dX6_after_77 ?_
    refine J_iadd (pc := 78) dX6_after_78 ?_
    refine J_bipush (pc := 79) (v := (9 : Int32)) (by decide) dX6_after_79 ?_
    refine J_imul (pc := 81) dX6_after_81 ?_
    refine J_iload_n (pc := 82) (q := 2) rfl rfl dX6_after_82 ?_
    refine J_iadd (pc := 83) dX6_after_83 ?_
    obtain ⟨a84, h84, g_5⟩ := bnd g_4
    refine J_ald0 (pc := 84) h84 dX6_after_84 ?_
    refine J_istore (pc := 85) (by decide) (lv' := [(0, vR (some x0)), (2, vI x2), (3, vI x3), (4, vI x4), (5, vI x5), (6, vI x6), (7, vI s0), (8, vI a84)]) rfl dX6_after_85 ?_
    refine J_iload (pc := 87) (q := 7) rfl dX6_after_87 ?_
    refine J_ifge (pc := 89) (tgt := 94) (by decide) dX6_after_89 (fun hc89 => ?_) (fun hc89 => ?_)
    · rw [if_pos hc89] at g_5
      refine J_iload (pc := 94) (q := 7) rfl dX6_after_94 ?_
      refine J_sipush (pc := 96) (v := (1024 : Int32)) (by decide) dX6_after_96 ?_
      refine J_imul (pc := 99) dX6_after_99 ?_
      refine J_iload (pc := 100) (q := 5) rfl dX6_after_100 ?_
      refine J_ifeq (pc := 102) (tgt := 116) (by decide) dX6_after_102 (fun hc102 => ?_) (fun hc102 => ?_)
      · rw [if_pos hc102] at g_5
        refine J_sipush (pc := 116) (v := (512 : Int32)) (by decide) dX6_after_116 ?_
        refine J_iload (pc := 119) (q := 6) rfl dX6_after_119 ?_
        refine J_bipush (pc := 121) (v := (8 : Int32)) (by decide) dX6_after_121 ?_
        refine J_imul (pc := 123) dX6_after_123 ?_
        refine J_iadd (pc := 124) dX6_after_124 ?_
        refine J_iload (pc := 125) (q := 4) rfl dX6_after_125 ?_
        refine J_iadd (pc := 127) dX6_after_127 ?_
        refine J_iadd (pc := 128) dX6_after_128 ?_
        exact J_iret (pc := 129) (qi_of g_5) dX6_after_129
      · rw [if_neg hc102] at g_5
        refine J_iload (pc := 105) (q := 3) rfl dX6_after_105 ?_
        refine J_bipush (pc := 107) (v := (8 : Int32)) (by decide) dX6_after_107 ?_
        refine J_imul (pc := 109) dX6_after_109 ?_
        refine J_iload (pc := 110) (q := 6) rfl dX6_after_110 ?_
        refine J_iadd (pc := 112) dX6_after_112 ?_
        refine J_goto (pc := 113) (tgt := 128) (by decide) dX6_after_113 ?_
        refine J_iadd (pc := 128) dX6_after_128 ?_
        exact J_iret (pc := 129) (qi_of g_5) dX6_after_129
    · rw [if_neg hc89] at g_5
      refine J_iconst (pc := 92) (v := (-1 : Int32)) (by decide) dX6_after_92 ?_
      exact J_iret (pc := 93) (qi_of g_5) dX6_after_93
  · rw [if_neg hc60] at h
    refine J_iconst (pc := 63) (v := (-1 : Int32)) (by decide) dX6_after_63 ?_
    exact J_iret (pc := 64) (qi_of h) dX6_after_64
set_option maxHeartbeats 4000000 in
set_option maxRecDepth 100000 in
theorem tX6_after {ad : Nat → Nat} {ca : Nat → ClassId} {D : va_G} {FU d : Nat} {r : Int32} {N : Mem}  {x0 : Nat} {x1 : Int32} {x2 : Int32} {M : Mem}  (h : fX6_after FU  x0 x1 x2 M = some (r, N)) : Ct ad ca D yX6_after cX6_after 9 (some .int) (d + 3) [vR (some x0), vI x1, vI x2] M (QI r N) := by
  refine Ct_of (by decide) (Nat.le_of_ble_eq_true rfl) ?_
  show J ad ca D cX6_after RX6 9 (d + 3) (Gt ad ca D (some .int) (QI r N)) 0 [(0, vR (some x0)), (1, vI x1), (2, vI x2)] [] M
  unfold fX6_after at h
  refine J_iload_n (pc := 0) (q := 1) rfl rfl dX6_after_0 ?_
  refine J_sipush (pc := 1) (v := (1024 : Int32)) (by decide) dX6_after_1 ?_
  refine J_idiv (pc := 4) (by decide) dX6_after_4 ?_
  refine J_istore_n (pc := 5) rfl (by decide) (lv' := [(0, vR (some x0)), (1, vI x1), (2, vI x2), (3, vI (x1 / (1024 : Int32)))]) rfl dX6_after_5 ?_
  refine J_iload_n (pc := 6) (q := 1) rfl rfl dX6_after_6 ?_
  refine J_iconst (pc := 7) (v := (3 : Int32)) (by decide) dX6_after_7 ?_
  refine J_ishr (pc := 8) dX6_after_8 ?_
  refine J_bipush (pc := 9) (v := (63 : Int32)) (by decide) dX6_after_9 ?_
  refine J_iand (pc := 11) dX6_after_11 ?_
  refine J_istore (pc := 12) (by decide) (lv' := [(0, vR (some x0)), (1, vI x1), (2, vI x2), (3, vI (x1 / (1024 : Int32))), (4, vI ((x1 >>> ((3 : Int32) &&& 31)) &&& (63 : Int32)))]) rfl dX6_after_12 ?_
  refine J_iload_n (pc := 14) (q := 1) rfl rfl dX6_after_14 ?_
  refine J_bipush (pc := 15) (v := (7 : Int32)) (by decide) dX6_after_15 ?_
  refine J_iand (pc := 17) dX6_after_17 ?_
  refine J_istore (pc := 18) (by decide) (lv' := [(0, vR (some x0)), (1, vI x1), (2, vI x2), (3, vI (x1 / (1024 : Int32))), (4, vI ((x1 >>> ((3 : Int32) &&& 31)) &&& (63 : Int32))), (5, vI (x1 &&& (7 : Int32)))]) rfl dX6_after_18 ?_
  refine J_iload_n (pc := 20) (q := 1) rfl rfl dX6_after_20 ?_
  obtain ⟨r21, M21, h21, g_6⟩ := bnd2 h
  refine J_callSI (pc := 21) (as := [vI x1]) (tX6_isRunnersTurn (d := d)  h21) cf_X6_isRunnersTurn cv_X6_isRunnersTurn ml_RX6_146 (by omega) (Nat.le_of_ble_eq_true rfl) dX6_after_21 ?_
  refine J_istore (pc := 24) (by decide) (lv' := [(0, vR (some x0)), (1, vI x1), (2, vI x2), (3, vI (x1 / (1024 : Int32))), (4, vI ((x1 >>> ((3 : Int32) &&& 31)) &&& (63 : Int32))), (5, vI (x1 &&& (7 : Int32))), (6, vI r21)]) rfl dX6_after_24 ?_
  refine J_iload (pc := 26) (q := 6) rfl dX6_after_26 ?_
  refine J_ifeq (pc := 28) (tgt := 46) (by decide) dX6_after_28 (fun hc28 => ?_) (fun hc28 => ?_)
  · rw [if_pos hc28] at g_6
    refine J_aload_n (pc := 46) (q := 0) rfl rfl dX6_after_46 ?_
    obtain ⟨a47, h47, g_7⟩ := bnd g_6
    refine J_getR (pc := 47) (i := 0) clF6 (by decide) rfl fl_RX6_50 h47 dX6_after_47 ?_
    refine J_iload (pc := 50) (q := 4) rfl dX6_after_50 ?_
    refine J_iload_n (pc := 52) (q := 2) rfl rfl dX6_after_52 ?_
    obtain ⟨b53, hb53, g_8⟩ := bnd g_7
    obtain ⟨r53, M53, h53, g_9⟩ := bnd2 g_8
    refine J_callVI (pc := 53) (as := [vI ((x1 >>> ((3 : Int32) &&& 31)) &&& (63 : Int32)), vI x2]) (tX3_pairAfter (d := d)  h53) cf_X3_pairAfter cv_X3_pairAfter clF3 hb53 ml_RX6_117 (by omega) (Nat.le_of_ble_eq_true rfl) dX6_after_53 ?_
    refine J_sub [0, 2, 3, 4, 5, 6] (lv' := [(0, vR (some x0)), (2, vI x2), (3, vI (x1 / (1024 : Int32))), (4, vI ((x1 >>> ((3 : Int32) &&& 31)) &&& (63 : Int32))), (5, vI (x1 &&& (7 : Int32))), (6, vI r21)]) rfl ?_
    exact jX6_after_b56  g_9
  · rw [if_neg hc28] at g_6
    refine J_aload_n (pc := 31) (q := 0) rfl rfl dX6_after_31 ?_
    obtain ⟨a32, h32, g_10⟩ := bnd g_6
    refine J_getR (pc := 32) (i := 0) clF6 (by decide) rfl fl_RX6_50 h32 dX6_after_32 ?_
    refine J_iload (pc := 35) (q := 4) rfl dX6_after_35 ?_
    refine J_iload (pc := 37) (q := 5) rfl dX6_after_37 ?_
    refine J_iload_n (pc := 39) (q := 2) rfl rfl dX6_after_39 ?_
    obtain ⟨b40, hb40, g_11⟩ := bnd g_10
    obtain ⟨r40, M40, h40, g_12⟩ := bnd2 g_11
    refine J_callVI (pc := 40) (as := [vI ((x1 >>> ((3 : Int32) &&& 31)) &&& (63 : Int32)), vI (x1 &&& (7 : Int32)), vI x2]) (tX3_runnerAfter (d := d)  h40) cf_X3_runnerAfter cv_X3_runnerAfter clF3 hb40 ml_RX6_133 (by omega) (Nat.le_of_ble_eq_true rfl) dX6_after_40 ?_
    refine J_goto (pc := 43) (tgt := 56) (by decide) dX6_after_43 ?_
    refine J_sub [0, 2, 3, 4, 5, 6] (lv' := [(0, vR (some x0)), (2, vI x2), (3, vI (x1 / (1024 : Int32))), (4, vI ((x1 >>> ((3 : Int32) &&& 31)) &&& (63 : Int32))), (5, vI (x1 &&& (7 : Int32))), (6, vI r21)]) rfl ?_
    exact jX6_after_b56  g_12
set_option maxHeartbeats 4000000 in
set_option maxRecDepth 100000 in
theorem jX3_isOpen_b27 {ad : Nat → Nat} {ca : Nat → ClassId} {D : va_G} {FU d : Nat} {r : Int32} {N : Mem}    {M : Mem}   (h : fX3_isOpen_b27 FU  M = some (r, N)) : J ad ca D cX3_isOpen RX3 4 (d + 0) (Gt ad ca D (some .boolean) (QI r N)) 27 [] [] M := by
  unfold fX3_isOpen_b27 at h
  refine J_iconst (pc := 27) (v := (1 : Int32)) (by decide) dX3_isOpen_27 ?_
  refine J_goto (pc := 28) (tgt := 32) (by decide) dX3_isOpen_28 ?_
  exact J_zret (pc := 32) (Or.inr rfl) (qi_of h) dX3_isOpen_32
set_option maxHeartbeats 4000000 in
set_option maxRecDepth 100000 in
theorem jX3_isOpen_b24 {ad : Nat → Nat} {ca : Nat → ClassId} {D : va_G} {FU d : Nat} {r : Int32} {N : Mem}   {s0 : Int32} {M : Mem}   (h : fX3_isOpen_b24 FU  s0 M = some (r, N)) : J ad ca D cX3_isOpen RX3 4 (d + 0) (Gt ad ca D (some .boolean) (QI r N)) 24 [] [vI s0] M := by
  unfold fX3_isOpen_b24 at h
  refine J_ifne (pc := 24) (tgt := 31) (by decide) dX3_isOpen_24 (fun hc24 => ?_) (fun hc24 => ?_)
  · rw [if_pos hc24] at h
    refine J_iconst (pc := 31) (v := (0 : Int32)) (by decide) dX3_isOpen_31 ?_
    exact J_zret (pc := 32) (Or.inl rfl) (qi_of h) dX3_isOpen_32
  · rw [if_neg hc24] at h
    exact jX3_isOpen_b27  h
set_option maxHeartbeats 4000000 in
set_option maxRecDepth 100000 in
theorem tX3_isOpen {ad : Nat → Nat} {ca : Nat → ClassId} {D : va_G} {FU d : Nat} {r : Int32} {N : Mem}  {x0 : Nat} {x1 : Int32} {x2 : Int32} {M : Mem}  (h : fX3_isOpen FU  x0 x1 x2 M = some (r, N)) : Ct ad ca D yX3_isOpen cX3_isOpen 4 (some .boolean) (d + 0) [vR (some x0), vI x1, vI x2] M (QI r N) := by
  refine Ct_of (by decide) (Nat.le_of_ble_eq_true rfl) ?_
  show J ad ca D cX3_isOpen RX3 4 (d + 0) (Gt ad ca D (some .boolean) (QI r N)) 0 [(0, vR (some x0)), (1, vI x1), (2, vI x2)] [] M
  unfold fX3_isOpen at h
  refine J_aload_n (pc := 0) (q := 0) rfl rfl dX3_isOpen_0 ?_
  obtain ⟨a1, h1, g_1⟩ := bnd h
  refine J_getR (pc := 1) (i := 4) clF3 (by decide) rfl fl_RX3_21 h1 dX3_isOpen_1 ?_
  refine J_iload_n (pc := 4) (q := 1) rfl rfl dX3_isOpen_4 ?_
  obtain ⟨a5, h5, g_2⟩ := bnd g_1
  refine J_ald0 (pc := 5) h5 dX3_isOpen_5 ?_
  refine J_istore_n (pc := 6) rfl (by decide) (lv' := [(0, vR (some x0)), (1, vI x1), (2, vI x2), (3, vI a5)]) rfl dX3_isOpen_6 ?_
  refine J_iload_n (pc := 7) (q := 3) rfl rfl dX3_isOpen_7 ?_
  refine J_iflt (pc := 8) (tgt := 27) (by decide) dX3_isOpen_8 (fun hc8 => ?_) (fun hc8 => ?_)
  · rw [if_pos hc8] at g_2
    refine J_sub [] (lv' := []) rfl ?_
    exact jX3_isOpen_b27  g_2
  · rw [if_neg hc8] at g_2
    refine J_iload_n (pc := 11) (q := 3) rfl rfl dX3_isOpen_11 ?_
    refine J_ifne (pc := 12) (tgt := 21) (by decide) dX3_isOpen_12 (fun hc12 => ?_) (fun hc12 => ?_)
    · rw [if_pos hc12] at g_2
      refine J_iload_n (pc := 21) (q := 2) rfl rfl dX3_isOpen_21 ?_
      refine J_iconst (pc := 22) (v := (3 : Int32)) (by decide) dX3_isOpen_22 ?_
      refine J_idiv (pc := 23) (by decide) dX3_isOpen_23 ?_
      refine J_sub [] (lv' := []) rfl ?_
      exact jX3_isOpen_b24  g_2
    · rw [if_neg hc12] at g_2
      refine J_iload_n (pc := 15) (q := 2) rfl rfl dX3_isOpen_15 ?_
      refine J_iconst (pc := 16) (v := (3 : Int32)) (by decide) dX3_isOpen_16 ?_
      refine J_irem (pc := 17) (by decide) dX3_isOpen_17 ?_
      refine J_goto (pc := 18) (tgt := 24) (by decide) dX3_isOpen_18 ?_
      refine J_sub [] (lv' := []) rfl ?_
      exact jX3_isOpen_b24  g_2
set_option maxHeartbeats 4000000 in
set_option maxRecDepth 100000 in
theorem jX3_reachOf_b67 {ad : Nat → Nat} {ca : Nat → ClassId} {D : va_G} {FU d : Nat} {r : Int32} {N : Mem}  {k20 : Int32 → Int32 → Mem → Option (Int32 × Mem)} {x0 : Nat} {x1 : Int32} {x2 : Int32} {x3 : Int32} {x4 : Int32} {x5 : Int32} {M : Mem}  (hk20 : ∀ (y4 : Int32) (y5 : Int32) (M : Mem), k20 y4 y5 M = some (r, N) → J ad ca D cX3_reachOf RX3 7 (d + 2) (Gt ad ca D (some .int) (QI r N)) 20 [(0, vR (some x0)), (1, vI x1), (2, vI x2), (3, vI x3), (4, vI y4), (5, vI y5)] [] M) (h : fX3_reachOf_b67 FU  k20 x0 x1 x2 x3 x4 x5 M = some (r, N)) : J ad ca D cX3_reachOf RX3 7 (d + 2) (Gt ad ca D (some .int) (QI r N)) 67 [(0, vR (some x0)), (1, vI x1), (2, vI x2), (3, vI x3), (4, vI x4), (5, vI x5)] [] M := by
  unfold fX3_reachOf_b67 at h
  refine J_iinc (pc := 67) (q := 5) rfl (v := x5 + (1 : Int32)) rfl (by decide) (lv' := [(0, vR (some x0)), (1, vI x1), (2, vI x2), (3, vI x3), (4, vI x4), (5, vI (x5 + (1 : Int32)))]) rfl dX3_reachOf_67 ?_
  refine J_goto (pc := 70) (tgt := 20) (by decide) dX3_reachOf_70 ?_
  exact hk20 _ _ _ h
set_option maxHeartbeats 4000000 in
set_option maxRecDepth 100000 in
theorem jX3_reachOf_b51 {ad : Nat → Nat} {ca : Nat → ClassId} {D : va_G} {FU d : Nat} {r : Int32} {N : Mem}  {k20 : Int32 → Int32 → Mem → Option (Int32 × Mem)} {x0 : Nat} {x1 : Int32} {x2 : Int32} {x3 : Int32} {x4 : Int32} {x5 : Int32} {s0 : Int32} {M : Mem}  (hk20 : ∀ (y4 : Int32) (y5 : Int32) (M : Mem), k20 y4 y5 M = some (r, N) → J ad ca D cX3_reachOf RX3 7 (d + 2) (Gt ad ca D (some .int) (QI r N)) 20 [(0, vR (some x0)), (1, vI x1), (2, vI x2), (3, vI x3), (4, vI y4), (5, vI y5)] [] M) (h : fX3_reachOf_b51 FU  k20 x0 x1 x2 x3 x4 x5 s0 M = some (r, N)) : J ad ca D cX3_reachOf RX3 7 (d + 2) (Gt ad ca D (some .int) (QI r N)) 51 [(0, vR (some x0)), (1, vI x1), (2, vI x2), (3, vI x3), (4, vI x4), (5, vI x5)] [vI s0] M := by
  unfold fX3_reachOf_b51 at h
  refine J_istore (pc := 51) (by decide) (lv' := [(0, vR (some x0)), (1, vI x1), (2, vI x2), (3, vI x3), (4, vI x4), (5, vI x5), (6, vI s0)]) rfl dX3_reachOf_51 ?_
  refine J_iload (pc := 53) (q := 6) rfl dX3_reachOf_53 ?_
  refine J_iflt (pc := 55) (tgt := 67) (by decide) dX3_reachOf_55 (fun hc55 => ?_) (fun hc55 => ?_)
  · rw [if_pos hc55] at h
    refine J_sub [0, 1, 2, 3, 4, 5] (lv' := [(0, vR (some x0)), (1, vI x1), (2, vI x2), (3, vI x3), (4, vI x4), (5, vI x5)]) rfl ?_
    exact jX3_reachOf_b67 hk20 h
  · rw [if_neg hc55] at h
    refine J_iload (pc := 58) (q := 4) rfl dX3_reachOf_58 ?_
    refine J_iconst (pc := 60) (v := (1 : Int32)) (by decide) dX3_reachOf_60 ?_
    refine J_iload (pc := 61) (q := 6) rfl dX3_reachOf_61 ?_
    refine J_ishl (pc := 63) dX3_reachOf_63 ?_
    refine J_ior (pc := 64) dX3_reachOf_64 ?_
    refine J_istore (pc := 65) (by decide) (lv' := [(0, vR (some x0)), (1, vI x1), (2, vI x2), (3, vI x3), (5, vI x5), (6, vI s0), (4, vI (x4 ||| ((1 : Int32) <<< (s0 &&& 31))))]) rfl dX3_reachOf_65 ?_
    refine J_sub [0, 1, 2, 3, 6, 4] (lv' := [(0, vR (some x0)), (1, vI x1), (2, vI x2), (3, vI x3), (4, vI (x4 ||| ((1 : Int32) <<< (s0 &&& 31)))), (5, vI x5)]) rfl ?_
    exact jX3_reachOf_b67 hk20 h
set_option maxHeartbeats 4000000 in
set_option maxRecDepth 100000 in
theorem jX3_reachOf_L20 {ad : Nat → Nat} {ca : Nat → ClassId} {D : va_G} {FU d : Nat} {r : Int32} {N : Mem}   {x0 : Nat} {x1 : Int32} {x2 : Int32} {x3 : Int32}   : ∀ (F : Nat) (x4 : Int32) (x5 : Int32) (M : Mem), fX3_reachOf_L20 FU  x0 x1 x2 x3 F x4 x5 M = some (r, N) → J ad ca D cX3_reachOf RX3 7 (d + 2) (Gt ad ca D (some .int) (QI r N)) 20 [(0, vR (some x0)), (1, vI x1), (2, vI x2), (3, vI x3), (4, vI x4), (5, vI x5)] [] M := by
  intro F
  induction F with
  | zero =>
    intro x4 x5 M h
    rw [fX3_reachOf_L20] at h
    cases h
  | succ F hk20 =>
    intro x4 x5 M h
    rw [fX3_reachOf_L20] at h
    refine J_iload (pc := 20) (q := 5) rfl dX3_reachOf_20 ?_
    refine J_aload_n (pc := 22) (q := 0) rfl rfl dX3_reachOf_22 ?_
    obtain ⟨a23, h23, g_1⟩ := bnd h
    refine J_getI (pc := 23) (i := 8) clF3 (by decide) rfl fl_RX3_53 h23 dX3_reachOf_23 ?_
    refine J_icge (pc := 26) (tgt := 73) (by decide) dX3_reachOf_26 (fun hc26 => ?_) (fun hc26 => ?_)
    · rw [if_pos hc26] at g_1
      refine J_iload (pc := 73) (q := 4) rfl dX3_reachOf_73 ?_
      refine J_iload_n (pc := 75) (q := 2) rfl rfl dX3_reachOf_75 ?_
      obtain ⟨r76, M76, h76, g_2⟩ := bnd2 g_1
      refine J_callSI (pc := 76) (as := [vI x2]) (tX3_placesOf (d := d)  h76) cf_X3_placesOf cv_X3_placesOf ml_RX3_81 (by omega) (Nat.le_of_ble_eq_true rfl) dX3_reachOf_76 ?_
      refine J_iconst (pc := 79) (v := (-1 : Int32)) (by decide) dX3_reachOf_79 ?_
      refine J_ixor (pc := 80) dX3_reachOf_80 ?_
      refine J_iand (pc := 81) dX3_reachOf_81 ?_
      exact J_iret (pc := 82) (qi_of g_2) dX3_reachOf_82
    · rw [if_neg hc26] at g_1
      refine J_aload_n (pc := 29) (q := 0) rfl rfl dX3_reachOf_29 ?_
      refine J_iload (pc := 30) (q := 5) rfl dX3_reachOf_30 ?_
      refine J_iload_n (pc := 32) (q := 3) rfl rfl dX3_reachOf_32 ?_
      obtain ⟨b33, hb33, g_3⟩ := bnd g_1
      obtain ⟨r33, M33, h33, g_4⟩ := bnd2 g_3
      refine J_callVI (pc := 33) (as := [vI x5, vI x3]) (tX3_isOpen (d := d)  h33) cf_X3_isOpen cv_X3_isOpen clF3 hb33 ml_RX3_94 (by omega) (Nat.le_of_ble_eq_true rfl) dX3_reachOf_33 ?_
      refine J_ifeq (pc := 36) (tgt := 50) (by decide) dX3_reachOf_36 (fun hc36 => ?_) (fun hc36 => ?_)
      · rw [if_pos hc36] at g_4
        refine J_iconst (pc := 50) (v := (-1 : Int32)) (by decide) dX3_reachOf_50 ?_
        exact jX3_reachOf_b51 hk20 g_4
      · rw [if_neg hc36] at g_4
        refine J_aload_n (pc := 39) (q := 0) rfl rfl dX3_reachOf_39 ?_
        refine J_iload (pc := 40) (q := 5) rfl dX3_reachOf_40 ?_
        refine J_iload_n (pc := 42) (q := 1) rfl rfl dX3_reachOf_42 ?_
        refine J_iload_n (pc := 43) (q := 2) rfl rfl dX3_reachOf_43 ?_
        obtain ⟨b44, hb44, g_5⟩ := bnd g_4
        obtain ⟨r44, M44, h44, g_6⟩ := bnd2 g_5
        refine J_callVI (pc := 44) (as := [vI x5, vI x1, vI x2]) (tX3_runnerEnd (d := d)  h44) cf_X3_runnerEnd cv_X3_runnerEnd clF3 hb44 ml_RX3_91 (by omega) (Nat.le_of_ble_eq_true rfl) dX3_reachOf_44 ?_
        refine J_goto (pc := 47) (tgt := 51) (by decide) dX3_reachOf_47 ?_
        exact jX3_reachOf_b51 hk20 g_6
set_option maxHeartbeats 4000000 in
set_option maxRecDepth 100000 in
theorem jX3_reachOf_b15 {ad : Nat → Nat} {ca : Nat → ClassId} {D : va_G} {FU d : Nat} {r : Int32} {N : Mem}   {x0 : Nat} {x1 : Int32} {x2 : Int32} {x3 : Int32} {s0 : Int32} {M : Mem}   (h : fX3_reachOf_b15 FU  x0 x1 x2 x3 s0 M = some (r, N)) : J ad ca D cX3_reachOf RX3 7 (d + 2) (Gt ad ca D (some .int) (QI r N)) 15 [(0, vR (some x0)), (1, vI x1), (2, vI x2), (3, vI x3)] [vI s0] M := by
  unfold fX3_reachOf_b15 at h
  refine J_istore (pc := 15) (by decide) (lv' := [(0, vR (some x0)), (1, vI x1), (2, vI x2), (3, vI x3), (4, vI s0)]) rfl dX3_reachOf_15 ?_
  refine J_iconst (pc := 17) (v := (0 : Int32)) (by decide) dX3_reachOf_17 ?_
  refine J_istore (pc := 18) (by decide) (lv' := [(0, vR (some x0)), (1, vI x1), (2, vI x2), (3, vI x3), (4, vI s0), (5, vI (0 : Int32))]) rfl dX3_reachOf_18 ?_
  exact jX3_reachOf_L20  FU _ _ _ h
set_option maxHeartbeats 4000000 in
set_option maxRecDepth 100000 in
theorem tX3_reachOf {ad : Nat → Nat} {ca : Nat → ClassId} {D : va_G} {FU d : Nat} {r : Int32} {N : Mem}  {x0 : Nat} {x1 : Int32} {x2 : Int32} {x3 : Int32} {M : Mem}  (h : fX3_reachOf FU  x0 x1 x2 x3 M = some (r, N)) : Ct ad ca D yX3_reachOf cX3_reachOf 7 (some .int) (d + 2) [vR (some x0), vI x1, vI x2, vI x3] M (QI r N) := by
  refine Ct_of (by decide) (Nat.le_of_ble_eq_true rfl) ?_
  show J ad ca D cX3_reachOf RX3 7 (d + 2) (Gt ad ca D (some .int) (QI r N)) 0 [(0, vR (some x0)), (1, vI x1), (2, vI x2), (3, vI x3)] [] M
  unfold fX3_reachOf at h
  refine J_aload_n (pc := 0) (q := 0) rfl rfl dX3_reachOf_0 ?_
  refine J_iload_n (pc := 1) (q := 1) rfl rfl dX3_reachOf_1 ?_
  obtain ⟨b2, hb2, g_7⟩ := bnd h
  obtain ⟨r2, M2, h2, g_8⟩ := bnd2 g_7
  refine J_callVI (pc := 2) (as := [vI x1]) (tX3_isWell (d := d)  h2) cf_X3_isWell cv_X3_isWell clF3 hb2 ml_RX3_88 (by omega) (Nat.le_of_ble_eq_true rfl) dX3_reachOf_2 ?_
  refine J_ifeq (pc := 5) (tgt := 14) (by decide) dX3_reachOf_5 (fun hc5 => ?_) (fun hc5 => ?_)
  · rw [if_pos hc5] at g_8
    refine J_iconst (pc := 14) (v := (0 : Int32)) (by decide) dX3_reachOf_14 ?_
    exact jX3_reachOf_b15  g_8
  · rw [if_neg hc5] at g_8
    refine J_iconst (pc := 8) (v := (1 : Int32)) (by decide) dX3_reachOf_8 ?_
    refine J_iload_n (pc := 9) (q := 1) rfl rfl dX3_reachOf_9 ?_
    refine J_ishl (pc := 10) dX3_reachOf_10 ?_
    refine J_goto (pc := 11) (tgt := 15) (by decide) dX3_reachOf_11 ?_
    exact jX3_reachOf_b15  g_8
set_option maxHeartbeats 4000000 in
set_option maxRecDepth 100000 in
theorem jX0_knownBehindRunner_b48 {ad : Nat → Nat} {ca : Nat → ClassId} {D : va_G} {FU d : Nat} {r : Int32} {N : Mem}  {k4 : Int32 → Int32 → Mem → Option (Int32 × Mem)} {x0 : Nat} {x1 : Option Nat} {x2 : Int32} {x3 : Int32} {M : Mem}  (hk4 : ∀ (y2 : Int32) (y3 : Int32) (M : Mem), k4 y2 y3 M = some (r, N) → J ad ca D cX0_knownBehindRunner RX0 4 (d + 3) (Gt ad ca D (some .int) (QI r N)) 4 [(0, vR (some x0)), (1, vR x1), (2, vI y2), (3, vI y3)] [] M) (h : fX0_knownBehindRunner_b48 FU  k4 x0 x1 x2 x3 M = some (r, N)) : J ad ca D cX0_knownBehindRunner RX0 4 (d + 3) (Gt ad ca D (some .int) (QI r N)) 48 [(0, vR (some x0)), (1, vR x1), (2, vI x2), (3, vI x3)] [] M := by
  unfold fX0_knownBehindRunner_b48 at h
  refine J_iinc (pc := 48) (q := 3) rfl (v := x3 + (1 : Int32)) rfl (by decide) (lv' := [(0, vR (some x0)), (1, vR x1), (2, vI x2), (3, vI (x3 + (1 : Int32)))]) rfl dX0_knownBehindRunner_48 ?_
  refine J_goto (pc := 51) (tgt := 4) (by decide) dX0_knownBehindRunner_51 ?_
  exact hk4 _ _ _ h
set_option maxHeartbeats 4000000 in
set_option maxRecDepth 100000 in
theorem jX0_knownBehindRunner_L4 {ad : Nat → Nat} {ca : Nat → ClassId} {D : va_G} {FU d : Nat} {r : Int32} {N : Mem}   {x0 : Nat} {x1 : Option Nat}   : ∀ (F : Nat) (x2 : Int32) (x3 : Int32) (M : Mem), fX0_knownBehindRunner_L4 FU  x0 x1 F x2 x3 M = some (r, N) → J ad ca D cX0_knownBehindRunner RX0 4 (d + 3) (Gt ad ca D (some .int) (QI r N)) 4 [(0, vR (some x0)), (1, vR x1), (2, vI x2), (3, vI x3)] [] M := by
  intro F
  induction F with
  | zero =>
    intro x2 x3 M h
    rw [fX0_knownBehindRunner_L4] at h
    cases h
  | succ F hk4 =>
    intro x2 x3 M h
    rw [fX0_knownBehindRunner_L4] at h
    refine J_iload_n (pc := 4) (q := 3) rfl rfl dX0_knownBehindRunner_4 ?_
    refine J_aload_n (pc := 5) (q := 1) rfl rfl dX0_knownBehindRunner_5 ?_
    obtain ⟨a6, h6, g_1⟩ := bnd h
    refine J_getI (pc := 6) (i := 0) clF3 (by decide) rfl fl_RX0_75 h6 dX0_knownBehindRunner_6 ?_
    refine J_icge (pc := 9) (tgt := 54) (by decide) dX0_knownBehindRunner_9 (fun hc9 => ?_) (fun hc9 => ?_)
    · rw [if_pos hc9] at g_1
      refine J_iload_n (pc := 54) (q := 2) rfl rfl dX0_knownBehindRunner_54 ?_
      exact J_iret (pc := 55) (qi_of g_1) dX0_knownBehindRunner_55
    · rw [if_neg hc9] at g_1
      refine J_aload_n (pc := 12) (q := 0) rfl rfl dX0_knownBehindRunner_12 ?_
      obtain ⟨a13, h13, g_2⟩ := bnd g_1
      refine J_getI (pc := 13) (i := 2) clF0 (by decide) rfl fl_RX0_42 h13 dX0_knownBehindRunner_13 ?_
      refine J_iload_n (pc := 16) (q := 3) rfl rfl dX0_knownBehindRunner_16 ?_
      refine J_ishr (pc := 17) dX0_knownBehindRunner_17 ?_
      refine J_iconst (pc := 18) (v := (1 : Int32)) (by decide) dX0_knownBehindRunner_18 ?_
      refine J_iand (pc := 19) dX0_knownBehindRunner_19 ?_
      refine J_ifeq (pc := 20) (tgt := 48) (by decide) dX0_knownBehindRunner_20 (fun hc20 => ?_) (fun hc20 => ?_)
      · rw [if_pos hc20] at g_2
        exact jX0_knownBehindRunner_b48 hk4 g_2
      · rw [if_neg hc20] at g_2
        refine J_iload_n (pc := 23) (q := 2) rfl rfl dX0_knownBehindRunner_23 ?_
        refine J_aload_n (pc := 24) (q := 1) rfl rfl dX0_knownBehindRunner_24 ?_
        refine J_iload_n (pc := 25) (q := 3) rfl rfl dX0_knownBehindRunner_25 ?_
        refine J_aload_n (pc := 26) (q := 0) rfl rfl dX0_knownBehindRunner_26 ?_
        obtain ⟨a27, h27, g_3⟩ := bnd g_2
        refine J_getI (pc := 27) (i := 1) clF0 (by decide) rfl fl_RX0_29 h27 dX0_knownBehindRunner_27 ?_
        refine J_iconst (pc := 30) (v := (3 : Int32)) (by decide) dX0_knownBehindRunner_30 ?_
        refine J_ishr (pc := 31) dX0_knownBehindRunner_31 ?_
        refine J_bipush (pc := 32) (v := (63 : Int32)) (by decide) dX0_knownBehindRunner_32 ?_
        refine J_iand (pc := 34) dX0_knownBehindRunner_34 ?_
        refine J_aload_n (pc := 35) (q := 0) rfl rfl dX0_knownBehindRunner_35 ?_
        obtain ⟨a36, h36, g_4⟩ := bnd g_3
        refine J_getI (pc := 36) (i := 1) clF0 (by decide) rfl fl_RX0_29 h36 dX0_knownBehindRunner_36 ?_
        refine J_sipush (pc := 39) (v := (1024 : Int32)) (by decide) dX0_knownBehindRunner_39 ?_
        refine J_idiv (pc := 42) (by decide) dX0_knownBehindRunner_42 ?_
        obtain ⟨b43, hb43, g_5⟩ := bnd g_4
        obtain ⟨r43, M43, h43, g_6⟩ := bnd2 g_5
        refine J_callVI (pc := 43) (as := [vI x3, vI ((a27 >>> ((3 : Int32) &&& 31)) &&& (63 : Int32)), vI (a36 / (1024 : Int32))]) (tX3_reachOf (d := d)  h43) cf_X3_reachOf cv_X3_reachOf clF3 hb43 ml_RX0_78 (by omega) (Nat.le_of_ble_eq_true rfl) dX0_knownBehindRunner_43 ?_
        refine J_ior (pc := 46) dX0_knownBehindRunner_46 ?_
        refine J_istore_n (pc := 47) rfl (by decide) (lv' := [(0, vR (some x0)), (1, vR x1), (3, vI x3), (2, vI (x2 ||| r43))]) rfl dX0_knownBehindRunner_47 ?_
        refine J_sub [0, 1, 3, 2] (lv' := [(0, vR (some x0)), (1, vR x1), (2, vI (x2 ||| r43)), (3, vI x3)]) rfl ?_
        exact jX0_knownBehindRunner_b48 hk4 g_6
set_option maxHeartbeats 4000000 in
set_option maxRecDepth 100000 in
theorem tX0_knownBehindRunner {ad : Nat → Nat} {ca : Nat → ClassId} {D : va_G} {FU d : Nat} {r : Int32} {N : Mem}  {x0 : Nat} {x1 : Option Nat} {M : Mem}  (h : fX0_knownBehindRunner FU  x0 x1 M = some (r, N)) : Ct ad ca D yX0_knownBehindRunner cX0_knownBehindRunner 4 (some .int) (d + 3) [vR (some x0), vR x1] M (QI r N) := by
  refine Ct_of (by decide) (Nat.le_of_ble_eq_true rfl) ?_
  show J ad ca D cX0_knownBehindRunner RX0 4 (d + 3) (Gt ad ca D (some .int) (QI r N)) 0 [(0, vR (some x0)), (1, vR x1)] [] M
  unfold fX0_knownBehindRunner at h
  refine J_iconst (pc := 0) (v := (0 : Int32)) (by decide) dX0_knownBehindRunner_0 ?_
  refine J_istore_n (pc := 1) rfl (by decide) (lv' := [(0, vR (some x0)), (1, vR x1), (2, vI (0 : Int32))]) rfl dX0_knownBehindRunner_1 ?_
  refine J_iconst (pc := 2) (v := (0 : Int32)) (by decide) dX0_knownBehindRunner_2 ?_
  refine J_istore_n (pc := 3) rfl (by decide) (lv' := [(0, vR (some x0)), (1, vR x1), (2, vI (0 : Int32)), (3, vI (0 : Int32))]) rfl dX0_knownBehindRunner_3 ?_
  exact jX0_knownBehindRunner_L4  FU _ _ _ h
set_option maxHeartbeats 4000000 in
set_option maxRecDepth 100000 in
theorem jX0_turn_b121 {ad : Nat → Nat} {ca : Nat → ClassId} {D : va_G} {FU d : Nat} {N : Mem}   {x0 : Nat} {x3 : Int32} {x4 : Option Nat} {M : Mem}   (h : fX0_turn_b121 FU  x0 x3 x4 M = some N) : J ad ca D cX0_turn RX0 5 (d + 4) (Gt ad ca D none (QV N)) 121 [(0, vR (some x0)), (3, vI x3), (4, vR x4)] [] M := by
  unfold fX0_turn_b121 at h
  refine J_aload_n (pc := 121) (q := 0) rfl rfl dX0_turn_121 ?_
  refine J_iload_n (pc := 122) (q := 1) rfl rfl dX0_turn_122 ?_
  obtain ⟨M123, h123, g_1⟩ := bnd h
  refine J_putI (pc := 123) (i := 1) clF0 (by decide) rfl fl_RX0_29 rfl rfl h123 dX0_turn_123 ?_
  refine J_aload_n (pc := 126) (q := 0) rfl rfl dX0_turn_126 ?_
  refine J_aload (pc := 127) (q := 2) rfl dX0_turn_127 ?_
  obtain ⟨b129, hb129, g_2⟩ := bnd g_1
  obtain ⟨M129, h129, g_3⟩ := bnd g_2
  refine J_callVV (pc := 129) (as := [vR x4]) (tX0_look (d := d)  h129) cf_X0_look cv_X0_look clF0 hb129 ml_RX0_45 (by omega) (Nat.le_of_ble_eq_true rfl) dX0_turn_129 ?_
  exact J_vret (pc := 132) (qv_of g_3) dX0_turn_132
set_option maxHeartbeats 4000000 in
set_option maxRecDepth 100000 in
theorem tX0_turn {ad : Nat → Nat} {ca : Nat → ClassId} {D : va_G} {FU d : Nat} {N : Mem}  {x0 : Nat} {x1 : Option Nat} {x2 : Int32} {M : Mem}  (h : fX0_turn FU  x0 x1 x2 M = some N) : Ct ad ca D yX0_turn cX0_turn 5 none (d + 4) [vR (some x0), vR x1, vI x2] M (QV N) := by
  refine Ct_of (by decide) (Nat.le_of_ble_eq_true rfl) ?_
  show J ad ca D cX0_turn RX0 5 (d + 4) (Gt ad ca D none (QV N)) 0 [(0, vR (some x0)), (1, vR x1), (2, vI x2)] [] M
  unfold fX0_turn at h
  refine J_aload_n (pc := 0) (q := 1) rfl rfl dX0_turn_0 ?_
  refine J_aload_n (pc := 1) (q := 0) rfl rfl dX0_turn_1 ?_
  obtain ⟨a2, h2, g_4⟩ := bnd h
  refine J_getI (pc := 2) (i := 1) clF0 (by decide) rfl fl_RX0_29 h2 dX0_turn_2 ?_
  refine J_iload_n (pc := 5) (q := 2) rfl rfl dX0_turn_5 ?_
  obtain ⟨b6, hb6, g_5⟩ := bnd g_4
  obtain ⟨r6, M6, h6, g_6⟩ := bnd2 g_5
  refine J_callVI (pc := 6) (as := [vI a2, vI x2]) (tX6_after (d := d)  h6) cf_X6_after cv_X6_after clF6 hb6 ml_RX0_52 (by omega) (Nat.le_of_ble_eq_true rfl) dX0_turn_6 ?_
  refine J_istore_n (pc := 9) rfl (by decide) (lv' := [(0, vR (some x0)), (1, vR x1), (2, vI x2), (3, vI r6)]) rfl dX0_turn_9 ?_
  refine J_iload_n (pc := 10) (q := 3) rfl rfl dX0_turn_10 ?_
  refine J_ifge (pc := 11) (tgt := 15) (by decide) dX0_turn_11 (fun hc11 => ?_) (fun hc11 => ?_)
  · rw [if_pos hc11] at g_6
    refine J_aload_n (pc := 15) (q := 1) rfl rfl dX0_turn_15 ?_
    obtain ⟨a16, h16, g_7⟩ := bnd g_6
    refine J_getR (pc := 16) (i := 0) clF6 (by decide) rfl fl_RX0_58 h16 dX0_turn_16 ?_
    refine J_astore (pc := 19) (by decide) (lv' := [(0, vR (some x0)), (1, vR x1), (2, vI x2), (3, vI r6), (4, vR a16)]) rfl dX0_turn_19 ?_
    refine J_aload_n (pc := 21) (q := 0) rfl rfl dX0_turn_21 ?_
    obtain ⟨a22, h22, g_8⟩ := bnd g_7
    refine J_getR (pc := 22) (i := 5) clF0 (by decide) rfl fl_RX0_9 h22 dX0_turn_22 ?_
    refine J_aload_n (pc := 25) (q := 0) rfl rfl dX0_turn_25 ?_
    obtain ⟨a26, h26, g_9⟩ := bnd g_8
    refine J_getI (pc := 26) (i := 3) clF0 (by decide) rfl fl_RX0_22 h26 dX0_turn_26 ?_
    refine J_bipush (pc := 29) (v := (64 : Int32)) (by decide) dX0_turn_29 ?_
    refine J_irem (pc := 31) (by decide) dX0_turn_31 ?_
    refine J_aload_n (pc := 32) (q := 0) rfl rfl dX0_turn_32 ?_
    obtain ⟨a33, h33, g_10⟩ := bnd g_9
    refine J_getI (pc := 33) (i := 1) clF0 (by decide) rfl fl_RX0_29 h33 dX0_turn_33 ?_
    obtain ⟨M36, h36, g_11⟩ := bnd g_10
    refine J_ast0 (pc := 36) h36 dX0_turn_36 ?_
    refine J_aload_n (pc := 37) (q := 0) rfl rfl dX0_turn_37 ?_
    obtain ⟨a38, h38, g_12⟩ := bnd g_11
    refine J_getR (pc := 38) (i := 6) clF0 (by decide) rfl fl_RX0_15 h38 dX0_turn_38 ?_
    refine J_aload_n (pc := 41) (q := 0) rfl rfl dX0_turn_41 ?_
    obtain ⟨a42, h42, g_13⟩ := bnd g_12
    refine J_getI (pc := 42) (i := 3) clF0 (by decide) rfl fl_RX0_22 h42 dX0_turn_42 ?_
    refine J_bipush (pc := 45) (v := (64 : Int32)) (by decide) dX0_turn_45 ?_
    refine J_irem (pc := 47) (by decide) dX0_turn_47 ?_
    refine J_aload_n (pc := 48) (q := 0) rfl rfl dX0_turn_48 ?_
    obtain ⟨a49, h49, g_14⟩ := bnd g_13
    refine J_getI (pc := 49) (i := 2) clF0 (by decide) rfl fl_RX0_42 h49 dX0_turn_49 ?_
    obtain ⟨M52, h52, g_15⟩ := bnd g_14
    refine J_ast0 (pc := 52) h52 dX0_turn_52 ?_
    refine J_aload_n (pc := 53) (q := 0) rfl rfl dX0_turn_53 ?_
    refine J_bipush (pc := 54) (v := (64 : Int32)) (by decide) dX0_turn_54 ?_
    refine J_aload_n (pc := 56) (q := 0) rfl rfl dX0_turn_56 ?_
    obtain ⟨a57, h57, g_16⟩ := bnd g_15
    refine J_getI (pc := 57) (i := 4) clF0 (by decide) rfl fl_RX0_26 h57 dX0_turn_57 ?_
    refine J_iconst (pc := 60) (v := (1 : Int32)) (by decide) dX0_turn_60 ?_
    refine J_iadd (pc := 61) dX0_turn_61 ?_
    refine J_mmin (pc := 62) ml_RX0_62 (by omega) (Nat.le_of_ble_eq_true rfl) dX0_turn_62 ?_
    obtain ⟨M65, h65, g_17⟩ := bnd g_16
    refine J_putI (pc := 65) (i := 4) clF0 (by decide) rfl fl_RX0_26 rfl rfl h65 dX0_turn_65 ?_
    refine J_aload_n (pc := 68) (q := 0) rfl rfl dX0_turn_68 ?_
    refine J_dup (pc := 69) rfl dX0_turn_69 ?_
    obtain ⟨a70, h70, g_18⟩ := bnd g_17
    refine J_getI (pc := 70) (i := 3) clF0 (by decide) rfl fl_RX0_22 h70 dX0_turn_70 ?_
    refine J_iconst (pc := 73) (v := (1 : Int32)) (by decide) dX0_turn_73 ?_
    refine J_iadd (pc := 74) dX0_turn_74 ?_
    obtain ⟨M75, h75, g_19⟩ := bnd g_18
    refine J_putI (pc := 75) (i := 3) clF0 (by decide) rfl fl_RX0_22 rfl rfl h75 dX0_turn_75 ?_
    refine J_aload_n (pc := 78) (q := 0) rfl rfl dX0_turn_78 ?_
    obtain ⟨a79, h79, g_20⟩ := bnd g_19
    refine J_getI (pc := 79) (i := 1) clF0 (by decide) rfl fl_RX0_29 h79 dX0_turn_79 ?_
    obtain ⟨r82, M82, h82, g_21⟩ := bnd2 g_20
    refine J_callSI (pc := 82) (as := [vI a79]) (tX6_isRunnersTurn (d := d)  h82) cf_X6_isRunnersTurn cv_X6_isRunnersTurn ml_RX0_67 (by omega) (Nat.le_of_ble_eq_true rfl) dX0_turn_82 ?_
    refine J_ifeq (pc := 85) (tgt := 101) (by decide) dX0_turn_85 (fun hc85 => ?_) (fun hc85 => ?_)
    · rw [if_pos hc85] at g_21
      refine J_aload_n (pc := 101) (q := 0) rfl rfl dX0_turn_101 ?_
      refine J_dup (pc := 102) rfl dX0_turn_102 ?_
      obtain ⟨a103, h103, g_22⟩ := bnd g_21
      refine J_getI (pc := 103) (i := 2) clF0 (by decide) rfl fl_RX0_42 h103 dX0_turn_103 ?_
      refine J_iload_n (pc := 106) (q := 3) rfl rfl dX0_turn_106 ?_
      refine J_iconst (pc := 107) (v := (3 : Int32)) (by decide) dX0_turn_107 ?_
      refine J_ishr (pc := 108) dX0_turn_108 ?_
      refine J_bipush (pc := 109) (v := (63 : Int32)) (by decide) dX0_turn_109 ?_
      refine J_iand (pc := 111) dX0_turn_111 ?_
      obtain ⟨r112, M112, h112, g_23⟩ := bnd2 g_22
      refine J_callSI (pc := 112) (as := [vI ((r6 >>> ((3 : Int32) &&& 31)) &&& (63 : Int32))]) (tX3_placesOf (d := d)  h112) cf_X3_placesOf cv_X3_placesOf ml_RX0_38 (by omega) (Nat.le_of_ble_eq_true rfl) dX0_turn_112 ?_
      refine J_iconst (pc := 115) (v := (-1 : Int32)) (by decide) dX0_turn_115 ?_
      refine J_ixor (pc := 116) dX0_turn_116 ?_
      refine J_iand (pc := 117) dX0_turn_117 ?_
      obtain ⟨M118, h118, g_24⟩ := bnd g_23
      refine J_putI (pc := 118) (i := 2) clF0 (by decide) rfl fl_RX0_42 rfl rfl h118 dX0_turn_118 ?_
      refine J_sub [0, 3, 4] (lv' := [(0, vR (some x0)), (3, vI r6), (4, vR a16)]) rfl ?_
      exact jX0_turn_b121  g_24
    · rw [if_neg hc85] at g_21
      refine J_aload_n (pc := 88) (q := 0) rfl rfl dX0_turn_88 ?_
      refine J_aload_n (pc := 89) (q := 0) rfl rfl dX0_turn_89 ?_
      refine J_aload (pc := 90) (q := 4) rfl dX0_turn_90 ?_
      obtain ⟨b92, hb92, g_25⟩ := bnd g_21
      obtain ⟨r92, M92, h92, g_26⟩ := bnd2 g_25
      refine J_callVI (pc := 92) (as := [vR a16]) (tX0_knownBehindRunner (d := d)  h92) cf_X0_knownBehindRunner cv_X0_knownBehindRunner clF0 hb92 ml_RX0_71 (by omega) (Nat.le_of_ble_eq_true rfl) dX0_turn_92 ?_
      obtain ⟨M95, h95, g_27⟩ := bnd g_26
      refine J_putI (pc := 95) (i := 2) clF0 (by decide) rfl fl_RX0_42 rfl rfl h95 dX0_turn_95 ?_
      refine J_goto (pc := 98) (tgt := 121) (by decide) dX0_turn_98 ?_
      refine J_sub [0, 3, 4] (lv' := [(0, vR (some x0)), (3, vI r6), (4, vR a16)]) rfl ?_
      exact jX0_turn_b121  g_27
  · rw [if_neg hc11] at g_6
    exact J_vret (pc := 14) (qv_of g_6) dX0_turn_14
set_option maxHeartbeats 4000000 in
set_option maxRecDepth 100000 in
theorem tX0_takeBack {ad : Nat → Nat} {ca : Nat → ClassId} {D : va_G} {FU d : Nat} {N : Mem}  {x0 : Nat} {M : Mem}  (h : fX0_takeBack FU  x0 M = some N) : Ct ad ca D yX0_takeBack cX0_takeBack 1 none (d + 0) [vR (some x0)] M (QV N) := by
  refine Ct_of (by decide) (Nat.le_of_ble_eq_true rfl) ?_
  show J ad ca D cX0_takeBack RX0 1 (d + 0) (Gt ad ca D none (QV N)) 0 [(0, vR (some x0))] [] M
  unfold fX0_takeBack at h
  refine J_aload_n (pc := 0) (q := 0) rfl rfl dX0_takeBack_0 ?_
  obtain ⟨a1, h1, g_1⟩ := bnd h
  refine J_getI (pc := 1) (i := 4) clF0 (by decide) rfl fl_RX0_26 h1 dX0_takeBack_1 ?_
  refine J_ifeq (pc := 4) (tgt := 14) (by decide) dX0_takeBack_4 (fun hc4 => ?_) (fun hc4 => ?_)
  · rw [if_pos hc4] at g_1
    exact J_vret (pc := 14) (qv_of g_1) dX0_takeBack_14
  · rw [if_neg hc4] at g_1
    refine J_aload_n (pc := 7) (q := 0) rfl rfl dX0_takeBack_7 ?_
    obtain ⟨a8, h8, g_2⟩ := bnd g_1
    refine J_getI (pc := 8) (i := 3) clF0 (by decide) rfl fl_RX0_22 h8 dX0_takeBack_8 ?_
    refine J_ifne (pc := 11) (tgt := 15) (by decide) dX0_takeBack_11 (fun hc11 => ?_) (fun hc11 => ?_)
    · rw [if_pos hc11] at g_2
      refine J_aload_n (pc := 15) (q := 0) rfl rfl dX0_takeBack_15 ?_
      refine J_dup (pc := 16) rfl dX0_takeBack_16 ?_
      obtain ⟨a17, h17, g_3⟩ := bnd g_2
      refine J_getI (pc := 17) (i := 4) clF0 (by decide) rfl fl_RX0_26 h17 dX0_takeBack_17 ?_
      refine J_iconst (pc := 20) (v := (1 : Int32)) (by decide) dX0_takeBack_20 ?_
      refine J_isub (pc := 21) dX0_takeBack_21 ?_
      obtain ⟨M22, h22, g_4⟩ := bnd g_3
      refine J_putI (pc := 22) (i := 4) clF0 (by decide) rfl fl_RX0_26 rfl rfl h22 dX0_takeBack_22 ?_
      refine J_aload_n (pc := 25) (q := 0) rfl rfl dX0_takeBack_25 ?_
      refine J_dup (pc := 26) rfl dX0_takeBack_26 ?_
      obtain ⟨a27, h27, g_5⟩ := bnd g_4
      refine J_getI (pc := 27) (i := 3) clF0 (by decide) rfl fl_RX0_22 h27 dX0_takeBack_27 ?_
      refine J_iconst (pc := 30) (v := (1 : Int32)) (by decide) dX0_takeBack_30 ?_
      refine J_isub (pc := 31) dX0_takeBack_31 ?_
      obtain ⟨M32, h32, g_6⟩ := bnd g_5
      refine J_putI (pc := 32) (i := 3) clF0 (by decide) rfl fl_RX0_22 rfl rfl h32 dX0_takeBack_32 ?_
      refine J_aload_n (pc := 35) (q := 0) rfl rfl dX0_takeBack_35 ?_
      refine J_aload_n (pc := 36) (q := 0) rfl rfl dX0_takeBack_36 ?_
      obtain ⟨a37, h37, g_7⟩ := bnd g_6
      refine J_getR (pc := 37) (i := 5) clF0 (by decide) rfl fl_RX0_9 h37 dX0_takeBack_37 ?_
      refine J_aload_n (pc := 40) (q := 0) rfl rfl dX0_takeBack_40 ?_
      obtain ⟨a41, h41, g_8⟩ := bnd g_7
      refine J_getI (pc := 41) (i := 3) clF0 (by decide) rfl fl_RX0_22 h41 dX0_takeBack_41 ?_
      refine J_bipush (pc := 44) (v := (64 : Int32)) (by decide) dX0_takeBack_44 ?_
      refine J_irem (pc := 46) (by decide) dX0_takeBack_46 ?_
      obtain ⟨a47, h47, g_9⟩ := bnd g_8
      refine J_ald0 (pc := 47) h47 dX0_takeBack_47 ?_
      obtain ⟨M48, h48, g_10⟩ := bnd g_9
      refine J_putI (pc := 48) (i := 1) clF0 (by decide) rfl fl_RX0_29 rfl rfl h48 dX0_takeBack_48 ?_
      refine J_aload_n (pc := 51) (q := 0) rfl rfl dX0_takeBack_51 ?_
      refine J_aload_n (pc := 52) (q := 0) rfl rfl dX0_takeBack_52 ?_
      obtain ⟨a53, h53, g_11⟩ := bnd g_10
      refine J_getR (pc := 53) (i := 6) clF0 (by decide) rfl fl_RX0_15 h53 dX0_takeBack_53 ?_
      refine J_aload_n (pc := 56) (q := 0) rfl rfl dX0_takeBack_56 ?_
      obtain ⟨a57, h57, g_12⟩ := bnd g_11
      refine J_getI (pc := 57) (i := 3) clF0 (by decide) rfl fl_RX0_22 h57 dX0_takeBack_57 ?_
      refine J_bipush (pc := 60) (v := (64 : Int32)) (by decide) dX0_takeBack_60 ?_
      refine J_irem (pc := 62) (by decide) dX0_takeBack_62 ?_
      obtain ⟨a63, h63, g_13⟩ := bnd g_12
      refine J_ald0 (pc := 63) h63 dX0_takeBack_63 ?_
      obtain ⟨M64, h64, g_14⟩ := bnd g_13
      refine J_putI (pc := 64) (i := 2) clF0 (by decide) rfl fl_RX0_42 rfl rfl h64 dX0_takeBack_64 ?_
      exact J_vret (pc := 67) (qv_of g_14) dX0_takeBack_67
    · rw [if_neg hc11] at g_2
      exact J_vret (pc := 14) (qv_of g_2) dX0_takeBack_14
set_option maxHeartbeats 4000000 in
set_option maxRecDepth 100000 in
theorem tX3_has {ad : Nat → Nat} {ca : Nat → ClassId} {D : va_G} {FU d : Nat} {r : Int32} {N : Mem}  {x0 : Nat} {x1 : Int32} {M : Mem}  (h : fX3_has FU  x0 x1 M = some (r, N)) : Ct ad ca D yX3_has cX3_has 2 (some .boolean) (d + 0) [vR (some x0), vI x1] M (QI r N) := by
  refine Ct_of (by decide) (Nat.le_of_ble_eq_true rfl) ?_
  show J ad ca D cX3_has RX3 2 (d + 0) (Gt ad ca D (some .boolean) (QI r N)) 0 [(0, vR (some x0)), (1, vI x1)] [] M
  unfold fX3_has at h
  refine J_iload_n (pc := 0) (q := 1) rfl rfl dX3_has_0 ?_
  refine J_iflt (pc := 1) (tgt := 16) (by decide) dX3_has_1 (fun hc1 => ?_) (fun hc1 => ?_)
  · rw [if_pos hc1] at h
    refine J_iconst (pc := 16) (v := (0 : Int32)) (by decide) dX3_has_16 ?_
    exact J_zret (pc := 17) (Or.inl rfl) (qi_of h) dX3_has_17
  · rw [if_neg hc1] at h
    refine J_iload_n (pc := 4) (q := 1) rfl rfl dX3_has_4 ?_
    refine J_aload_n (pc := 5) (q := 0) rfl rfl dX3_has_5 ?_
    obtain ⟨a6, h6, g_1⟩ := bnd h
    refine J_getI (pc := 6) (i := 0) clF3 (by decide) rfl fl_RX3_40 h6 dX3_has_6 ?_
    refine J_icge (pc := 9) (tgt := 16) (by decide) dX3_has_9 (fun hc9 => ?_) (fun hc9 => ?_)
    · rw [if_pos hc9] at g_1
      refine J_iconst (pc := 16) (v := (0 : Int32)) (by decide) dX3_has_16 ?_
      exact J_zret (pc := 17) (Or.inl rfl) (qi_of g_1) dX3_has_17
    · rw [if_neg hc9] at g_1
      refine J_iconst (pc := 12) (v := (1 : Int32)) (by decide) dX3_has_12 ?_
      refine J_goto (pc := 13) (tgt := 17) (by decide) dX3_has_13 ?_
      exact J_zret (pc := 17) (Or.inr rfl) (qi_of g_1) dX3_has_17
set_option maxHeartbeats 4000000 in
set_option maxRecDepth 100000 in
theorem jX3_isPair_b46 {ad : Nat → Nat} {ca : Nat → ClassId} {D : va_G} {FU d : Nat} {r : Int32} {N : Mem}    {M : Mem}   (h : fX3_isPair_b46 FU  M = some (r, N)) : J ad ca D cX3_isPair RX3 4 (d + 1) (Gt ad ca D (some .boolean) (QI r N)) 46 [] [] M := by
  unfold fX3_isPair_b46 at h
  refine J_iconst (pc := 46) (v := (1 : Int32)) (by decide) dX3_isPair_46 ?_
  refine J_goto (pc := 47) (tgt := 51) (by decide) dX3_isPair_47 ?_
  exact J_zret (pc := 51) (Or.inr rfl) (qi_of h) dX3_isPair_51
set_option maxHeartbeats 4000000 in
set_option maxRecDepth 100000 in
theorem tX3_isPair {ad : Nat → Nat} {ca : Nat → ClassId} {D : va_G} {FU d : Nat} {r : Int32} {N : Mem}  {x0 : Nat} {x1 : Int32} {M : Mem}  (h : fX3_isPair FU  x0 x1 M = some (r, N)) : Ct ad ca D yX3_isPair cX3_isPair 4 (some .boolean) (d + 1) [vR (some x0), vI x1] M (QI r N) := by
  refine Ct_of (by decide) (Nat.le_of_ble_eq_true rfl) ?_
  show J ad ca D cX3_isPair RX3 4 (d + 1) (Gt ad ca D (some .boolean) (QI r N)) 0 [(0, vR (some x0)), (1, vI x1)] [] M
  unfold fX3_isPair at h
  refine J_iload_n (pc := 0) (q := 1) rfl rfl dX3_isPair_0 ?_
  refine J_iconst (pc := 1) (v := (3 : Int32)) (by decide) dX3_isPair_1 ?_
  refine J_ishr (pc := 2) dX3_isPair_2 ?_
  refine J_istore_n (pc := 3) rfl (by decide) (lv' := [(0, vR (some x0)), (1, vI x1), (2, vI (x1 >>> ((3 : Int32) &&& 31)))]) rfl dX3_isPair_3 ?_
  refine J_iload_n (pc := 4) (q := 1) rfl rfl dX3_isPair_4 ?_
  refine J_bipush (pc := 5) (v := (7 : Int32)) (by decide) dX3_isPair_5 ?_
  refine J_iand (pc := 7) dX3_isPair_7 ?_
  refine J_istore_n (pc := 8) rfl (by decide) (lv' := [(0, vR (some x0)), (1, vI x1), (2, vI (x1 >>> ((3 : Int32) &&& 31))), (3, vI (x1 &&& (7 : Int32)))]) rfl dX3_isPair_8 ?_
  refine J_aload_n (pc := 9) (q := 0) rfl rfl dX3_isPair_9 ?_
  refine J_iload_n (pc := 10) (q := 2) rfl rfl dX3_isPair_10 ?_
  obtain ⟨b11, hb11, g_1⟩ := bnd h
  obtain ⟨r11, M11, h11, g_2⟩ := bnd2 g_1
  refine J_callVI (pc := 11) (as := [vI (x1 >>> ((3 : Int32) &&& 31))]) (tX3_has (d := d)  h11) cf_X3_has cv_X3_has clF3 hb11 ml_RX3_46 (by omega) (Nat.le_of_ble_eq_true rfl) dX3_isPair_11 ?_
  refine J_ifeq (pc := 14) (tgt := 50) (by decide) dX3_isPair_14 (fun hc14 => ?_) (fun hc14 => ?_)
  · rw [if_pos hc14] at g_2
    refine J_iconst (pc := 50) (v := (0 : Int32)) (by decide) dX3_isPair_50 ?_
    exact J_zret (pc := 51) (Or.inl rfl) (qi_of g_2) dX3_isPair_51
  · rw [if_neg hc14] at g_2
    refine J_aload_n (pc := 17) (q := 0) rfl rfl dX3_isPair_17 ?_
    refine J_iload_n (pc := 18) (q := 3) rfl rfl dX3_isPair_18 ?_
    obtain ⟨b19, hb19, g_3⟩ := bnd g_2
    obtain ⟨r19, M19, h19, g_4⟩ := bnd2 g_3
    refine J_callVI (pc := 19) (as := [vI (x1 &&& (7 : Int32))]) (tX3_has (d := d)  h19) cf_X3_has cv_X3_has clF3 hb19 ml_RX3_46 (by omega) (Nat.le_of_ble_eq_true rfl) dX3_isPair_19 ?_
    refine J_ifeq (pc := 22) (tgt := 50) (by decide) dX3_isPair_22 (fun hc22 => ?_) (fun hc22 => ?_)
    · rw [if_pos hc22] at g_4
      refine J_iconst (pc := 50) (v := (0 : Int32)) (by decide) dX3_isPair_50 ?_
      exact J_zret (pc := 51) (Or.inl rfl) (qi_of g_4) dX3_isPair_51
    · rw [if_neg hc22] at g_4
      refine J_aload_n (pc := 25) (q := 0) rfl rfl dX3_isPair_25 ?_
      obtain ⟨a26, h26, g_5⟩ := bnd g_4
      refine J_getI (pc := 26) (i := 10) clF3 (by decide) rfl fl_RX3_33 h26 dX3_isPair_26 ?_
      refine J_iconst (pc := 29) (v := (1 : Int32)) (by decide) dX3_isPair_29 ?_
      refine J_icne (pc := 30) (tgt := 41) (by decide) dX3_isPair_30 (fun hc30 => ?_) (fun hc30 => ?_)
      · rw [if_pos hc30] at g_5
        refine J_iload_n (pc := 41) (q := 2) rfl rfl dX3_isPair_41 ?_
        refine J_iload_n (pc := 42) (q := 3) rfl rfl dX3_isPair_42 ?_
        refine J_icgt (pc := 43) (tgt := 50) (by decide) dX3_isPair_43 (fun hc43 => ?_) (fun hc43 => ?_)
        · rw [if_pos hc43] at g_5
          refine J_iconst (pc := 50) (v := (0 : Int32)) (by decide) dX3_isPair_50 ?_
          exact J_zret (pc := 51) (Or.inl rfl) (qi_of g_5) dX3_isPair_51
        · rw [if_neg hc43] at g_5
          refine J_sub [] (lv' := []) rfl ?_
          exact jX3_isPair_b46  g_5
      · rw [if_neg hc30] at g_5
        refine J_iload_n (pc := 33) (q := 2) rfl rfl dX3_isPair_33 ?_
        refine J_iload_n (pc := 34) (q := 3) rfl rfl dX3_isPair_34 ?_
        refine J_icne (pc := 35) (tgt := 50) (by decide) dX3_isPair_35 (fun hc35 => ?_) (fun hc35 => ?_)
        · rw [if_pos hc35] at g_5
          refine J_iconst (pc := 50) (v := (0 : Int32)) (by decide) dX3_isPair_50 ?_
          exact J_zret (pc := 51) (Or.inl rfl) (qi_of g_5) dX3_isPair_51
        · rw [if_neg hc35] at g_5
          refine J_goto (pc := 38) (tgt := 46) (by decide) dX3_isPair_38 ?_
          refine J_sub [] (lv' := []) rfl ?_
          exact jX3_isPair_b46  g_5
set_option maxHeartbeats 4000000 in
set_option maxRecDepth 100000 in
theorem jX1_reckonReached_L39 {ad : Nat → Nat} {ca : Nat → ClassId} {D : va_G} {FU d : Nat} {N : Mem}  {k9 : Int32 → Mem → Option (Mem)} {x0 : Nat} {x1 : Int32} {x2 : Int32} {x3 : Int32} {x4 : Int32}  (hk9 : ∀ (y2 : Int32) (M : Mem), k9 y2 M = some N → J ad ca D cX1_reckonReached RX1 6 (d + 3) (Gt ad ca D none (QV N)) 9 [(0, vR (some x0)), (1, vI x1), (2, vI y2)] [] M) : ∀ (F : Nat) (x5 : Int32) (M : Mem), fX1_reckonReached_L39 FU  k9 x0 x1 x2 x3 x4 F x5 M = some N → J ad ca D cX1_reckonReached RX1 6 (d + 3) (Gt ad ca D none (QV N)) 39 [(0, vR (some x0)), (1, vI x1), (2, vI x2), (3, vI x3), (4, vI x4), (5, vI x5)] [] M := by
  intro F
  induction F with
  | zero =>
    intro x5 M h
    rw [fX1_reckonReached_L39] at h
    cases h
  | succ F hk39 =>
    intro x5 M h
    rw [fX1_reckonReached_L39] at h
    refine J_iload (pc := 39) (q := 5) rfl dX1_reckonReached_39 ?_
    refine J_iload (pc := 41) (q := 4) rfl dX1_reckonReached_41 ?_
    refine J_icge (pc := 43) (tgt := 71) (by decide) dX1_reckonReached_43 (fun hc43 => ?_) (fun hc43 => ?_)
    · rw [if_pos hc43] at h
      refine J_iinc (pc := 71) (q := 2) rfl (v := x2 + (1 : Int32)) rfl (by decide) (lv' := [(0, vR (some x0)), (1, vI x1), (3, vI x3), (4, vI x4), (5, vI x5), (2, vI (x2 + (1 : Int32)))]) rfl dX1_reckonReached_71 ?_
      refine J_goto (pc := 74) (tgt := 9) (by decide) dX1_reckonReached_74 ?_
      refine J_sub [0, 1, 5] (lv' := [(0, vR (some x0)), (1, vI x1), (2, vI (x2 + (1 : Int32)))]) rfl ?_
      exact hk9 _ _ h
    · rw [if_neg hc43] at h
      refine J_aload_n (pc := 46) (q := 0) rfl rfl dX1_reckonReached_46 ?_
      obtain ⟨a47, h47, g_1⟩ := bnd h
      refine J_getR (pc := 47) (i := 4) clF1 (by decide) rfl fl_RX1_22 h47 dX1_reckonReached_47 ?_
      refine J_iload (pc := 50) (q := 4) rfl dX1_reckonReached_50 ?_
      refine J_iload (pc := 52) (q := 5) rfl dX1_reckonReached_52 ?_
      refine J_iadd (pc := 54) dX1_reckonReached_54 ?_
      refine J_aload_n (pc := 55) (q := 0) rfl rfl dX1_reckonReached_55 ?_
      obtain ⟨a56, h56, g_2⟩ := bnd g_1
      refine J_getR (pc := 56) (i := 4) clF1 (by decide) rfl fl_RX1_22 h56 dX1_reckonReached_56 ?_
      refine J_iload (pc := 59) (q := 5) rfl dX1_reckonReached_59 ?_
      obtain ⟨a61, h61, g_3⟩ := bnd g_2
      refine J_ald0 (pc := 61) h61 dX1_reckonReached_61 ?_
      refine J_iload_n (pc := 62) (q := 3) rfl rfl dX1_reckonReached_62 ?_
      refine J_ior (pc := 63) dX1_reckonReached_63 ?_
      obtain ⟨M64, h64, g_4⟩ := bnd g_3
      refine J_ast0 (pc := 64) h64 dX1_reckonReached_64 ?_
      refine J_iinc (pc := 65) (q := 5) rfl (v := x5 + (1 : Int32)) rfl (by decide) (lv' := [(0, vR (some x0)), (1, vI x1), (2, vI x2), (3, vI x3), (4, vI x4), (5, vI (x5 + (1 : Int32)))]) rfl dX1_reckonReached_65 ?_
      refine J_goto (pc := 68) (tgt := 39) (by decide) dX1_reckonReached_68 ?_
      exact hk39 _ _ g_4
set_option maxHeartbeats 4000000 in
set_option maxRecDepth 100000 in
theorem jX1_reckonReached_L9 {ad : Nat → Nat} {ca : Nat → ClassId} {D : va_G} {FU d : Nat} {N : Mem}   {x0 : Nat} {x1 : Int32}   : ∀ (F : Nat) (x2 : Int32) (M : Mem), fX1_reckonReached_L9 FU  x0 x1 F x2 M = some N → J ad ca D cX1_reckonReached RX1 6 (d + 3) (Gt ad ca D none (QV N)) 9 [(0, vR (some x0)), (1, vI x1), (2, vI x2)] [] M := by
  intro F
  induction F with
  | zero =>
    intro x2 M h
    rw [fX1_reckonReached_L9] at h
    cases h
  | succ F hk9 =>
    intro x2 M h
    rw [fX1_reckonReached_L9] at h
    refine J_iload_n (pc := 9) (q := 2) rfl rfl dX1_reckonReached_9 ?_
    refine J_aload_n (pc := 10) (q := 0) rfl rfl dX1_reckonReached_10 ?_
    obtain ⟨a11, h11, g_5⟩ := bnd h
    refine J_getR (pc := 11) (i := 1) clF1 (by decide) rfl fl_RX1_25 h11 dX1_reckonReached_11 ?_
    obtain ⟨a14, h14, g_6⟩ := bnd g_5
    refine J_getI (pc := 14) (i := 0) clF3 (by decide) rfl fl_RX1_32 h14 dX1_reckonReached_14 ?_
    refine J_icge (pc := 17) (tgt := 77) (by decide) dX1_reckonReached_17 (fun hc17 => ?_) (fun hc17 => ?_)
    · rw [if_pos hc17] at g_6
      exact J_vret (pc := 77) (qv_of g_6) dX1_reckonReached_77
    · rw [if_neg hc17] at g_6
      refine J_aload_n (pc := 20) (q := 0) rfl rfl dX1_reckonReached_20 ?_
      obtain ⟨a21, h21, g_7⟩ := bnd g_6
      refine J_getR (pc := 21) (i := 1) clF1 (by decide) rfl fl_RX1_25 h21 dX1_reckonReached_21 ?_
      refine J_iload_n (pc := 24) (q := 2) rfl rfl dX1_reckonReached_24 ?_
      refine J_iload_n (pc := 25) (q := 1) rfl rfl dX1_reckonReached_25 ?_
      refine J_iconst (pc := 26) (v := (0 : Int32)) (by decide) dX1_reckonReached_26 ?_
      obtain ⟨b27, hb27, g_8⟩ := bnd g_7
      obtain ⟨r27, M27, h27, g_9⟩ := bnd2 g_8
      refine J_callVI (pc := 27) (as := [vI x2, vI x1, vI (0 : Int32)]) (tX3_reachOf (d := d)  h27) cf_X3_reachOf cv_X3_reachOf clF3 hb27 ml_RX1_65 (by omega) (Nat.le_of_ble_eq_true rfl) dX1_reckonReached_27 ?_
      refine J_istore_n (pc := 30) rfl (by decide) (lv' := [(0, vR (some x0)), (1, vI x1), (2, vI x2), (3, vI r27)]) rfl dX1_reckonReached_30 ?_
      refine J_iconst (pc := 31) (v := (1 : Int32)) (by decide) dX1_reckonReached_31 ?_
      refine J_iload_n (pc := 32) (q := 2) rfl rfl dX1_reckonReached_32 ?_
      refine J_ishl (pc := 33) dX1_reckonReached_33 ?_
      refine J_istore (pc := 34) (by decide) (lv' := [(0, vR (some x0)), (1, vI x1), (2, vI x2), (3, vI r27), (4, vI ((1 : Int32) <<< (x2 &&& 31)))]) rfl dX1_reckonReached_34 ?_
      refine J_iconst (pc := 36) (v := (0 : Int32)) (by decide) dX1_reckonReached_36 ?_
      refine J_istore (pc := 37) (by decide) (lv' := [(0, vR (some x0)), (1, vI x1), (2, vI x2), (3, vI r27), (4, vI ((1 : Int32) <<< (x2 &&& 31))), (5, vI (0 : Int32))]) rfl dX1_reckonReached_37 ?_
      exact jX1_reckonReached_L39 hk9 FU _ _ g_9
set_option maxHeartbeats 4000000 in
set_option maxRecDepth 100000 in
theorem tX1_reckonReached {ad : Nat → Nat} {ca : Nat → ClassId} {D : va_G} {FU d : Nat} {N : Mem}  {x0 : Nat} {x1 : Int32} {M : Mem}  (h : fX1_reckonReached FU  x0 x1 M = some N) : Ct ad ca D yX1_reckonReached cX1_reckonReached 6 none (d + 3) [vR (some x0), vI x1] M (QV N) := by
  refine Ct_of (by decide) (Nat.le_of_ble_eq_true rfl) ?_
  show J ad ca D cX1_reckonReached RX1 6 (d + 3) (Gt ad ca D none (QV N)) 0 [(0, vR (some x0)), (1, vI x1)] [] M
  unfold fX1_reckonReached at h
  refine J_aload_n (pc := 0) (q := 0) rfl rfl dX1_reckonReached_0 ?_
  obtain ⟨a1, h1, g_10⟩ := bnd h
  refine J_getR (pc := 1) (i := 4) clF1 (by decide) rfl fl_RX1_22 h1 dX1_reckonReached_1 ?_
  refine J_iconst (pc := 4) (v := (0 : Int32)) (by decide) dX1_reckonReached_4 ?_
  refine J_iconst (pc := 5) (v := (0 : Int32)) (by decide) dX1_reckonReached_5 ?_
  obtain ⟨M6, h6, g_11⟩ := bnd g_10
  refine J_ast0 (pc := 6) h6 dX1_reckonReached_6 ?_
  refine J_iconst (pc := 7) (v := (0 : Int32)) (by decide) dX1_reckonReached_7 ?_
  refine J_istore_n (pc := 8) rfl (by decide) (lv' := [(0, vR (some x0)), (1, vI x1), (2, vI (0 : Int32))]) rfl dX1_reckonReached_8 ?_
  exact jX1_reckonReached_L9  FU _ _ g_11
set_option maxHeartbeats 4000000 in
set_option maxRecDepth 100000 in
theorem jX1_isSureBehind_b70 {ad : Nat → Nat} {ca : Nat → ClassId} {D : va_G} {FU d : Nat} {r : Int32} {N : Mem}  {k28 : Int32 → Mem → Option (Int32 × Mem)} {x0 : Nat} {x2 : Int32} {x3 : Int32} {x4 : Int32} {M : Mem}  (hk28 : ∀ (y4 : Int32) (M : Mem), k28 y4 M = some (r, N) → J ad ca D cX1_isSureBehind RX1 5 (d + 0) (Gt ad ca D (some .boolean) (QI r N)) 28 [(0, vR (some x0)), (2, vI x2), (3, vI x3), (4, vI y4)] [] M) (h : fX1_isSureBehind_b70 FU  k28 x0 x2 x3 x4 M = some (r, N)) : J ad ca D cX1_isSureBehind RX1 5 (d + 0) (Gt ad ca D (some .boolean) (QI r N)) 70 [(0, vR (some x0)), (2, vI x2), (3, vI x3), (4, vI x4)] [] M := by
  unfold fX1_isSureBehind_b70 at h
  refine J_iinc (pc := 70) (q := 3) rfl (v := x4 + (1 : Int32)) rfl (by decide) (lv' := [(0, vR (some x0)), (2, vI x2), (3, vI x3), (4, vI (x4 + (1 : Int32)))]) rfl dX1_isSureBehind_70 ?_
  refine J_goto (pc := 73) (tgt := 28) (by decide) dX1_isSureBehind_73 ?_
  exact hk28 _ _ h
set_option maxHeartbeats 4000000 in
set_option maxRecDepth 100000 in
theorem jX1_isSureBehind_L28 {ad : Nat → Nat} {ca : Nat → ClassId} {D : va_G} {FU d : Nat} {r : Int32} {N : Mem}   {x0 : Nat} {x2 : Int32} {x3 : Int32}   : ∀ (F : Nat) (x4 : Int32) (M : Mem), fX1_isSureBehind_L28 FU  x0 x2 x3 F x4 M = some (r, N) → J ad ca D cX1_isSureBehind RX1 5 (d + 0) (Gt ad ca D (some .boolean) (QI r N)) 28 [(0, vR (some x0)), (2, vI x2), (3, vI x3), (4, vI x4)] [] M := by
  intro F
  induction F with
  | zero =>
    intro x4 M h
    rw [fX1_isSureBehind_L28] at h
    cases h
  | succ F hk28 =>
    intro x4 M h
    rw [fX1_isSureBehind_L28] at h
    refine J_iload (pc := 28) (q := 3) rfl dX1_isSureBehind_28 ?_
    refine J_aload_n (pc := 30) (q := 0) rfl rfl dX1_isSureBehind_30 ?_
    obtain ⟨a31, h31, g_1⟩ := bnd h
    refine J_getR (pc := 31) (i := 1) clF1 (by decide) rfl fl_RX1_25 h31 dX1_isSureBehind_31 ?_
    obtain ⟨a34, h34, g_2⟩ := bnd g_1
    refine J_getI (pc := 34) (i := 0) clF3 (by decide) rfl fl_RX1_32 h34 dX1_isSureBehind_34 ?_
    refine J_icge (pc := 37) (tgt := 76) (by decide) dX1_isSureBehind_37 (fun hc37 => ?_) (fun hc37 => ?_)
    · rw [if_pos hc37] at g_2
      refine J_iconst (pc := 76) (v := (1 : Int32)) (by decide) dX1_isSureBehind_76 ?_
      exact J_zret (pc := 77) (Or.inr rfl) (qi_of g_2) dX1_isSureBehind_77
    · rw [if_neg hc37] at g_2
      refine J_iload_n (pc := 40) (q := 1) rfl rfl dX1_isSureBehind_40 ?_
      refine J_aload_n (pc := 41) (q := 0) rfl rfl dX1_isSureBehind_41 ?_
      obtain ⟨a42, h42, g_3⟩ := bnd g_2
      refine J_getI (pc := 42) (i := 5) clF1 (by decide) rfl fl_RX1_51 h42 dX1_isSureBehind_42 ?_
      refine J_iand (pc := 45) dX1_isSureBehind_45 ?_
      refine J_iconst (pc := 46) (v := (1 : Int32)) (by decide) dX1_isSureBehind_46 ?_
      refine J_iload (pc := 47) (q := 3) rfl dX1_isSureBehind_47 ?_
      refine J_ishl (pc := 49) dX1_isSureBehind_49 ?_
      refine J_iand (pc := 50) dX1_isSureBehind_50 ?_
      refine J_ifeq (pc := 51) (tgt := 70) (by decide) dX1_isSureBehind_51 (fun hc51 => ?_) (fun hc51 => ?_)
      · rw [if_pos hc51] at g_3
        exact jX1_isSureBehind_b70 hk28 g_3
      · rw [if_neg hc51] at g_3
        refine J_aload_n (pc := 54) (q := 0) rfl rfl dX1_isSureBehind_54 ?_
        obtain ⟨a55, h55, g_4⟩ := bnd g_3
        refine J_getR (pc := 55) (i := 2) clF1 (by decide) rfl fl_RX1_15 h55 dX1_isSureBehind_55 ?_
        refine J_iload_n (pc := 58) (q := 2) rfl rfl dX1_isSureBehind_58 ?_
        refine J_iconst (pc := 59) (v := (1 : Int32)) (by decide) dX1_isSureBehind_59 ?_
        refine J_iload (pc := 60) (q := 3) rfl dX1_isSureBehind_60 ?_
        refine J_ishl (pc := 62) dX1_isSureBehind_62 ?_
        refine J_iadd (pc := 63) dX1_isSureBehind_63 ?_
        obtain ⟨a64, h64, g_5⟩ := bnd g_4
        refine J_ald0 (pc := 64) h64 dX1_isSureBehind_64 ?_
        refine J_ifge (pc := 65) (tgt := 70) (by decide) dX1_isSureBehind_65 (fun hc65 => ?_) (fun hc65 => ?_)
        · rw [if_pos hc65] at g_5
          exact jX1_isSureBehind_b70 hk28 g_5
        · rw [if_neg hc65] at g_5
          refine J_iconst (pc := 68) (v := (0 : Int32)) (by decide) dX1_isSureBehind_68 ?_
          exact J_zret (pc := 69) (Or.inl rfl) (qi_of g_5) dX1_isSureBehind_69
set_option maxHeartbeats 4000000 in
set_option maxRecDepth 100000 in
theorem tX1_isSureBehind {ad : Nat → Nat} {ca : Nat → ClassId} {D : va_G} {FU d : Nat} {r : Int32} {N : Mem}  {x0 : Nat} {x1 : Int32} {x2 : Int32} {M : Mem}  (h : fX1_isSureBehind FU  x0 x1 x2 M = some (r, N)) : Ct ad ca D yX1_isSureBehind cX1_isSureBehind 5 (some .boolean) (d + 0) [vR (some x0), vI x1, vI x2] M (QI r N) := by
  refine Ct_of (by decide) (Nat.le_of_ble_eq_true rfl) ?_
  show J ad ca D cX1_isSureBehind RX1 5 (d + 0) (Gt ad ca D (some .boolean) (QI r N)) 0 [(0, vR (some x0)), (1, vI x1), (2, vI x2)] [] M
  unfold fX1_isSureBehind at h
  refine J_iload_n (pc := 0) (q := 1) rfl rfl dX1_isSureBehind_0 ?_
  refine J_bipush (pc := 1) (v := (64 : Int32)) (by decide) dX1_isSureBehind_1 ?_
  refine J_imul (pc := 3) dX1_isSureBehind_3 ?_
  refine J_istore_n (pc := 4) rfl (by decide) (lv' := [(0, vR (some x0)), (1, vI x1), (2, vI x2), (3, vI (x1 * (64 : Int32)))]) rfl dX1_isSureBehind_4 ?_
  refine J_aload_n (pc := 5) (q := 0) rfl rfl dX1_isSureBehind_5 ?_
  obtain ⟨a6, h6, g_6⟩ := bnd h
  refine J_getR (pc := 6) (i := 2) clF1 (by decide) rfl fl_RX1_15 h6 dX1_isSureBehind_6 ?_
  refine J_iload_n (pc := 9) (q := 3) rfl rfl dX1_isSureBehind_9 ?_
  refine J_iload_n (pc := 10) (q := 2) rfl rfl dX1_isSureBehind_10 ?_
  refine J_aload_n (pc := 11) (q := 0) rfl rfl dX1_isSureBehind_11 ?_
  obtain ⟨a12, h12, g_7⟩ := bnd g_6
  refine J_getI (pc := 12) (i := 5) clF1 (by decide) rfl fl_RX1_51 h12 dX1_isSureBehind_12 ?_
  refine J_iconst (pc := 15) (v := (-1 : Int32)) (by decide) dX1_isSureBehind_15 ?_
  refine J_ixor (pc := 16) dX1_isSureBehind_16 ?_
  refine J_iand (pc := 17) dX1_isSureBehind_17 ?_
  refine J_iadd (pc := 18) dX1_isSureBehind_18 ?_
  obtain ⟨a19, h19, g_8⟩ := bnd g_7
  refine J_ald0 (pc := 19) h19 dX1_isSureBehind_19 ?_
  refine J_ifge (pc := 20) (tgt := 25) (by decide) dX1_isSureBehind_20 (fun hc20 => ?_) (fun hc20 => ?_)
  · rw [if_pos hc20] at g_8
    refine J_iconst (pc := 25) (v := (0 : Int32)) (by decide) dX1_isSureBehind_25 ?_
    refine J_istore (pc := 26) (by decide) (lv' := [(0, vR (some x0)), (1, vI x1), (2, vI x2), (3, vI (x1 * (64 : Int32))), (4, vI (0 : Int32))]) rfl dX1_isSureBehind_26 ?_
    refine J_sub [0, 2, 3, 4] (lv' := [(0, vR (some x0)), (2, vI x2), (3, vI (x1 * (64 : Int32))), (4, vI (0 : Int32))]) rfl ?_
    exact jX1_isSureBehind_L28  FU _ _ g_8
  · rw [if_neg hc20] at g_8
    refine J_iconst (pc := 23) (v := (0 : Int32)) (by decide) dX1_isSureBehind_23 ?_
    exact J_zret (pc := 24) (Or.inl rfl) (qi_of g_8) dX1_isSureBehind_24
set_option maxHeartbeats 4000000 in
set_option maxRecDepth 100000 in
theorem jX1_findMoved_b70 {ad : Nat → Nat} {ca : Nat → ClassId} {D : va_G} {FU d : Nat} {N : Mem}  {k22 : Int32 → Int32 → Mem → Option (Mem)} {x0 : Nat} {x1 : Int32} {x2 : Int32} {x3 : Int32} {x4 : Int32} {M : Mem}  (hk22 : ∀ (y3 : Int32) (y4 : Int32) (M : Mem), k22 y3 y4 M = some N → J ad ca D cX1_findMoved RX1 6 (d + 4) (Gt ad ca D none (QV N)) 22 [(0, vR (some x0)), (1, vI x1), (2, vI x2), (3, vI y3), (4, vI y4)] [] M) (h : fX1_findMoved_b70 FU  k22 x0 x1 x2 x3 x4 M = some N) : J ad ca D cX1_findMoved RX1 6 (d + 4) (Gt ad ca D none (QV N)) 70 [(0, vR (some x0)), (1, vI x1), (2, vI x2), (3, vI x3), (4, vI x4)] [] M := by
  unfold fX1_findMoved_b70 at h
  refine J_iinc (pc := 70) (q := 4) rfl (v := x4 + (1 : Int32)) rfl (by decide) (lv' := [(0, vR (some x0)), (1, vI x1), (2, vI x2), (3, vI x3), (4, vI (x4 + (1 : Int32)))]) rfl dX1_findMoved_70 ?_
  refine J_goto (pc := 73) (tgt := 22) (by decide) dX1_findMoved_73 ?_
  exact hk22 _ _ _ h
set_option maxHeartbeats 4000000 in
set_option maxRecDepth 100000 in
theorem jX1_findMoved_b154 {ad : Nat → Nat} {ca : Nat → ClassId} {D : va_G} {FU d : Nat} {N : Mem}  {k79 : Int32 → Mem → Option (Mem)} {x0 : Nat} {x1 : Int32} {x2 : Int32} {x3 : Int32} {x4 : Int32} {M : Mem}  (hk79 : ∀ (y4 : Int32) (M : Mem), k79 y4 M = some N → J ad ca D cX1_findMoved RX1 6 (d + 4) (Gt ad ca D none (QV N)) 79 [(0, vR (some x0)), (1, vI x1), (2, vI x2), (3, vI x3), (4, vI y4)] [] M) (h : fX1_findMoved_b154 FU  k79 x0 x1 x2 x3 x4 M = some N) : J ad ca D cX1_findMoved RX1 6 (d + 4) (Gt ad ca D none (QV N)) 154 [(0, vR (some x0)), (1, vI x1), (2, vI x2), (3, vI x3), (4, vI x4)] [] M := by
  unfold fX1_findMoved_b154 at h
  refine J_iinc (pc := 154) (q := 4) rfl (v := x4 + (1 : Int32)) rfl (by decide) (lv' := [(0, vR (some x0)), (1, vI x1), (2, vI x2), (3, vI x3), (4, vI (x4 + (1 : Int32)))]) rfl dX1_findMoved_154 ?_
  refine J_goto (pc := 157) (tgt := 79) (by decide) dX1_findMoved_157 ?_
  exact hk79 _ _ h
set_option maxHeartbeats 4000000 in
set_option maxRecDepth 100000 in
theorem jX1_findMoved_L79 {ad : Nat → Nat} {ca : Nat → ClassId} {D : va_G} {FU d : Nat} {N : Mem}   {x0 : Nat} {x1 : Int32} {x2 : Int32} {x3 : Int32}   : ∀ (F : Nat) (x4 : Int32) (M : Mem), fX1_findMoved_L79 FU  x0 x1 x2 x3 F x4 M = some N → J ad ca D cX1_findMoved RX1 6 (d + 4) (Gt ad ca D none (QV N)) 79 [(0, vR (some x0)), (1, vI x1), (2, vI x2), (3, vI x3), (4, vI x4)] [] M := by
  intro F
  induction F with
  | zero =>
    intro x4 M h
    rw [fX1_findMoved_L79] at h
    cases h
  | succ F hk79 =>
    intro x4 M h
    rw [fX1_findMoved_L79] at h
    refine J_iload (pc := 79) (q := 4) rfl dX1_findMoved_79 ?_
    refine J_aload_n (pc := 81) (q := 0) rfl rfl dX1_findMoved_81 ?_
    obtain ⟨a82, h82, g_1⟩ := bnd h
    refine J_getR (pc := 82) (i := 1) clF1 (by decide) rfl fl_RX1_25 h82 dX1_findMoved_82 ?_
    obtain ⟨b85, hb85, g_2⟩ := bnd g_1
    obtain ⟨r85, M85, h85, g_3⟩ := bnd2 g_2
    refine J_callVI (pc := 85) (as := []) (tX3_allPlaces (d := d)  h85) cf_X3_allPlaces cv_X3_allPlaces clF3 hb85 ml_RX1_61 (by omega) (Nat.le_of_ble_eq_true rfl) dX1_findMoved_85 ?_
    refine J_icgt (pc := 88) (tgt := 160) (by decide) dX1_findMoved_88 (fun hc88 => ?_) (fun hc88 => ?_)
    · rw [if_pos hc88] at g_3
      exact J_vret (pc := 160) (qv_of g_3) dX1_findMoved_160
    · rw [if_neg hc88] at g_3
      refine J_iload_n (pc := 91) (q := 1) rfl rfl dX1_findMoved_91 ?_
      refine J_bipush (pc := 92) (v := (64 : Int32)) (by decide) dX1_findMoved_92 ?_
      refine J_imul (pc := 94) dX1_findMoved_94 ?_
      refine J_iload (pc := 95) (q := 4) rfl dX1_findMoved_95 ?_
      refine J_iadd (pc := 97) dX1_findMoved_97 ?_
      refine J_istore (pc := 98) (by decide) (lv' := [(0, vR (some x0)), (1, vI x1), (2, vI x2), (3, vI x3), (4, vI x4), (5, vI ((x1 * (64 : Int32)) + x4))]) rfl dX1_findMoved_98 ?_
      refine J_aload_n (pc := 100) (q := 0) rfl rfl dX1_findMoved_100 ?_
      obtain ⟨a101, h101, g_4⟩ := bnd g_3
      refine J_getR (pc := 101) (i := 3) clF1 (by decide) rfl fl_RX1_19 h101 dX1_findMoved_101 ?_
      refine J_iload (pc := 104) (q := 5) rfl dX1_findMoved_104 ?_
      obtain ⟨a106, h106, g_5⟩ := bnd g_4
      refine J_ald0 (pc := 106) h106 dX1_findMoved_106 ?_
      refine J_ifne (pc := 107) (tgt := 154) (by decide) dX1_findMoved_107 (fun hc107 => ?_) (fun hc107 => ?_)
      · rw [if_pos hc107] at g_5
        refine J_sub [0, 1, 2, 3, 4] (lv' := [(0, vR (some x0)), (1, vI x1), (2, vI x2), (3, vI x3), (4, vI x4)]) rfl ?_
        exact jX1_findMoved_b154 hk79 g_5
      · rw [if_neg hc107] at g_5
        refine J_iload (pc := 110) (q := 4) rfl dX1_findMoved_110 ?_
        refine J_aload_n (pc := 112) (q := 0) rfl rfl dX1_findMoved_112 ?_
        obtain ⟨a113, h113, g_6⟩ := bnd g_5
        refine J_getI (pc := 113) (i := 5) clF1 (by decide) rfl fl_RX1_51 h113 dX1_findMoved_113 ?_
        refine J_iand (pc := 116) dX1_findMoved_116 ?_
        refine J_iload_n (pc := 117) (q := 3) rfl rfl dX1_findMoved_117 ?_
        refine J_iconst (pc := 118) (v := (-1 : Int32)) (by decide) dX1_findMoved_118 ?_
        refine J_ixor (pc := 119) dX1_findMoved_119 ?_
        refine J_iand (pc := 120) dX1_findMoved_120 ?_
        refine J_ifne (pc := 121) (tgt := 154) (by decide) dX1_findMoved_121 (fun hc121 => ?_) (fun hc121 => ?_)
        · rw [if_pos hc121] at g_6
          refine J_sub [0, 1, 2, 3, 4] (lv' := [(0, vR (some x0)), (1, vI x1), (2, vI x2), (3, vI x3), (4, vI x4)]) rfl ?_
          exact jX1_findMoved_b154 hk79 g_6
        · rw [if_neg hc121] at g_6
          refine J_aload_n (pc := 124) (q := 0) rfl rfl dX1_findMoved_124 ?_
          refine J_iload_n (pc := 125) (q := 1) rfl rfl dX1_findMoved_125 ?_
          refine J_aload_n (pc := 126) (q := 0) rfl rfl dX1_findMoved_126 ?_
          obtain ⟨a127, h127, g_7⟩ := bnd g_6
          refine J_getR (pc := 127) (i := 4) clF1 (by decide) rfl fl_RX1_22 h127 dX1_findMoved_127 ?_
          refine J_iload (pc := 130) (q := 4) rfl dX1_findMoved_130 ?_
          refine J_aload_n (pc := 132) (q := 0) rfl rfl dX1_findMoved_132 ?_
          obtain ⟨a133, h133, g_8⟩ := bnd g_7
          refine J_getI (pc := 133) (i := 5) clF1 (by decide) rfl fl_RX1_51 h133 dX1_findMoved_133 ?_
          refine J_iconst (pc := 136) (v := (-1 : Int32)) (by decide) dX1_findMoved_136 ?_
          refine J_ixor (pc := 137) dX1_findMoved_137 ?_
          refine J_iand (pc := 138) dX1_findMoved_138 ?_
          obtain ⟨a139, h139, g_9⟩ := bnd g_8
          refine J_ald0 (pc := 139) h139 dX1_findMoved_139 ?_
          obtain ⟨b140, hb140, g_10⟩ := bnd g_9
          obtain ⟨r140, M140, h140, g_11⟩ := bnd2 g_10
          refine J_callVI (pc := 140) (as := [vI x1, vI a139]) (tX1_isSureBehind (d := d)  h140) cf_X1_isSureBehind cv_X1_isSureBehind clF1 hb140 ml_RX1_58 (by omega) (Nat.le_of_ble_eq_true rfl) dX1_findMoved_140 ?_
          refine J_ifeq (pc := 143) (tgt := 154) (by decide) dX1_findMoved_143 (fun hc143 => ?_) (fun hc143 => ?_)
          · rw [if_pos hc143] at g_11
            refine J_sub [0, 1, 2, 3, 4] (lv' := [(0, vR (some x0)), (1, vI x1), (2, vI x2), (3, vI x3), (4, vI x4)]) rfl ?_
            exact jX1_findMoved_b154 hk79 g_11
          · rw [if_neg hc143] at g_11
            refine J_aload_n (pc := 146) (q := 0) rfl rfl dX1_findMoved_146 ?_
            obtain ⟨a147, h147, g_12⟩ := bnd g_11
            refine J_getR (pc := 147) (i := 3) clF1 (by decide) rfl fl_RX1_19 h147 dX1_findMoved_147 ?_
            refine J_iload (pc := 150) (q := 5) rfl dX1_findMoved_150 ?_
            refine J_iload_n (pc := 152) (q := 2) rfl rfl dX1_findMoved_152 ?_
            obtain ⟨M153, h153, g_13⟩ := bnd g_12
            refine J_ast0 (pc := 153) h153 dX1_findMoved_153 ?_
            refine J_sub [0, 1, 2, 3, 4] (lv' := [(0, vR (some x0)), (1, vI x1), (2, vI x2), (3, vI x3), (4, vI x4)]) rfl ?_
            exact jX1_findMoved_b154 hk79 g_13
set_option maxHeartbeats 4000000 in
set_option maxRecDepth 100000 in
theorem jX1_findMoved_L22 {ad : Nat → Nat} {ca : Nat → ClassId} {D : va_G} {FU d : Nat} {N : Mem}   {x0 : Nat} {x1 : Int32} {x2 : Int32}   : ∀ (F : Nat) (x3 : Int32) (x4 : Int32) (M : Mem), fX1_findMoved_L22 FU  x0 x1 x2 F x3 x4 M = some N → J ad ca D cX1_findMoved RX1 6 (d + 4) (Gt ad ca D none (QV N)) 22 [(0, vR (some x0)), (1, vI x1), (2, vI x2), (3, vI x3), (4, vI x4)] [] M := by
  intro F
  induction F with
  | zero =>
    intro x3 x4 M h
    rw [fX1_findMoved_L22] at h
    cases h
  | succ F hk22 =>
    intro x3 x4 M h
    rw [fX1_findMoved_L22] at h
    refine J_iload (pc := 22) (q := 4) rfl dX1_findMoved_22 ?_
    refine J_aload_n (pc := 24) (q := 0) rfl rfl dX1_findMoved_24 ?_
    obtain ⟨a25, h25, g_14⟩ := bnd h
    refine J_getR (pc := 25) (i := 1) clF1 (by decide) rfl fl_RX1_25 h25 dX1_findMoved_25 ?_
    obtain ⟨a28, h28, g_15⟩ := bnd g_14
    refine J_getI (pc := 28) (i := 0) clF3 (by decide) rfl fl_RX1_32 h28 dX1_findMoved_28 ?_
    refine J_icge (pc := 31) (tgt := 76) (by decide) dX1_findMoved_31 (fun hc31 => ?_) (fun hc31 => ?_)
    · rw [if_pos hc31] at g_15
      refine J_iconst (pc := 76) (v := (0 : Int32)) (by decide) dX1_findMoved_76 ?_
      refine J_istore (pc := 77) (by decide) (lv' := [(0, vR (some x0)), (1, vI x1), (2, vI x2), (3, vI x3), (4, vI (0 : Int32))]) rfl dX1_findMoved_77 ?_
      exact jX1_findMoved_L79  FU _ _ g_15
    · rw [if_neg hc31] at g_15
      refine J_aload_n (pc := 34) (q := 0) rfl rfl dX1_findMoved_34 ?_
      obtain ⟨a35, h35, g_16⟩ := bnd g_15
      refine J_getI (pc := 35) (i := 5) clF1 (by decide) rfl fl_RX1_51 h35 dX1_findMoved_35 ?_
      refine J_iload (pc := 38) (q := 4) rfl dX1_findMoved_38 ?_
      refine J_ishr (pc := 40) dX1_findMoved_40 ?_
      refine J_iconst (pc := 41) (v := (1 : Int32)) (by decide) dX1_findMoved_41 ?_
      refine J_iand (pc := 42) dX1_findMoved_42 ?_
      refine J_ifeq (pc := 43) (tgt := 70) (by decide) dX1_findMoved_43 (fun hc43 => ?_) (fun hc43 => ?_)
      · rw [if_pos hc43] at g_16
        exact jX1_findMoved_b70 hk22 g_16
      · rw [if_neg hc43] at g_16
        refine J_aload_n (pc := 46) (q := 0) rfl rfl dX1_findMoved_46 ?_
        refine J_iload_n (pc := 47) (q := 1) rfl rfl dX1_findMoved_47 ?_
        refine J_aload_n (pc := 48) (q := 0) rfl rfl dX1_findMoved_48 ?_
        obtain ⟨a49, h49, g_17⟩ := bnd g_16
        refine J_getR (pc := 49) (i := 4) clF1 (by decide) rfl fl_RX1_22 h49 dX1_findMoved_49 ?_
        refine J_iconst (pc := 52) (v := (1 : Int32)) (by decide) dX1_findMoved_52 ?_
        refine J_iload (pc := 53) (q := 4) rfl dX1_findMoved_53 ?_
        refine J_ishl (pc := 55) dX1_findMoved_55 ?_
        obtain ⟨a56, h56, g_18⟩ := bnd g_17
        refine J_ald0 (pc := 56) h56 dX1_findMoved_56 ?_
        obtain ⟨b57, hb57, g_19⟩ := bnd g_18
        obtain ⟨r57, M57, h57, g_20⟩ := bnd2 g_19
        refine J_callVI (pc := 57) (as := [vI x1, vI a56]) (tX1_isSureBehind (d := d)  h57) cf_X1_isSureBehind cv_X1_isSureBehind clF1 hb57 ml_RX1_58 (by omega) (Nat.le_of_ble_eq_true rfl) dX1_findMoved_57 ?_
        refine J_ifeq (pc := 60) (tgt := 70) (by decide) dX1_findMoved_60 (fun hc60 => ?_) (fun hc60 => ?_)
        · rw [if_pos hc60] at g_20
          exact jX1_findMoved_b70 hk22 g_20
        · rw [if_neg hc60] at g_20
          refine J_iload_n (pc := 63) (q := 3) rfl rfl dX1_findMoved_63 ?_
          refine J_iconst (pc := 64) (v := (1 : Int32)) (by decide) dX1_findMoved_64 ?_
          refine J_iload (pc := 65) (q := 4) rfl dX1_findMoved_65 ?_
          refine J_ishl (pc := 67) dX1_findMoved_67 ?_
          refine J_ior (pc := 68) dX1_findMoved_68 ?_
          refine J_istore_n (pc := 69) rfl (by decide) (lv' := [(0, vR (some x0)), (1, vI x1), (2, vI x2), (4, vI x4), (3, vI (x3 ||| ((1 : Int32) <<< (x4 &&& 31))))]) rfl dX1_findMoved_69 ?_
          refine J_sub [0, 1, 2, 4, 3] (lv' := [(0, vR (some x0)), (1, vI x1), (2, vI x2), (3, vI (x3 ||| ((1 : Int32) <<< (x4 &&& 31)))), (4, vI x4)]) rfl ?_
          exact jX1_findMoved_b70 hk22 g_20
set_option maxHeartbeats 4000000 in
set_option maxRecDepth 100000 in
theorem tX1_findMoved {ad : Nat → Nat} {ca : Nat → ClassId} {D : va_G} {FU d : Nat} {N : Mem}  {x0 : Nat} {x1 : Int32} {x2 : Int32} {M : Mem}  (h : fX1_findMoved FU  x0 x1 x2 M = some N) : Ct ad ca D yX1_findMoved cX1_findMoved 6 none (d + 4) [vR (some x0), vI x1, vI x2] M (QV N) := by
  refine Ct_of (by decide) (Nat.le_of_ble_eq_true rfl) ?_
  show J ad ca D cX1_findMoved RX1 6 (d + 4) (Gt ad ca D none (QV N)) 0 [(0, vR (some x0)), (1, vI x1), (2, vI x2)] [] M
  unfold fX1_findMoved at h
  refine J_aload_n (pc := 0) (q := 0) rfl rfl dX1_findMoved_0 ?_
  refine J_aload_n (pc := 1) (q := 0) rfl rfl dX1_findMoved_1 ?_
  obtain ⟨a2, h2, g_21⟩ := bnd h
  refine J_getR (pc := 2) (i := 1) clF1 (by decide) rfl fl_RX1_25 h2 dX1_findMoved_2 ?_
  refine J_iload_n (pc := 5) (q := 1) rfl rfl dX1_findMoved_5 ?_
  obtain ⟨b6, hb6, g_22⟩ := bnd g_21
  obtain ⟨r6, M6, h6, g_23⟩ := bnd2 g_22
  refine J_callVI (pc := 6) (as := [vI x1]) (tX3_seenFrom (d := d)  h6) cf_X3_seenFrom cv_X3_seenFrom clF3 hb6 ml_RX1_47 (by omega) (Nat.le_of_ble_eq_true rfl) dX1_findMoved_6 ?_
  obtain ⟨M9, h9, g_24⟩ := bnd g_23
  refine J_putI (pc := 9) (i := 5) clF1 (by decide) rfl fl_RX1_51 rfl rfl h9 dX1_findMoved_9 ?_
  refine J_aload_n (pc := 12) (q := 0) rfl rfl dX1_findMoved_12 ?_
  refine J_iload_n (pc := 13) (q := 1) rfl rfl dX1_findMoved_13 ?_
  obtain ⟨b14, hb14, g_25⟩ := bnd g_24
  obtain ⟨M14, h14, g_26⟩ := bnd g_25
  refine J_callVV (pc := 14) (as := [vI x1]) (tX1_reckonReached (d := d)  h14) cf_X1_reckonReached cv_X1_reckonReached clF1 hb14 ml_RX1_54 (by omega) (Nat.le_of_ble_eq_true rfl) dX1_findMoved_14 ?_
  refine J_iconst (pc := 17) (v := (0 : Int32)) (by decide) dX1_findMoved_17 ?_
  refine J_istore_n (pc := 18) rfl (by decide) (lv' := [(0, vR (some x0)), (1, vI x1), (2, vI x2), (3, vI (0 : Int32))]) rfl dX1_findMoved_18 ?_
  refine J_iconst (pc := 19) (v := (0 : Int32)) (by decide) dX1_findMoved_19 ?_
  refine J_istore (pc := 20) (by decide) (lv' := [(0, vR (some x0)), (1, vI x1), (2, vI x2), (3, vI (0 : Int32)), (4, vI (0 : Int32))]) rfl dX1_findMoved_20 ?_
  exact jX1_findMoved_L22  FU _ _ _ g_26
set_option maxHeartbeats 4000000 in
set_option maxRecDepth 100000 in
theorem tX1_moved {ad : Nat → Nat} {ca : Nat → ClassId} {D : va_G} {FU d : Nat} {r : Int32} {N : Mem}  {x0 : Int32} {x1 : Int32} {M : Mem}  (h : fX1_moved FU  x0 x1 M = some (r, N)) : Ct ad ca D yX1_moved cX1_moved 2 (some .int) (d + 1) [vI x0, vI x1] M (QI r N) := by
  refine Ct_of (by decide) (Nat.le_of_ble_eq_true rfl) ?_
  show J ad ca D cX1_moved RX1 2 (d + 1) (Gt ad ca D (some .int) (QI r N)) 0 [(0, vI x0), (1, vI x1)] [] M
  unfold fX1_moved at h
  refine J_iload_n (pc := 0) (q := 0) rfl rfl dX1_moved_0 ?_
  refine J_bipush (pc := 1) (v := (64 : Int32)) (by decide) dX1_moved_1 ?_
  refine J_imul (pc := 3) dX1_moved_3 ?_
  refine J_iload_n (pc := 4) (q := 1) rfl rfl dX1_moved_4 ?_
  refine J_iload_n (pc := 5) (q := 0) rfl rfl dX1_moved_5 ?_
  obtain ⟨r6, M6, h6, g_1⟩ := bnd2 h
  refine J_callSI (pc := 6) (as := [vI x0]) (tX3_placesOf (d := d)  h6) cf_X3_placesOf cv_X3_placesOf ml_RX1_76 (by omega) (Nat.le_of_ble_eq_true rfl) dX1_moved_6 ?_
  refine J_iconst (pc := 9) (v := (-1 : Int32)) (by decide) dX1_moved_9 ?_
  refine J_ixor (pc := 10) dX1_moved_10 ?_
  refine J_iand (pc := 11) dX1_moved_11 ?_
  refine J_iadd (pc := 12) dX1_moved_12 ?_
  exact J_iret (pc := 13) (qi_of g_1) dX1_moved_13
set_option maxHeartbeats 4000000 in
set_option maxRecDepth 100000 in
theorem jX1_findLeast_b91 {ad : Nat → Nat} {ca : Nat → ClassId} {D : va_G} {FU d : Nat} {r : Int32} {N : Mem}  {k5 : Int32 → Int32 → Mem → Option (Int32 × Mem)} {k35 : Int32 → Int32 → Mem → Option (Int32 × Mem)} {x0 : Nat} {x1 : Int32} {x2 : Int32} {x3 : Int32} {x4 : Int32} {x5 : Int32} {x6 : Int32} {M : Mem}  (hk5 : ∀ (y3 : Int32) (y4 : Int32) (M : Mem), k5 y3 y4 M = some (r, N) → J ad ca D cX1_findLeast RX1 8 (d + 3) (Gt ad ca D (some .boolean) (QI r N)) 5 [(0, vR (some x0)), (1, vI x1), (2, vI x2), (3, vI y3), (4, vI y4)] [] M) (hk35 : ∀ (y3 : Int32) (y6 : Int32) (M : Mem), k35 y3 y6 M = some (r, N) → J ad ca D cX1_findLeast RX1 8 (d + 3) (Gt ad ca D (some .boolean) (QI r N)) 35 [(0, vR (some x0)), (1, vI x1), (2, vI x2), (3, vI y3), (4, vI x4), (5, vI x5), (6, vI y6)] [] M) (h : fX1_findLeast_b91 FU  k5 k35 x0 x1 x2 x3 x4 x5 x6 M = some (r, N)) : J ad ca D cX1_findLeast RX1 8 (d + 3) (Gt ad ca D (some .boolean) (QI r N)) 91 [(0, vR (some x0)), (1, vI x1), (2, vI x2), (3, vI x3), (4, vI x4), (5, vI x5), (6, vI x6)] [] M := by
  unfold fX1_findLeast_b91 at h
  refine J_iinc (pc := 91) (q := 6) rfl (v := x6 + (1 : Int32)) rfl (by decide) (lv' := [(0, vR (some x0)), (1, vI x1), (2, vI x2), (3, vI x3), (4, vI x4), (5, vI x5), (6, vI (x6 + (1 : Int32)))]) rfl dX1_findLeast_91 ?_
  refine J_goto (pc := 94) (tgt := 35) (by decide) dX1_findLeast_94 ?_
  exact hk35 _ _ _ h
set_option maxHeartbeats 4000000 in
set_option maxRecDepth 100000 in
theorem jX1_findLeast_b97 {ad : Nat → Nat} {ca : Nat → ClassId} {D : va_G} {FU d : Nat} {r : Int32} {N : Mem}  {k5 : Int32 → Int32 → Mem → Option (Int32 × Mem)} {x0 : Nat} {x1 : Int32} {x2 : Int32} {x3 : Int32} {x4 : Int32} {M : Mem}  (hk5 : ∀ (y3 : Int32) (y4 : Int32) (M : Mem), k5 y3 y4 M = some (r, N) → J ad ca D cX1_findLeast RX1 8 (d + 3) (Gt ad ca D (some .boolean) (QI r N)) 5 [(0, vR (some x0)), (1, vI x1), (2, vI x2), (3, vI y3), (4, vI y4)] [] M) (h : fX1_findLeast_b97 FU  k5 x0 x1 x2 x3 x4 M = some (r, N)) : J ad ca D cX1_findLeast RX1 8 (d + 3) (Gt ad ca D (some .boolean) (QI r N)) 97 [(0, vR (some x0)), (1, vI x1), (2, vI x2), (3, vI x3), (4, vI x4)] [] M := by
  unfold fX1_findLeast_b97 at h
  refine J_iinc (pc := 97) (q := 4) rfl (v := x4 + (1 : Int32)) rfl (by decide) (lv' := [(0, vR (some x0)), (1, vI x1), (2, vI x2), (3, vI x3), (4, vI (x4 + (1 : Int32)))]) rfl dX1_findLeast_97 ?_
  refine J_goto (pc := 100) (tgt := 5) (by decide) dX1_findLeast_100 ?_
  exact hk5 _ _ _ h
set_option maxHeartbeats 4000000 in
set_option maxRecDepth 100000 in
theorem jX1_findLeast_L35 {ad : Nat → Nat} {ca : Nat → ClassId} {D : va_G} {FU d : Nat} {r : Int32} {N : Mem}  {k5 : Int32 → Int32 → Mem → Option (Int32 × Mem)} {x0 : Nat} {x1 : Int32} {x2 : Int32} {x4 : Int32} {x5 : Int32}  (hk5 : ∀ (y3 : Int32) (y4 : Int32) (M : Mem), k5 y3 y4 M = some (r, N) → J ad ca D cX1_findLeast RX1 8 (d + 3) (Gt ad ca D (some .boolean) (QI r N)) 5 [(0, vR (some x0)), (1, vI x1), (2, vI x2), (3, vI y3), (4, vI y4)] [] M) : ∀ (F : Nat) (x3 : Int32) (x6 : Int32) (M : Mem), fX1_findLeast_L35 FU  k5 x0 x1 x2 x4 x5 F x3 x6 M = some (r, N) → J ad ca D cX1_findLeast RX1 8 (d + 3) (Gt ad ca D (some .boolean) (QI r N)) 35 [(0, vR (some x0)), (1, vI x1), (2, vI x2), (3, vI x3), (4, vI x4), (5, vI x5), (6, vI x6)] [] M := by
  intro F
  induction F with
  | zero =>
    intro x3 x6 M h
    rw [fX1_findLeast_L35] at h
    cases h
  | succ F hk35 =>
    intro x3 x6 M h
    rw [fX1_findLeast_L35] at h
    refine J_iload (pc := 35) (q := 6) rfl dX1_findLeast_35 ?_
    refine J_aload_n (pc := 37) (q := 0) rfl rfl dX1_findLeast_37 ?_
    obtain ⟨a38, h38, g_1⟩ := bnd h
    refine J_getR (pc := 38) (i := 1) clF1 (by decide) rfl fl_RX1_25 h38 dX1_findLeast_38 ?_
    obtain ⟨b41, hb41, g_2⟩ := bnd g_1
    obtain ⟨r41, M41, h41, g_3⟩ := bnd2 g_2
    refine J_callVI (pc := 41) (as := []) (tX3_allPlaces (d := d)  h41) cf_X3_allPlaces cv_X3_allPlaces clF3 hb41 ml_RX1_61 (by omega) (Nat.le_of_ble_eq_true rfl) dX1_findLeast_41 ?_
    refine J_icgt (pc := 44) (tgt := 97) (by decide) dX1_findLeast_44 (fun hc44 => ?_) (fun hc44 => ?_)
    · rw [if_pos hc44] at g_3
      refine J_sub [0, 1, 2, 3, 4] (lv' := [(0, vR (some x0)), (1, vI x1), (2, vI x2), (3, vI x3), (4, vI x4)]) rfl ?_
      exact jX1_findLeast_b97 hk5 g_3
    · rw [if_neg hc44] at g_3
      refine J_iload_n (pc := 47) (q := 1) rfl rfl dX1_findLeast_47 ?_
      refine J_bipush (pc := 48) (v := (64 : Int32)) (by decide) dX1_findLeast_48 ?_
      refine J_imul (pc := 50) dX1_findLeast_50 ?_
      refine J_iload (pc := 51) (q := 6) rfl dX1_findLeast_51 ?_
      refine J_iadd (pc := 53) dX1_findLeast_53 ?_
      refine J_istore (pc := 54) (by decide) (lv' := [(0, vR (some x0)), (1, vI x1), (2, vI x2), (3, vI x3), (4, vI x4), (5, vI x5), (6, vI x6), (7, vI ((x1 * (64 : Int32)) + x6))]) rfl dX1_findLeast_54 ?_
      refine J_aload_n (pc := 56) (q := 0) rfl rfl dX1_findLeast_56 ?_
      obtain ⟨a57, h57, g_4⟩ := bnd g_3
      refine J_getR (pc := 57) (i := 2) clF1 (by decide) rfl fl_RX1_15 h57 dX1_findLeast_57 ?_
      refine J_iload (pc := 60) (q := 7) rfl dX1_findLeast_60 ?_
      obtain ⟨a62, h62, g_5⟩ := bnd g_4
      refine J_ald0 (pc := 62) h62 dX1_findLeast_62 ?_
      refine J_ifge (pc := 63) (tgt := 91) (by decide) dX1_findLeast_63 (fun hc63 => ?_) (fun hc63 => ?_)
      · rw [if_pos hc63] at g_5
        refine J_sub [0, 1, 2, 3, 4, 5, 6] (lv' := [(0, vR (some x0)), (1, vI x1), (2, vI x2), (3, vI x3), (4, vI x4), (5, vI x5), (6, vI x6)]) rfl ?_
        exact jX1_findLeast_b91 hk5 hk35 g_5
      · rw [if_neg hc63] at g_5
        refine J_aload_n (pc := 66) (q := 0) rfl rfl dX1_findLeast_66 ?_
        obtain ⟨a67, h67, g_6⟩ := bnd g_5
        refine J_getR (pc := 67) (i := 3) clF1 (by decide) rfl fl_RX1_19 h67 dX1_findLeast_67 ?_
        refine J_iload (pc := 70) (q := 5) rfl dX1_findLeast_70 ?_
        refine J_iload (pc := 72) (q := 6) rfl dX1_findLeast_72 ?_
        obtain ⟨r74, M74, h74, g_7⟩ := bnd2 g_6
        refine J_callSI (pc := 74) (as := [vI x5, vI x6]) (tX1_moved (d := d)  h74) cf_X1_moved cv_X1_moved ml_RX1_73 (by omega) (Nat.le_of_ble_eq_true rfl) dX1_findLeast_74 ?_
        obtain ⟨a77, h77, g_8⟩ := bnd g_7
        refine J_ald0 (pc := 77) h77 dX1_findLeast_77 ?_
        refine J_ifle (pc := 78) (tgt := 91) (by decide) dX1_findLeast_78 (fun hc78 => ?_) (fun hc78 => ?_)
        · rw [if_pos hc78] at g_8
          refine J_sub [0, 1, 2, 3, 4, 5, 6] (lv' := [(0, vR (some x0)), (1, vI x1), (2, vI x2), (3, vI x3), (4, vI x4), (5, vI x5), (6, vI x6)]) rfl ?_
          exact jX1_findLeast_b91 hk5 hk35 g_8
        · rw [if_neg hc78] at g_8
          refine J_aload_n (pc := 81) (q := 0) rfl rfl dX1_findLeast_81 ?_
          obtain ⟨a82, h82, g_9⟩ := bnd g_8
          refine J_getR (pc := 82) (i := 2) clF1 (by decide) rfl fl_RX1_15 h82 dX1_findLeast_82 ?_
          refine J_iload (pc := 85) (q := 7) rfl dX1_findLeast_85 ?_
          refine J_iload_n (pc := 87) (q := 2) rfl rfl dX1_findLeast_87 ?_
          obtain ⟨M88, h88, g_10⟩ := bnd g_9
          refine J_ast0 (pc := 88) h88 dX1_findLeast_88 ?_
          refine J_iconst (pc := 89) (v := (1 : Int32)) (by decide) dX1_findLeast_89 ?_
          refine J_istore_n (pc := 90) rfl (by decide) (lv' := [(0, vR (some x0)), (1, vI x1), (2, vI x2), (4, vI x4), (5, vI x5), (6, vI x6), (7, vI ((x1 * (64 : Int32)) + x6)), (3, vI (1 : Int32))]) rfl dX1_findLeast_90 ?_
          refine J_sub [0, 1, 2, 7, 3, 4, 5] (lv' := [(0, vR (some x0)), (1, vI x1), (2, vI x2), (3, vI (1 : Int32)), (4, vI x4), (5, vI x5), (6, vI x6)]) rfl ?_
          exact jX1_findLeast_b91 hk5 hk35 g_10
set_option maxHeartbeats 4000000 in
set_option maxRecDepth 100000 in
theorem jX1_findLeast_L5 {ad : Nat → Nat} {ca : Nat → ClassId} {D : va_G} {FU d : Nat} {r : Int32} {N : Mem}   {x0 : Nat} {x1 : Int32} {x2 : Int32}   : ∀ (F : Nat) (x3 : Int32) (x4 : Int32) (M : Mem), fX1_findLeast_L5 FU  x0 x1 x2 F x3 x4 M = some (r, N) → J ad ca D cX1_findLeast RX1 8 (d + 3) (Gt ad ca D (some .boolean) (QI r N)) 5 [(0, vR (some x0)), (1, vI x1), (2, vI x2), (3, vI x3), (4, vI x4)] [] M := by
  intro F
  induction F with
  | zero =>
    intro x3 x4 M h
    rw [fX1_findLeast_L5] at h
    cases h
  | succ F hk5 =>
    intro x3 x4 M h
    rw [fX1_findLeast_L5] at h
    refine J_iload (pc := 5) (q := 4) rfl dX1_findLeast_5 ?_
    refine J_bipush (pc := 7) (v := (32 : Int32)) (by decide) dX1_findLeast_7 ?_
    refine J_icgt (pc := 9) (tgt := 103) (by decide) dX1_findLeast_9 (fun hc9 => ?_) (fun hc9 => ?_)
    · rw [if_pos hc9] at h
      refine J_iload_n (pc := 103) (q := 3) rfl rfl dX1_findLeast_103 ?_
      obtain ⟨hz104, g_11⟩ := grd h
      exact J_zret (pc := 104) hz104 (qi_of g_11) dX1_findLeast_104
    · rw [if_neg hc9] at h
      refine J_aload_n (pc := 12) (q := 0) rfl rfl dX1_findLeast_12 ?_
      obtain ⟨a13, h13, g_12⟩ := bnd h
      refine J_getR (pc := 13) (i := 1) clF1 (by decide) rfl fl_RX1_25 h13 dX1_findLeast_13 ?_
      refine J_iload_n (pc := 16) (q := 1) rfl rfl dX1_findLeast_16 ?_
      refine J_iload (pc := 17) (q := 4) rfl dX1_findLeast_17 ?_
      obtain ⟨b19, hb19, g_13⟩ := bnd g_12
      obtain ⟨r19, M19, h19, g_14⟩ := bnd2 g_13
      refine J_callVI (pc := 19) (as := [vI x1, vI x4]) (tX3_pairAfter (d := d)  h19) cf_X3_pairAfter cv_X3_pairAfter clF3 hb19 ml_RX1_69 (by omega) (Nat.le_of_ble_eq_true rfl) dX1_findLeast_19 ?_
      refine J_istore (pc := 22) (by decide) (lv' := [(0, vR (some x0)), (1, vI x1), (2, vI x2), (3, vI x3), (4, vI x4), (5, vI r19)]) rfl dX1_findLeast_22 ?_
      refine J_iload (pc := 24) (q := 5) rfl dX1_findLeast_24 ?_
      refine J_ifge (pc := 26) (tgt := 32) (by decide) dX1_findLeast_26 (fun hc26 => ?_) (fun hc26 => ?_)
      · rw [if_pos hc26] at g_14
        refine J_iconst (pc := 32) (v := (0 : Int32)) (by decide) dX1_findLeast_32 ?_
        refine J_istore (pc := 33) (by decide) (lv' := [(0, vR (some x0)), (1, vI x1), (2, vI x2), (3, vI x3), (4, vI x4), (5, vI r19), (6, vI (0 : Int32))]) rfl dX1_findLeast_33 ?_
        exact jX1_findLeast_L35 hk5 FU _ _ _ g_14
      · rw [if_neg hc26] at g_14
        refine J_goto (pc := 29) (tgt := 97) (by decide) dX1_findLeast_29 ?_
        refine J_sub [0, 1, 2, 3, 4] (lv' := [(0, vR (some x0)), (1, vI x1), (2, vI x2), (3, vI x3), (4, vI x4)]) rfl ?_
        exact jX1_findLeast_b97 hk5 g_14
set_option maxHeartbeats 4000000 in
set_option maxRecDepth 100000 in
theorem tX1_findLeast {ad : Nat → Nat} {ca : Nat → ClassId} {D : va_G} {FU d : Nat} {r : Int32} {N : Mem}  {x0 : Nat} {x1 : Int32} {x2 : Int32} {M : Mem}  (h : fX1_findLeast FU  x0 x1 x2 M = some (r, N)) : Ct ad ca D yX1_findLeast cX1_findLeast 8 (some .boolean) (d + 3) [vR (some x0), vI x1, vI x2] M (QI r N) := by
  refine Ct_of (by decide) (Nat.le_of_ble_eq_true rfl) ?_
  show J ad ca D cX1_findLeast RX1 8 (d + 3) (Gt ad ca D (some .boolean) (QI r N)) 0 [(0, vR (some x0)), (1, vI x1), (2, vI x2)] [] M
  unfold fX1_findLeast at h
  refine J_iconst (pc := 0) (v := (0 : Int32)) (by decide) dX1_findLeast_0 ?_
  refine J_istore_n (pc := 1) rfl (by decide) (lv' := [(0, vR (some x0)), (1, vI x1), (2, vI x2), (3, vI (0 : Int32))]) rfl dX1_findLeast_1 ?_
  refine J_iconst (pc := 2) (v := (0 : Int32)) (by decide) dX1_findLeast_2 ?_
  refine J_istore (pc := 3) (by decide) (lv' := [(0, vR (some x0)), (1, vI x1), (2, vI x2), (3, vI (0 : Int32)), (4, vI (0 : Int32))]) rfl dX1_findLeast_3 ?_
  exact jX1_findLeast_L5  FU _ _ _ h
set_option maxHeartbeats 4000000 in
set_option maxRecDepth 100000 in
theorem jX1_solve_b52 {ad : Nat → Nat} {ca : Nat → ClassId} {D : va_G} {FU d : Nat} {N : Mem}  {k28 : Int32 → Mem → Option (Mem)} {x0 : Nat} {x2 : Int32} {s0 : Option Nat} {s1 : Int32} {s2 : Int32} {M : Mem}  (hk28 : ∀ (y2 : Int32) (M : Mem), k28 y2 M = some N → J ad ca D cX1_solve RX1 5 (d + 5) (Gt ad ca D none (QV N)) 28 [(0, vR (some x0)), (2, vI y2)] [] M) (h : fX1_solve_b52 FU  k28 x0 x2 s0 s1 s2 M = some N) : J ad ca D cX1_solve RX1 5 (d + 5) (Gt ad ca D none (QV N)) 52 [(0, vR (some x0)), (2, vI x2)] [vI s2, vI s1, vR s0] M := by
  unfold fX1_solve_b52 at h
  obtain ⟨M52, h52, g_1⟩ := bnd h
  refine J_ast0 (pc := 52) h52 dX1_solve_52 ?_
  refine J_aload_n (pc := 53) (q := 0) rfl rfl dX1_solve_53 ?_
  obtain ⟨a54, h54, g_2⟩ := bnd g_1
  refine J_getR (pc := 54) (i := 3) clF1 (by decide) rfl fl_RX1_19 h54 dX1_solve_54 ?_
  refine J_iload_n (pc := 57) (q := 1) rfl rfl dX1_solve_57 ?_
  refine J_iconst (pc := 58) (v := (0 : Int32)) (by decide) dX1_solve_58 ?_
  obtain ⟨M59, h59, g_3⟩ := bnd g_2
  refine J_ast0 (pc := 59) h59 dX1_solve_59 ?_
  refine J_iinc (pc := 60) (q := 1) rfl (v := x2 + (1 : Int32)) rfl (by decide) (lv' := [(0, vR (some x0)), (2, vI (x2 + (1 : Int32)))]) rfl dX1_solve_60 ?_
  refine J_goto (pc := 63) (tgt := 28) (by decide) dX1_solve_63 ?_
  exact hk28 _ _ g_3
set_option maxHeartbeats 4000000 in
set_option maxRecDepth 100000 in
theorem jX1_solve_b111 {ad : Nat → Nat} {ca : Nat → ClassId} {D : va_G} {FU d : Nat} {N : Mem}  {k70 : Int32 → Int32 → Mem → Option (Mem)} {k85 : Int32 → Mem → Option (Mem)} {x0 : Nat} {x2 : Int32} {x3 : Int32} {x4 : Int32} {M : Mem}  (hk70 : ∀ (y2 : Int32) (y3 : Int32) (M : Mem), k70 y2 y3 M = some N → J ad ca D cX1_solve RX1 5 (d + 5) (Gt ad ca D none (QV N)) 70 [(0, vR (some x0)), (2, vI y2), (3, vI y3)] [] M) (hk85 : ∀ (y4 : Int32) (M : Mem), k85 y4 M = some N → J ad ca D cX1_solve RX1 5 (d + 5) (Gt ad ca D none (QV N)) 85 [(0, vR (some x0)), (2, vI x2), (3, vI x3), (4, vI y4)] [] M) (h : fX1_solve_b111 FU  k70 k85 x0 x2 x3 x4 M = some N) : J ad ca D cX1_solve RX1 5 (d + 5) (Gt ad ca D none (QV N)) 111 [(0, vR (some x0)), (2, vI x2), (3, vI x3), (4, vI x4)] [] M := by
  unfold fX1_solve_b111 at h
  refine J_iinc (pc := 111) (q := 3) rfl (v := x4 + (1 : Int32)) rfl (by decide) (lv' := [(0, vR (some x0)), (2, vI x2), (3, vI x3), (4, vI (x4 + (1 : Int32)))]) rfl dX1_solve_111 ?_
  refine J_goto (pc := 114) (tgt := 85) (by decide) dX1_solve_114 ?_
  exact hk85 _ _ h
set_option maxHeartbeats 4000000 in
set_option maxRecDepth 100000 in
theorem jX1_solve_b151 {ad : Nat → Nat} {ca : Nat → ClassId} {D : va_G} {FU d : Nat} {N : Mem}  {k70 : Int32 → Int32 → Mem → Option (Mem)} {k120 : Int32 → Int32 → Mem → Option (Mem)} {x0 : Nat} {x2 : Int32} {x3 : Int32} {x4 : Int32} {M : Mem}  (hk70 : ∀ (y2 : Int32) (y3 : Int32) (M : Mem), k70 y2 y3 M = some N → J ad ca D cX1_solve RX1 5 (d + 5) (Gt ad ca D none (QV N)) 70 [(0, vR (some x0)), (2, vI y2), (3, vI y3)] [] M) (hk120 : ∀ (y2 : Int32) (y4 : Int32) (M : Mem), k120 y2 y4 M = some N → J ad ca D cX1_solve RX1 5 (d + 5) (Gt ad ca D none (QV N)) 120 [(0, vR (some x0)), (2, vI y2), (3, vI x3), (4, vI y4)] [] M) (h : fX1_solve_b151 FU  k70 k120 x0 x2 x3 x4 M = some N) : J ad ca D cX1_solve RX1 5 (d + 5) (Gt ad ca D none (QV N)) 151 [(0, vR (some x0)), (2, vI x2), (3, vI x3), (4, vI x4)] [] M := by
  unfold fX1_solve_b151 at h
  refine J_iinc (pc := 151) (q := 3) rfl (v := x4 + (1 : Int32)) rfl (by decide) (lv' := [(0, vR (some x0)), (2, vI x2), (3, vI x3), (4, vI (x4 + (1 : Int32)))]) rfl dX1_solve_151 ?_
  refine J_goto (pc := 154) (tgt := 120) (by decide) dX1_solve_154 ?_
  exact hk120 _ _ _ h
set_option maxHeartbeats 4000000 in
set_option maxRecDepth 100000 in
theorem jX1_solve_L120 {ad : Nat → Nat} {ca : Nat → ClassId} {D : va_G} {FU d : Nat} {N : Mem}  {k70 : Int32 → Int32 → Mem → Option (Mem)} {x0 : Nat} {x3 : Int32}  (hk70 : ∀ (y2 : Int32) (y3 : Int32) (M : Mem), k70 y2 y3 M = some N → J ad ca D cX1_solve RX1 5 (d + 5) (Gt ad ca D none (QV N)) 70 [(0, vR (some x0)), (2, vI y2), (3, vI y3)] [] M) : ∀ (F : Nat) (x2 : Int32) (x4 : Int32) (M : Mem), fX1_solve_L120 FU  k70 x0 x3 F x2 x4 M = some N → J ad ca D cX1_solve RX1 5 (d + 5) (Gt ad ca D none (QV N)) 120 [(0, vR (some x0)), (2, vI x2), (3, vI x3), (4, vI x4)] [] M := by
  intro F
  induction F with
  | zero =>
    intro x2 x4 M h
    rw [fX1_solve_L120] at h
    cases h
  | succ F hk120 =>
    intro x2 x4 M h
    rw [fX1_solve_L120] at h
    refine J_iload (pc := 120) (q := 3) rfl dX1_solve_120 ?_
    refine J_bipush (pc := 122) (v := (64 : Int32)) (by decide) dX1_solve_122 ?_
    refine J_icge (pc := 124) (tgt := 157) (by decide) dX1_solve_124 (fun hc124 => ?_) (fun hc124 => ?_)
    · rw [if_pos hc124] at h
      refine J_iinc (pc := 157) (q := 2) rfl (v := x3 + (1 : Int32)) rfl (by decide) (lv' := [(0, vR (some x0)), (2, vI x2), (4, vI x4), (3, vI (x3 + (1 : Int32)))]) rfl dX1_solve_157 ?_
      refine J_goto (pc := 160) (tgt := 70) (by decide) dX1_solve_160 ?_
      refine J_sub [0, 1, 3] (lv' := [(0, vR (some x0)), (2, vI x2), (3, vI (x3 + (1 : Int32)))]) rfl ?_
      exact hk70 _ _ _ h
    · rw [if_neg hc124] at h
      refine J_aload_n (pc := 127) (q := 0) rfl rfl dX1_solve_127 ?_
      obtain ⟨a128, h128, g_4⟩ := bnd h
      refine J_getR (pc := 128) (i := 1) clF1 (by decide) rfl fl_RX1_25 h128 dX1_solve_128 ?_
      refine J_iload (pc := 131) (q := 3) rfl dX1_solve_131 ?_
      obtain ⟨b133, hb133, g_5⟩ := bnd g_4
      obtain ⟨r133, M133, h133, g_6⟩ := bnd2 g_5
      refine J_callVI (pc := 133) (as := [vI x4]) (tX3_isPair (d := d)  h133) cf_X3_isPair cv_X3_isPair clF3 hb133 ml_RX1_35 (by omega) (Nat.le_of_ble_eq_true rfl) dX1_solve_133 ?_
      refine J_ifeq (pc := 136) (tgt := 151) (by decide) dX1_solve_136 (fun hc136 => ?_) (fun hc136 => ?_)
      · rw [if_pos hc136] at g_6
        exact jX1_solve_b151 hk70 hk120 g_6
      · rw [if_neg hc136] at g_6
        refine J_aload_n (pc := 139) (q := 0) rfl rfl dX1_solve_139 ?_
        refine J_iload (pc := 140) (q := 3) rfl dX1_solve_140 ?_
        refine J_iload_n (pc := 142) (q := 2) rfl rfl dX1_solve_142 ?_
        obtain ⟨b143, hb143, g_7⟩ := bnd g_6
        obtain ⟨r143, M143, h143, g_8⟩ := bnd2 g_7
        refine J_callVI (pc := 143) (as := [vI x4, vI x3]) (tX1_findLeast (d := d)  h143) cf_X1_findLeast cv_X1_findLeast clF1 hb143 ml_RX1_43 (by omega) (Nat.le_of_ble_eq_true rfl) dX1_solve_143 ?_
        refine J_ifeq (pc := 146) (tgt := 151) (by decide) dX1_solve_146 (fun hc146 => ?_) (fun hc146 => ?_)
        · rw [if_pos hc146] at g_8
          exact jX1_solve_b151 hk70 hk120 g_8
        · rw [if_neg hc146] at g_8
          refine J_iconst (pc := 149) (v := (1 : Int32)) (by decide) dX1_solve_149 ?_
          refine J_istore_n (pc := 150) rfl (by decide) (lv' := [(0, vR (some x0)), (3, vI x3), (4, vI x4), (2, vI (1 : Int32))]) rfl dX1_solve_150 ?_
          refine J_sub [0, 3, 1, 2] (lv' := [(0, vR (some x0)), (2, vI (1 : Int32)), (3, vI x3), (4, vI x4)]) rfl ?_
          exact jX1_solve_b151 hk70 hk120 g_8
set_option maxHeartbeats 4000000 in
set_option maxRecDepth 100000 in
theorem jX1_solve_L85 {ad : Nat → Nat} {ca : Nat → ClassId} {D : va_G} {FU d : Nat} {N : Mem}  {k70 : Int32 → Int32 → Mem → Option (Mem)} {x0 : Nat} {x2 : Int32} {x3 : Int32}  (hk70 : ∀ (y2 : Int32) (y3 : Int32) (M : Mem), k70 y2 y3 M = some N → J ad ca D cX1_solve RX1 5 (d + 5) (Gt ad ca D none (QV N)) 70 [(0, vR (some x0)), (2, vI y2), (3, vI y3)] [] M) : ∀ (F : Nat) (x4 : Int32) (M : Mem), fX1_solve_L85 FU  k70 x0 x2 x3 F x4 M = some N → J ad ca D cX1_solve RX1 5 (d + 5) (Gt ad ca D none (QV N)) 85 [(0, vR (some x0)), (2, vI x2), (3, vI x3), (4, vI x4)] [] M := by
  intro F
  induction F with
  | zero =>
    intro x4 M h
    rw [fX1_solve_L85] at h
    cases h
  | succ F hk85 =>
    intro x4 M h
    rw [fX1_solve_L85] at h
    refine J_iload (pc := 85) (q := 3) rfl dX1_solve_85 ?_
    refine J_bipush (pc := 87) (v := (64 : Int32)) (by decide) dX1_solve_87 ?_
    refine J_icge (pc := 89) (tgt := 117) (by decide) dX1_solve_89 (fun hc89 => ?_) (fun hc89 => ?_)
    · rw [if_pos hc89] at h
      refine J_iconst (pc := 117) (v := (0 : Int32)) (by decide) dX1_solve_117 ?_
      refine J_istore (pc := 118) (by decide) (lv' := [(0, vR (some x0)), (2, vI x2), (3, vI x3), (4, vI (0 : Int32))]) rfl dX1_solve_118 ?_
      exact jX1_solve_L120 hk70 FU _ _ _ h
    · rw [if_neg hc89] at h
      refine J_aload_n (pc := 92) (q := 0) rfl rfl dX1_solve_92 ?_
      obtain ⟨a93, h93, g_9⟩ := bnd h
      refine J_getR (pc := 93) (i := 1) clF1 (by decide) rfl fl_RX1_25 h93 dX1_solve_93 ?_
      refine J_iload (pc := 96) (q := 3) rfl dX1_solve_96 ?_
      obtain ⟨b98, hb98, g_10⟩ := bnd g_9
      obtain ⟨r98, M98, h98, g_11⟩ := bnd2 g_10
      refine J_callVI (pc := 98) (as := [vI x4]) (tX3_isPair (d := d)  h98) cf_X3_isPair cv_X3_isPair clF3 hb98 ml_RX1_35 (by omega) (Nat.le_of_ble_eq_true rfl) dX1_solve_98 ?_
      refine J_ifeq (pc := 101) (tgt := 111) (by decide) dX1_solve_101 (fun hc101 => ?_) (fun hc101 => ?_)
      · rw [if_pos hc101] at g_11
        exact jX1_solve_b111 hk70 hk85 g_11
      · rw [if_neg hc101] at g_11
        refine J_aload_n (pc := 104) (q := 0) rfl rfl dX1_solve_104 ?_
        refine J_iload (pc := 105) (q := 3) rfl dX1_solve_105 ?_
        refine J_iload_n (pc := 107) (q := 2) rfl rfl dX1_solve_107 ?_
        obtain ⟨b108, hb108, g_12⟩ := bnd g_11
        obtain ⟨M108, h108, g_13⟩ := bnd g_12
        refine J_callVV (pc := 108) (as := [vI x4, vI x3]) (tX1_findMoved (d := d)  h108) cf_X1_findMoved cv_X1_findMoved clF1 hb108 ml_RX1_39 (by omega) (Nat.le_of_ble_eq_true rfl) dX1_solve_108 ?_
        exact jX1_solve_b111 hk70 hk85 g_13
set_option maxHeartbeats 4000000 in
set_option maxRecDepth 100000 in
theorem jX1_solve_L70 {ad : Nat → Nat} {ca : Nat → ClassId} {D : va_G} {FU d : Nat} {N : Mem}   {x0 : Nat}   : ∀ (F : Nat) (x2 : Int32) (x3 : Int32) (M : Mem), fX1_solve_L70 FU  x0 F x2 x3 M = some N → J ad ca D cX1_solve RX1 5 (d + 5) (Gt ad ca D none (QV N)) 70 [(0, vR (some x0)), (2, vI x2), (3, vI x3)] [] M := by
  intro F
  induction F with
  | zero =>
    intro x2 x3 M h
    rw [fX1_solve_L70] at h
    cases h
  | succ F hk70 =>
    intro x2 x3 M h
    rw [fX1_solve_L70] at h
    refine J_iload_n (pc := 70) (q := 2) rfl rfl dX1_solve_70 ?_
    refine J_bipush (pc := 71) (v := (12 : Int32)) (by decide) dX1_solve_71 ?_
    refine J_icgt (pc := 73) (tgt := 163) (by decide) dX1_solve_73 (fun hc73 => ?_) (fun hc73 => ?_)
    · rw [if_pos hc73] at h
      exact J_vret (pc := 163) (qv_of h) dX1_solve_163
    · rw [if_neg hc73] at h
      refine J_iload_n (pc := 76) (q := 1) rfl rfl dX1_solve_76 ?_
      refine J_ifeq (pc := 77) (tgt := 163) (by decide) dX1_solve_77 (fun hc77 => ?_) (fun hc77 => ?_)
      · rw [if_pos hc77] at h
        exact J_vret (pc := 163) (qv_of h) dX1_solve_163
      · rw [if_neg hc77] at h
        refine J_iconst (pc := 80) (v := (0 : Int32)) (by decide) dX1_solve_80 ?_
        refine J_istore_n (pc := 81) rfl (by decide) (lv' := [(0, vR (some x0)), (3, vI x3), (2, vI (0 : Int32))]) rfl dX1_solve_81 ?_
        refine J_iconst (pc := 82) (v := (0 : Int32)) (by decide) dX1_solve_82 ?_
        refine J_istore (pc := 83) (by decide) (lv' := [(0, vR (some x0)), (3, vI x3), (2, vI (0 : Int32)), (4, vI (0 : Int32))]) rfl dX1_solve_83 ?_
        refine J_sub [0, 2, 1, 3] (lv' := [(0, vR (some x0)), (2, vI (0 : Int32)), (3, vI x3), (4, vI (0 : Int32))]) rfl ?_
        exact jX1_solve_L85 hk70 FU _ _ h
set_option maxHeartbeats 4000000 in
set_option maxRecDepth 100000 in
theorem jX1_solve_L28 {ad : Nat → Nat} {ca : Nat → ClassId} {D : va_G} {FU d : Nat} {N : Mem}   {x0 : Nat}   : ∀ (F : Nat) (x2 : Int32) (M : Mem), fX1_solve_L28 FU  x0 F x2 M = some N → J ad ca D cX1_solve RX1 5 (d + 5) (Gt ad ca D none (QV N)) 28 [(0, vR (some x0)), (2, vI x2)] [] M := by
  intro F
  induction F with
  | zero =>
    intro x2 M h
    rw [fX1_solve_L28] at h
    cases h
  | succ F hk28 =>
    intro x2 M h
    rw [fX1_solve_L28] at h
    refine J_iload_n (pc := 28) (q := 1) rfl rfl dX1_solve_28 ?_
    refine J_sipush (pc := 29) (v := (4096 : Int32)) (by decide) dX1_solve_29 ?_
    refine J_icge (pc := 32) (tgt := 66) (by decide) dX1_solve_32 (fun hc32 => ?_) (fun hc32 => ?_)
    · rw [if_pos hc32] at h
      refine J_iconst (pc := 66) (v := (1 : Int32)) (by decide) dX1_solve_66 ?_
      refine J_istore_n (pc := 67) rfl (by decide) (lv' := [(0, vR (some x0)), (2, vI (1 : Int32))]) rfl dX1_solve_67 ?_
      refine J_iconst (pc := 68) (v := (1 : Int32)) (by decide) dX1_solve_68 ?_
      refine J_istore_n (pc := 69) rfl (by decide) (lv' := [(0, vR (some x0)), (2, vI (1 : Int32)), (3, vI (1 : Int32))]) rfl dX1_solve_69 ?_
      exact jX1_solve_L70  FU _ _ _ h
    · rw [if_neg hc32] at h
      refine J_aload_n (pc := 35) (q := 0) rfl rfl dX1_solve_35 ?_
      obtain ⟨a36, h36, g_14⟩ := bnd h
      refine J_getR (pc := 36) (i := 2) clF1 (by decide) rfl fl_RX1_15 h36 dX1_solve_36 ?_
      refine J_iload_n (pc := 39) (q := 1) rfl rfl dX1_solve_39 ?_
      refine J_iload_n (pc := 40) (q := 1) rfl rfl dX1_solve_40 ?_
      refine J_bipush (pc := 41) (v := (64 : Int32)) (by decide) dX1_solve_41 ?_
      refine J_irem (pc := 43) (by decide) dX1_solve_43 ?_
      refine J_ifne (pc := 44) (tgt := 51) (by decide) dX1_solve_44 (fun hc44 => ?_) (fun hc44 => ?_)
      · rw [if_pos hc44] at g_14
        refine J_iconst (pc := 51) (v := (-1 : Int32)) (by decide) dX1_solve_51 ?_
        exact jX1_solve_b52 hk28 g_14
      · rw [if_neg hc44] at g_14
        refine J_iconst (pc := 47) (v := (0 : Int32)) (by decide) dX1_solve_47 ?_
        refine J_goto (pc := 48) (tgt := 52) (by decide) dX1_solve_48 ?_
        exact jX1_solve_b52 hk28 g_14
set_option maxHeartbeats 4000000 in
set_option maxRecDepth 100000 in
theorem tX1_solve {ad : Nat → Nat} {ca : Nat → ClassId} {D : va_G} {FU d : Nat} {N : Mem}  {x0 : Nat} {x1 : Option Nat} {M : Mem}  (h : fX1_solve FU  x0 x1 M = some N) : Ct ad ca D yX1_solve cX1_solve 5 none (d + 5) [vR (some x0), vR x1] M (QV N) := by
  refine Ct_of (by decide) (Nat.le_of_ble_eq_true rfl) ?_
  show J ad ca D cX1_solve RX1 5 (d + 5) (Gt ad ca D none (QV N)) 0 [(0, vR (some x0)), (1, vR x1)] [] M
  unfold fX1_solve at h
  refine J_aload_n (pc := 0) (q := 0) rfl rfl dX1_solve_0 ?_
  refine J_aload_n (pc := 1) (q := 1) rfl rfl dX1_solve_1 ?_
  obtain ⟨M2, h2, g_15⟩ := bnd h
  refine J_putR (pc := 2) (i := 1) clF1 (by decide) rfl fl_RX1_25 rfl (Or.inl ⟨_, rfl⟩) h2 dX1_solve_2 ?_
  refine J_aload_n (pc := 5) (q := 0) rfl rfl dX1_solve_5 ?_
  refine J_aload_n (pc := 6) (q := 1) rfl rfl dX1_solve_6 ?_
  obtain ⟨a7, h7, g_16⟩ := bnd g_15
  refine J_getI (pc := 7) (i := 12) clF3 (by decide) rfl fl_RX1_29 h7 dX1_solve_7 ?_
  obtain ⟨M10, h10, g_17⟩ := bnd g_16
  refine J_putI (pc := 10) (i := 0) clF1 (by decide) rfl fl_RX1_9 rfl rfl h10 dX1_solve_10 ?_
  refine J_aload_n (pc := 13) (q := 0) rfl rfl dX1_solve_13 ?_
  obtain ⟨a14, h14, g_18⟩ := bnd g_17
  refine J_getR (pc := 14) (i := 1) clF1 (by decide) rfl fl_RX1_25 h14 dX1_solve_14 ?_
  obtain ⟨a17, h17, g_19⟩ := bnd g_18
  refine J_getI (pc := 17) (i := 0) clF3 (by decide) rfl fl_RX1_32 h17 dX1_solve_17 ?_
  refine J_bipush (pc := 20) (v := (6 : Int32)) (by decide) dX1_solve_20 ?_
  refine J_icle (pc := 22) (tgt := 26) (by decide) dX1_solve_22 (fun hc22 => ?_) (fun hc22 => ?_)
  · rw [if_pos hc22] at g_19
    refine J_iconst (pc := 26) (v := (0 : Int32)) (by decide) dX1_solve_26 ?_
    refine J_istore_n (pc := 27) rfl (by decide) (lv' := [(0, vR (some x0)), (1, vR x1), (2, vI (0 : Int32))]) rfl dX1_solve_27 ?_
    refine J_sub [0, 2] (lv' := [(0, vR (some x0)), (2, vI (0 : Int32))]) rfl ?_
    exact jX1_solve_L28  FU _ _ g_19
  · rw [if_neg hc22] at g_19
    exact J_vret (pc := 25) (qv_of g_19) dX1_solve_25
set_option maxHeartbeats 4000000 in
set_option maxRecDepth 100000 in
theorem tX1_leastRounds {ad : Nat → Nat} {ca : Nat → ClassId} {D : va_G} {FU d : Nat} {r : Int32} {N : Mem}  {x0 : Nat} {x1 : Int32} {x2 : Int32} {M : Mem}  (h : fX1_leastRounds FU  x0 x1 x2 M = some (r, N)) : Ct ad ca D yX1_leastRounds cX1_leastRounds 3 (some .int) (d + 0) [vR (some x0), vI x1, vI x2] M (QI r N) := by
  refine Ct_of (by decide) (Nat.le_of_ble_eq_true rfl) ?_
  show J ad ca D cX1_leastRounds RX1 3 (d + 0) (Gt ad ca D (some .int) (QI r N)) 0 [(0, vR (some x0)), (1, vI x1), (2, vI x2)] [] M
  unfold fX1_leastRounds at h
  refine J_aload_n (pc := 0) (q := 0) rfl rfl dX1_leastRounds_0 ?_
  obtain ⟨a1, h1, g_1⟩ := bnd h
  refine J_getR (pc := 1) (i := 2) clF1 (by decide) rfl fl_RX1_15 h1 dX1_leastRounds_1 ?_
  refine J_iload_n (pc := 4) (q := 1) rfl rfl dX1_leastRounds_4 ?_
  refine J_bipush (pc := 5) (v := (64 : Int32)) (by decide) dX1_leastRounds_5 ?_
  refine J_imul (pc := 7) dX1_leastRounds_7 ?_
  refine J_iload_n (pc := 8) (q := 2) rfl rfl dX1_leastRounds_8 ?_
  refine J_iadd (pc := 9) dX1_leastRounds_9 ?_
  obtain ⟨a10, h10, g_2⟩ := bnd g_1
  refine J_ald0 (pc := 10) h10 dX1_leastRounds_10 ?_
  exact J_iret (pc := 11) (qi_of g_2) dX1_leastRounds_11
set_option maxHeartbeats 4000000 in
set_option maxRecDepth 100000 in
theorem jX1_surestMove_b65 {ad : Nat → Nat} {ca : Nat → ClassId} {D : va_G} {FU d : Nat} {r : Int32} {N : Mem}  {k10 : Int32 → Mem → Option (Int32 × Mem)} {x0 : Nat} {x1 : Int32} {x2 : Int32} {x3 : Int32} {x4 : Int32} {M : Mem}  (hk10 : ∀ (y4 : Int32) (M : Mem), k10 y4 M = some (r, N) → J ad ca D cX1_surestMove RX1 7 (d + 3) (Gt ad ca D (some .int) (QI r N)) 10 [(0, vR (some x0)), (1, vI x1), (2, vI x2), (3, vI x3), (4, vI y4)] [] M) (h : fX1_surestMove_b65 FU  k10 x0 x1 x2 x3 x4 M = some (r, N)) : J ad ca D cX1_surestMove RX1 7 (d + 3) (Gt ad ca D (some .int) (QI r N)) 65 [(0, vR (some x0)), (1, vI x1), (2, vI x2), (3, vI x3), (4, vI x4)] [] M := by
  unfold fX1_surestMove_b65 at h
  refine J_iinc (pc := 65) (q := 4) rfl (v := x4 + (1 : Int32)) rfl (by decide) (lv' := [(0, vR (some x0)), (1, vI x1), (2, vI x2), (3, vI x3), (4, vI (x4 + (1 : Int32)))]) rfl dX1_surestMove_65 ?_
  refine J_goto (pc := 68) (tgt := 10) (by decide) dX1_surestMove_68 ?_
  exact hk10 _ _ h
set_option maxHeartbeats 4000000 in
set_option maxRecDepth 100000 in
theorem jX1_surestMove_L10 {ad : Nat → Nat} {ca : Nat → ClassId} {D : va_G} {FU d : Nat} {r : Int32} {N : Mem}   {x0 : Nat} {x1 : Int32} {x2 : Int32} {x3 : Int32}   : ∀ (F : Nat) (x4 : Int32) (M : Mem), fX1_surestMove_L10 FU  x0 x1 x2 x3 F x4 M = some (r, N) → J ad ca D cX1_surestMove RX1 7 (d + 3) (Gt ad ca D (some .int) (QI r N)) 10 [(0, vR (some x0)), (1, vI x1), (2, vI x2), (3, vI x3), (4, vI x4)] [] M := by
  intro F
  induction F with
  | zero =>
    intro x4 M h
    rw [fX1_surestMove_L10] at h
    cases h
  | succ F hk10 =>
    intro x4 M h
    rw [fX1_surestMove_L10] at h
    refine J_iload (pc := 10) (q := 4) rfl dX1_surestMove_10 ?_
    refine J_bipush (pc := 12) (v := (32 : Int32)) (by decide) dX1_surestMove_12 ?_
    refine J_icgt (pc := 14) (tgt := 71) (by decide) dX1_surestMove_14 (fun hc14 => ?_) (fun hc14 => ?_)
    · rw [if_pos hc14] at h
      refine J_iconst (pc := 71) (v := (-1 : Int32)) (by decide) dX1_surestMove_71 ?_
      exact J_iret (pc := 72) (qi_of h) dX1_surestMove_72
    · rw [if_neg hc14] at h
      refine J_iload_n (pc := 17) (q := 3) rfl rfl dX1_surestMove_17 ?_
      refine J_ifle (pc := 18) (tgt := 71) (by decide) dX1_surestMove_18 (fun hc18 => ?_) (fun hc18 => ?_)
      · rw [if_pos hc18] at h
        refine J_iconst (pc := 71) (v := (-1 : Int32)) (by decide) dX1_surestMove_71 ?_
        exact J_iret (pc := 72) (qi_of h) dX1_surestMove_72
      · rw [if_neg hc18] at h
        refine J_aload_n (pc := 21) (q := 0) rfl rfl dX1_surestMove_21 ?_
        obtain ⟨a22, h22, g_1⟩ := bnd h
        refine J_getR (pc := 22) (i := 1) clF1 (by decide) rfl fl_RX1_25 h22 dX1_surestMove_22 ?_
        refine J_iload_n (pc := 25) (q := 1) rfl rfl dX1_surestMove_25 ?_
        refine J_iload (pc := 26) (q := 4) rfl dX1_surestMove_26 ?_
        obtain ⟨b28, hb28, g_2⟩ := bnd g_1
        obtain ⟨r28, M28, h28, g_3⟩ := bnd2 g_2
        refine J_callVI (pc := 28) (as := [vI x1, vI x4]) (tX3_pairAfter (d := d)  h28) cf_X3_pairAfter cv_X3_pairAfter clF3 hb28 ml_RX1_69 (by omega) (Nat.le_of_ble_eq_true rfl) dX1_surestMove_28 ?_
        refine J_istore (pc := 31) (by decide) (lv' := [(0, vR (some x0)), (1, vI x1), (2, vI x2), (3, vI x3), (4, vI x4), (5, vI r28)]) rfl dX1_surestMove_31 ?_
        refine J_iload (pc := 33) (q := 5) rfl dX1_surestMove_33 ?_
        refine J_iflt (pc := 35) (tgt := 65) (by decide) dX1_surestMove_35 (fun hc35 => ?_) (fun hc35 => ?_)
        · rw [if_pos hc35] at g_3
          refine J_sub [0, 1, 2, 3, 4] (lv' := [(0, vR (some x0)), (1, vI x1), (2, vI x2), (3, vI x3), (4, vI x4)]) rfl ?_
          exact jX1_surestMove_b65 hk10 g_3
        · rw [if_neg hc35] at g_3
          refine J_aload_n (pc := 38) (q := 0) rfl rfl dX1_surestMove_38 ?_
          obtain ⟨a39, h39, g_4⟩ := bnd g_3
          refine J_getR (pc := 39) (i := 3) clF1 (by decide) rfl fl_RX1_19 h39 dX1_surestMove_39 ?_
          refine J_iload (pc := 42) (q := 5) rfl dX1_surestMove_42 ?_
          refine J_iload_n (pc := 44) (q := 2) rfl rfl dX1_surestMove_44 ?_
          obtain ⟨r45, M45, h45, g_5⟩ := bnd2 g_4
          refine J_callSI (pc := 45) (as := [vI r28, vI x2]) (tX1_moved (d := d)  h45) cf_X1_moved cv_X1_moved ml_RX1_73 (by omega) (Nat.le_of_ble_eq_true rfl) dX1_surestMove_45 ?_
          obtain ⟨a48, h48, g_6⟩ := bnd g_5
          refine J_ald0 (pc := 48) h48 dX1_surestMove_48 ?_
          refine J_istore (pc := 49) (by decide) (lv' := [(0, vR (some x0)), (1, vI x1), (2, vI x2), (3, vI x3), (4, vI x4), (5, vI r28), (6, vI a48)]) rfl dX1_surestMove_49 ?_
          refine J_iload (pc := 51) (q := 6) rfl dX1_surestMove_51 ?_
          refine J_ifle (pc := 53) (tgt := 65) (by decide) dX1_surestMove_53 (fun hc53 => ?_) (fun hc53 => ?_)
          · rw [if_pos hc53] at g_6
            refine J_sub [0, 1, 2, 3, 4] (lv' := [(0, vR (some x0)), (1, vI x1), (2, vI x2), (3, vI x3), (4, vI x4)]) rfl ?_
            exact jX1_surestMove_b65 hk10 g_6
          · rw [if_neg hc53] at g_6
            refine J_iload (pc := 56) (q := 6) rfl dX1_surestMove_56 ?_
            refine J_iload_n (pc := 58) (q := 3) rfl rfl dX1_surestMove_58 ?_
            refine J_icgt (pc := 59) (tgt := 65) (by decide) dX1_surestMove_59 (fun hc59 => ?_) (fun hc59 => ?_)
            · rw [if_pos hc59] at g_6
              refine J_sub [0, 1, 2, 3, 4] (lv' := [(0, vR (some x0)), (1, vI x1), (2, vI x2), (3, vI x3), (4, vI x4)]) rfl ?_
              exact jX1_surestMove_b65 hk10 g_6
            · rw [if_neg hc59] at g_6
              refine J_iload (pc := 62) (q := 4) rfl dX1_surestMove_62 ?_
              exact J_iret (pc := 64) (qi_of g_6) dX1_surestMove_64
set_option maxHeartbeats 4000000 in
set_option maxRecDepth 100000 in
theorem tX1_surestMove {ad : Nat → Nat} {ca : Nat → ClassId} {D : va_G} {FU d : Nat} {r : Int32} {N : Mem}  {x0 : Nat} {x1 : Int32} {x2 : Int32} {M : Mem}  (h : fX1_surestMove FU  x0 x1 x2 M = some (r, N)) : Ct ad ca D yX1_surestMove cX1_surestMove 7 (some .int) (d + 3) [vR (some x0), vI x1, vI x2] M (QI r N) := by
  refine Ct_of (by decide) (Nat.le_of_ble_eq_true rfl) ?_
  show J ad ca D cX1_surestMove RX1 7 (d + 3) (Gt ad ca D (some .int) (QI r N)) 0 [(0, vR (some x0)), (1, vI x1), (2, vI x2)] [] M
  unfold fX1_surestMove at h
  refine J_aload_n (pc := 0) (q := 0) rfl rfl dX1_surestMove_0 ?_
  refine J_iload_n (pc := 1) (q := 1) rfl rfl dX1_surestMove_1 ?_
  refine J_iload_n (pc := 2) (q := 2) rfl rfl dX1_surestMove_2 ?_
  obtain ⟨b3, hb3, g_7⟩ := bnd h
  obtain ⟨r3, M3, h3, g_8⟩ := bnd2 g_7
  refine J_callVI (pc := 3) (as := [vI x1, vI x2]) (tX1_leastRounds (d := d)  h3) cf_X1_leastRounds cv_X1_leastRounds clF1 hb3 ml_RX1_79 (by omega) (Nat.le_of_ble_eq_true rfl) dX1_surestMove_3 ?_
  refine J_istore_n (pc := 6) rfl (by decide) (lv' := [(0, vR (some x0)), (1, vI x1), (2, vI x2), (3, vI r3)]) rfl dX1_surestMove_6 ?_
  refine J_iconst (pc := 7) (v := (0 : Int32)) (by decide) dX1_surestMove_7 ?_
  refine J_istore (pc := 8) (by decide) (lv' := [(0, vR (some x0)), (1, vI x1), (2, vI x2), (3, vI r3), (4, vI (0 : Int32))]) rfl dX1_surestMove_8 ?_
  exact jX1_surestMove_L10  FU _ _ g_8
set_option maxHeartbeats 4000000 in
set_option maxRecDepth 100000 in
theorem jX2_take_b153 {ad : Nat → Nat} {ca : Nat → ClassId} {D : va_G} {FU d : Nat} {N : Mem}  {k53 : Int32 → Mem → Option (Mem)} {x0 : Nat} {x2 : Int32} {M : Mem}  (hk53 : ∀ (y2 : Int32) (M : Mem), k53 y2 M = some N → J ad ca D cX2_take RX2 4 (d + 0) (Gt ad ca D none (QV N)) 53 [(0, vR (some x0)), (2, vI y2)] [] M) (h : fX2_take_b153 FU  k53 x0 x2 M = some N) : J ad ca D cX2_take RX2 4 (d + 0) (Gt ad ca D none (QV N)) 153 [(0, vR (some x0)), (2, vI x2)] [] M := by
  unfold fX2_take_b153 at h
  refine J_iinc (pc := 153) (q := 1) rfl (v := x2 + (1 : Int32)) rfl (by decide) (lv' := [(0, vR (some x0)), (2, vI (x2 + (1 : Int32)))]) rfl dX2_take_153 ?_
  refine J_goto (pc := 156) (tgt := 53) (by decide) dX2_take_156 ?_
  exact hk53 _ _ h
set_option maxHeartbeats 4000000 in
set_option maxRecDepth 100000 in
theorem jX2_take_L53 {ad : Nat → Nat} {ca : Nat → ClassId} {D : va_G} {FU d : Nat} {N : Mem}   {x0 : Nat}   : ∀ (F : Nat) (x2 : Int32) (M : Mem), fX2_take_L53 FU  x0 F x2 M = some N → J ad ca D cX2_take RX2 4 (d + 0) (Gt ad ca D none (QV N)) 53 [(0, vR (some x0)), (2, vI x2)] [] M := by
  intro F
  induction F with
  | zero =>
    intro x2 M h
    rw [fX2_take_L53] at h
    cases h
  | succ F hk53 =>
    intro x2 M h
    rw [fX2_take_L53] at h
    refine J_iload_n (pc := 53) (q := 1) rfl rfl dX2_take_53 ?_
    refine J_aload_n (pc := 54) (q := 0) rfl rfl dX2_take_54 ?_
    obtain ⟨a55, h55, g_1⟩ := bnd h
    refine J_getR (pc := 55) (i := 0) clF2 (by decide) rfl fl_RX2_28 h55 dX2_take_55 ?_
    obtain ⟨a58, h58, g_2⟩ := bnd g_1
    refine J_getI (pc := 58) (i := 8) clF3 (by decide) rfl fl_RX2_32 h58 dX2_take_58 ?_
    refine J_icge (pc := 61) (tgt := 159) (by decide) dX2_take_61 (fun hc61 => ?_) (fun hc61 => ?_)
    · rw [if_pos hc61] at g_2
      exact J_vret (pc := 159) (qv_of g_2) dX2_take_159
    · rw [if_neg hc61] at g_2
      refine J_iconst (pc := 64) (v := (1 : Int32)) (by decide) dX2_take_64 ?_
      refine J_iconst (pc := 65) (v := (5 : Int32)) (by decide) dX2_take_65 ?_
      refine J_aload_n (pc := 66) (q := 0) rfl rfl dX2_take_66 ?_
      obtain ⟨a67, h67, g_3⟩ := bnd g_2
      refine J_getR (pc := 67) (i := 0) clF2 (by decide) rfl fl_RX2_28 h67 dX2_take_67 ?_
      obtain ⟨a70, h70, g_4⟩ := bnd g_3
      refine J_getR (pc := 70) (i := 1) clF3 (by decide) rfl fl_RX2_33 h70 dX2_take_70 ?_
      refine J_iload_n (pc := 73) (q := 1) rfl rfl dX2_take_73 ?_
      obtain ⟨a74, h74, g_5⟩ := bnd g_4
      refine J_ald0 (pc := 74) h74 dX2_take_74 ?_
      refine J_imul (pc := 75) dX2_take_75 ?_
      refine J_ishl (pc := 76) dX2_take_76 ?_
      refine J_istore_n (pc := 77) rfl (by decide) (lv' := [(0, vR (some x0)), (2, vI x2), (3, vI ((1 : Int32) <<< (((5 : Int32) * a74) &&& 31)))]) rfl dX2_take_77 ?_
      refine J_aload_n (pc := 78) (q := 0) rfl rfl dX2_take_78 ?_
      obtain ⟨a79, h79, g_6⟩ := bnd g_5
      refine J_getR (pc := 79) (i := 3) clF2 (by decide) rfl fl_RX2_18 h79 dX2_take_79 ?_
      refine J_aload_n (pc := 82) (q := 0) rfl rfl dX2_take_82 ?_
      obtain ⟨a83, h83, g_7⟩ := bnd g_6
      refine J_getR (pc := 83) (i := 0) clF2 (by decide) rfl fl_RX2_28 h83 dX2_take_83 ?_
      obtain ⟨a86, h86, g_8⟩ := bnd g_7
      refine J_getR (pc := 86) (i := 2) clF3 (by decide) rfl fl_RX2_36 h86 dX2_take_86 ?_
      refine J_iload_n (pc := 89) (q := 1) rfl rfl dX2_take_89 ?_
      obtain ⟨a90, h90, g_9⟩ := bnd g_8
      refine J_ald0 (pc := 90) h90 dX2_take_90 ?_
      refine J_bipush (pc := 91) (v := (8 : Int32)) (by decide) dX2_take_91 ?_
      refine J_imul (pc := 93) dX2_take_93 ?_
      refine J_aload_n (pc := 94) (q := 0) rfl rfl dX2_take_94 ?_
      obtain ⟨a95, h95, g_10⟩ := bnd g_9
      refine J_getR (pc := 95) (i := 0) clF2 (by decide) rfl fl_RX2_28 h95 dX2_take_95 ?_
      obtain ⟨a98, h98, g_11⟩ := bnd g_10
      refine J_getR (pc := 98) (i := 3) clF3 (by decide) rfl fl_RX2_39 h98 dX2_take_98 ?_
      refine J_iload_n (pc := 101) (q := 1) rfl rfl dX2_take_101 ?_
      obtain ⟨a102, h102, g_12⟩ := bnd g_11
      refine J_ald0 (pc := 102) h102 dX2_take_102 ?_
      refine J_iadd (pc := 103) dX2_take_103 ?_
      refine J_dup2 (pc := 104) rfl rfl dX2_take_104 ?_
      obtain ⟨a105, h105, g_13⟩ := bnd g_12
      refine J_ald0 (pc := 105) h105 dX2_take_105 ?_
      refine J_iload_n (pc := 106) (q := 2) rfl rfl dX2_take_106 ?_
      refine J_iadd (pc := 107) dX2_take_107 ?_
      obtain ⟨M108, h108, g_14⟩ := bnd g_13
      refine J_ast0 (pc := 108) h108 dX2_take_108 ?_
      refine J_aload_n (pc := 109) (q := 0) rfl rfl dX2_take_109 ?_
      obtain ⟨a110, h110, g_15⟩ := bnd g_14
      refine J_getR (pc := 110) (i := 0) clF2 (by decide) rfl fl_RX2_28 h110 dX2_take_110 ?_
      obtain ⟨a113, h113, g_16⟩ := bnd g_15
      refine J_getR (pc := 113) (i := 1) clF3 (by decide) rfl fl_RX2_33 h113 dX2_take_113 ?_
      refine J_iload_n (pc := 116) (q := 1) rfl rfl dX2_take_116 ?_
      obtain ⟨a117, h117, g_17⟩ := bnd g_16
      refine J_ald0 (pc := 117) h117 dX2_take_117 ?_
      refine J_iconst (pc := 118) (v := (5 : Int32)) (by decide) dX2_take_118 ?_
      refine J_iceq (pc := 119) (tgt := 153) (by decide) dX2_take_119 (fun hc119 => ?_) (fun hc119 => ?_)
      · rw [if_pos hc119] at g_17
        refine J_sub [0, 1] (lv' := [(0, vR (some x0)), (2, vI x2)]) rfl ?_
        exact jX2_take_b153 hk53 g_17
      · rw [if_neg hc119] at g_17
        refine J_aload_n (pc := 122) (q := 0) rfl rfl dX2_take_122 ?_
        obtain ⟨a123, h123, g_18⟩ := bnd g_17
        refine J_getR (pc := 123) (i := 3) clF2 (by decide) rfl fl_RX2_18 h123 dX2_take_123 ?_
        refine J_aload_n (pc := 126) (q := 0) rfl rfl dX2_take_126 ?_
        obtain ⟨a127, h127, g_19⟩ := bnd g_18
        refine J_getR (pc := 127) (i := 0) clF2 (by decide) rfl fl_RX2_28 h127 dX2_take_127 ?_
        obtain ⟨a130, h130, g_20⟩ := bnd g_19
        refine J_getR (pc := 130) (i := 3) clF3 (by decide) rfl fl_RX2_39 h130 dX2_take_130 ?_
        refine J_iload_n (pc := 133) (q := 1) rfl rfl dX2_take_133 ?_
        obtain ⟨a134, h134, g_21⟩ := bnd g_20
        refine J_ald0 (pc := 134) h134 dX2_take_134 ?_
        refine J_bipush (pc := 135) (v := (8 : Int32)) (by decide) dX2_take_135 ?_
        refine J_imul (pc := 137) dX2_take_137 ?_
        refine J_aload_n (pc := 138) (q := 0) rfl rfl dX2_take_138 ?_
        obtain ⟨a139, h139, g_22⟩ := bnd g_21
        refine J_getR (pc := 139) (i := 0) clF2 (by decide) rfl fl_RX2_28 h139 dX2_take_139 ?_
        obtain ⟨a142, h142, g_23⟩ := bnd g_22
        refine J_getR (pc := 142) (i := 2) clF3 (by decide) rfl fl_RX2_36 h142 dX2_take_142 ?_
        refine J_iload_n (pc := 145) (q := 1) rfl rfl dX2_take_145 ?_
        obtain ⟨a146, h146, g_24⟩ := bnd g_23
        refine J_ald0 (pc := 146) h146 dX2_take_146 ?_
        refine J_iadd (pc := 147) dX2_take_147 ?_
        refine J_dup2 (pc := 148) rfl rfl dX2_take_148 ?_
        obtain ⟨a149, h149, g_25⟩ := bnd g_24
        refine J_ald0 (pc := 149) h149 dX2_take_149 ?_
        refine J_iload_n (pc := 150) (q := 2) rfl rfl dX2_take_150 ?_
        refine J_iadd (pc := 151) dX2_take_151 ?_
        obtain ⟨M152, h152, g_26⟩ := bnd g_25
        refine J_ast0 (pc := 152) h152 dX2_take_152 ?_
        refine J_sub [0, 1] (lv' := [(0, vR (some x0)), (2, vI x2)]) rfl ?_
        exact jX2_take_b153 hk53 g_26
set_option maxHeartbeats 4000000 in
set_option maxRecDepth 100000 in
theorem jX2_take_L32 {ad : Nat → Nat} {ca : Nat → ClassId} {D : va_G} {FU d : Nat} {N : Mem}   {x0 : Nat}   : ∀ (F : Nat) (x2 : Int32) (M : Mem), fX2_take_L32 FU  x0 F x2 M = some N → J ad ca D cX2_take RX2 4 (d + 0) (Gt ad ca D none (QV N)) 32 [(0, vR (some x0)), (2, vI x2)] [] M := by
  intro F
  induction F with
  | zero =>
    intro x2 M h
    rw [fX2_take_L32] at h
    cases h
  | succ F hk32 =>
    intro x2 M h
    rw [fX2_take_L32] at h
    refine J_iload_n (pc := 32) (q := 1) rfl rfl dX2_take_32 ?_
    refine J_bipush (pc := 33) (v := (64 : Int32)) (by decide) dX2_take_33 ?_
    refine J_icge (pc := 35) (tgt := 51) (by decide) dX2_take_35 (fun hc35 => ?_) (fun hc35 => ?_)
    · rw [if_pos hc35] at h
      refine J_iconst (pc := 51) (v := (0 : Int32)) (by decide) dX2_take_51 ?_
      refine J_istore_n (pc := 52) rfl (by decide) (lv' := [(0, vR (some x0)), (2, vI (0 : Int32))]) rfl dX2_take_52 ?_
      exact jX2_take_L53  FU _ _ h
    · rw [if_neg hc35] at h
      refine J_aload_n (pc := 38) (q := 0) rfl rfl dX2_take_38 ?_
      obtain ⟨a39, h39, g_27⟩ := bnd h
      refine J_getR (pc := 39) (i := 3) clF2 (by decide) rfl fl_RX2_18 h39 dX2_take_39 ?_
      refine J_iload_n (pc := 42) (q := 1) rfl rfl dX2_take_42 ?_
      refine J_iconst (pc := 43) (v := (0 : Int32)) (by decide) dX2_take_43 ?_
      obtain ⟨M44, h44, g_28⟩ := bnd g_27
      refine J_ast0 (pc := 44) h44 dX2_take_44 ?_
      refine J_iinc (pc := 45) (q := 1) rfl (v := x2 + (1 : Int32)) rfl (by decide) (lv' := [(0, vR (some x0)), (2, vI (x2 + (1 : Int32)))]) rfl dX2_take_45 ?_
      refine J_goto (pc := 48) (tgt := 32) (by decide) dX2_take_48 ?_
      exact hk32 _ _ g_28
set_option maxHeartbeats 4000000 in
set_option maxRecDepth 100000 in
theorem tX2_take {ad : Nat → Nat} {ca : Nat → ClassId} {D : va_G} {FU d : Nat} {N : Mem}  {x0 : Nat} {x1 : Option Nat} {M : Mem}  (h : fX2_take FU  x0 x1 M = some N) : Ct ad ca D yX2_take cX2_take 4 none (d + 0) [vR (some x0), vR x1] M (QV N) := by
  refine Ct_of (by decide) (Nat.le_of_ble_eq_true rfl) ?_
  show J ad ca D cX2_take RX2 4 (d + 0) (Gt ad ca D none (QV N)) 0 [(0, vR (some x0)), (1, vR x1)] [] M
  unfold fX2_take at h
  refine J_aload_n (pc := 0) (q := 0) rfl rfl dX2_take_0 ?_
  obtain ⟨a1, h1, g_29⟩ := bnd h
  refine J_getI (pc := 1) (i := 1) clF2 (by decide) rfl fl_RX2_9 h1 dX2_take_1 ?_
  refine J_aload_n (pc := 4) (q := 1) rfl rfl dX2_take_4 ?_
  obtain ⟨a5, h5, g_30⟩ := bnd g_29
  refine J_getI (pc := 5) (i := 12) clF3 (by decide) rfl fl_RX2_25 h5 dX2_take_5 ?_
  refine J_icne (pc := 8) (tgt := 12) (by decide) dX2_take_8 (fun hc8 => ?_) (fun hc8 => ?_)
  · rw [if_pos hc8] at g_30
    refine J_aload_n (pc := 12) (q := 0) rfl rfl dX2_take_12 ?_
    refine J_aload_n (pc := 13) (q := 1) rfl rfl dX2_take_13 ?_
    obtain ⟨M14, h14, g_31⟩ := bnd g_30
    refine J_putR (pc := 14) (i := 0) clF2 (by decide) rfl fl_RX2_28 rfl (Or.inl ⟨_, rfl⟩) h14 dX2_take_14 ?_
    refine J_aload_n (pc := 17) (q := 0) rfl rfl dX2_take_17 ?_
    refine J_aload_n (pc := 18) (q := 1) rfl rfl dX2_take_18 ?_
    obtain ⟨a19, h19, g_32⟩ := bnd g_31
    refine J_getI (pc := 19) (i := 12) clF3 (by decide) rfl fl_RX2_25 h19 dX2_take_19 ?_
    obtain ⟨M22, h22, g_33⟩ := bnd g_32
    refine J_putI (pc := 22) (i := 1) clF2 (by decide) rfl fl_RX2_9 rfl rfl h22 dX2_take_22 ?_
    refine J_aload_n (pc := 25) (q := 0) rfl rfl dX2_take_25 ?_
    refine J_iconst (pc := 26) (v := (-1 : Int32)) (by decide) dX2_take_26 ?_
    obtain ⟨M27, h27, g_34⟩ := bnd g_33
    refine J_putI (pc := 27) (i := 2) clF2 (by decide) rfl fl_RX2_15 rfl rfl h27 dX2_take_27 ?_
    refine J_iconst (pc := 30) (v := (0 : Int32)) (by decide) dX2_take_30 ?_
    refine J_istore_n (pc := 31) rfl (by decide) (lv' := [(0, vR (some x0)), (1, vR x1), (2, vI (0 : Int32))]) rfl dX2_take_31 ?_
    refine J_sub [0, 2] (lv' := [(0, vR (some x0)), (2, vI (0 : Int32))]) rfl ?_
    exact jX2_take_L32  FU _ _ g_34
  · rw [if_neg hc8] at g_30
    exact J_vret (pc := 11) (qv_of g_30) dX2_take_11
set_option maxHeartbeats 4000000 in
set_option maxRecDepth 100000 in
theorem jX2_forgetNames_L7 {ad : Nat → Nat} {ca : Nat → ClassId} {D : va_G} {FU d : Nat} {N : Mem}   {x0 : Nat}   : ∀ (F : Nat) (x1 : Int32) (M : Mem), fX2_forgetNames_L7 FU  x0 F x1 M = some N → J ad ca D cX2_forgetNames RX2 2 (d + 0) (Gt ad ca D none (QV N)) 7 [(0, vR (some x0)), (1, vI x1)] [] M := by
  intro F
  induction F with
  | zero =>
    intro x1 M h
    rw [fX2_forgetNames_L7] at h
    cases h
  | succ F hk7 =>
    intro x1 M h
    rw [fX2_forgetNames_L7] at h
    refine J_iload_n (pc := 7) (q := 1) rfl rfl dX2_forgetNames_7 ?_
    refine J_bipush (pc := 8) (v := (8 : Int32)) (by decide) dX2_forgetNames_8 ?_
    refine J_icge (pc := 10) (tgt := 26) (by decide) dX2_forgetNames_10 (fun hc10 => ?_) (fun hc10 => ?_)
    · rw [if_pos hc10] at h
      exact J_vret (pc := 26) (qv_of h) dX2_forgetNames_26
    · rw [if_neg hc10] at h
      refine J_aload_n (pc := 13) (q := 0) rfl rfl dX2_forgetNames_13 ?_
      obtain ⟨a14, h14, g_1⟩ := bnd h
      refine J_getR (pc := 14) (i := 4) clF2 (by decide) rfl fl_RX2_22 h14 dX2_forgetNames_14 ?_
      refine J_iload_n (pc := 17) (q := 1) rfl rfl dX2_forgetNames_17 ?_
      refine J_iconst (pc := 18) (v := (-1 : Int32)) (by decide) dX2_forgetNames_18 ?_
      obtain ⟨M19, h19, g_2⟩ := bnd g_1
      refine J_ast0 (pc := 19) h19 dX2_forgetNames_19 ?_
      refine J_iinc (pc := 20) (q := 1) rfl (v := x1 + (1 : Int32)) rfl (by decide) (lv' := [(0, vR (some x0)), (1, vI (x1 + (1 : Int32)))]) rfl dX2_forgetNames_20 ?_
      refine J_goto (pc := 23) (tgt := 7) (by decide) dX2_forgetNames_23 ?_
      exact hk7 _ _ g_2
set_option maxHeartbeats 4000000 in
set_option maxRecDepth 100000 in
theorem tX2_forgetNames {ad : Nat → Nat} {ca : Nat → ClassId} {D : va_G} {FU d : Nat} {N : Mem}  {x0 : Nat} {M : Mem}  (h : fX2_forgetNames FU  x0 M = some N) : Ct ad ca D yX2_forgetNames cX2_forgetNames 2 none (d + 0) [vR (some x0)] M (QV N) := by
  refine Ct_of (by decide) (Nat.le_of_ble_eq_true rfl) ?_
  show J ad ca D cX2_forgetNames RX2 2 (d + 0) (Gt ad ca D none (QV N)) 0 [(0, vR (some x0))] [] M
  unfold fX2_forgetNames at h
  refine J_aload_n (pc := 0) (q := 0) rfl rfl dX2_forgetNames_0 ?_
  refine J_iconst (pc := 1) (v := (0 : Int32)) (by decide) dX2_forgetNames_1 ?_
  obtain ⟨M2, h2, g_3⟩ := bnd h
  refine J_putI (pc := 2) (i := 5) clF2 (by decide) rfl fl_RX2_74 rfl rfl h2 dX2_forgetNames_2 ?_
  refine J_iconst (pc := 5) (v := (0 : Int32)) (by decide) dX2_forgetNames_5 ?_
  refine J_istore_n (pc := 6) rfl (by decide) (lv' := [(0, vR (some x0)), (1, vI (0 : Int32))]) rfl dX2_forgetNames_6 ?_
  exact jX2_forgetNames_L7  FU _ _ g_3
set_option maxHeartbeats 4000000 in
set_option maxRecDepth 100000 in
theorem jX2_give_b139 {ad : Nat → Nat} {ca : Nat → ClassId} {D : va_G} {FU d : Nat} {r : Int32} {N : Mem}  {k61 : Int32 → Mem → Option (Int32 × Mem)} {x0 : Nat} {x1 : Int32} {x2 : Int32} {x3 : Int32} {M : Mem}  (hk61 : ∀ (y3 : Int32) (M : Mem), k61 y3 M = some (r, N) → J ad ca D cX2_give RX2 5 (d + 0) (Gt ad ca D (some .boolean) (QI r N)) 61 [(0, vR (some x0)), (1, vI x1), (2, vI x2), (3, vI y3)] [] M) (h : fX2_give_b139 FU  k61 x0 x1 x2 x3 M = some (r, N)) : J ad ca D cX2_give RX2 5 (d + 0) (Gt ad ca D (some .boolean) (QI r N)) 139 [(0, vR (some x0)), (1, vI x1), (2, vI x2), (3, vI x3)] [] M := by
  unfold fX2_give_b139 at h
  refine J_iinc (pc := 139) (q := 3) rfl (v := x3 + (1 : Int32)) rfl (by decide) (lv' := [(0, vR (some x0)), (1, vI x1), (2, vI x2), (3, vI (x3 + (1 : Int32)))]) rfl dX2_give_139 ?_
  refine J_goto (pc := 142) (tgt := 61) (by decide) dX2_give_142 ?_
  exact hk61 _ _ h
set_option maxHeartbeats 4000000 in
set_option maxRecDepth 100000 in
theorem jX2_give_L61 {ad : Nat → Nat} {ca : Nat → ClassId} {D : va_G} {FU d : Nat} {r : Int32} {N : Mem}   {x0 : Nat} {x1 : Int32} {x2 : Int32}   : ∀ (F : Nat) (x3 : Int32) (M : Mem), fX2_give_L61 FU  x0 x1 x2 F x3 M = some (r, N) → J ad ca D cX2_give RX2 5 (d + 0) (Gt ad ca D (some .boolean) (QI r N)) 61 [(0, vR (some x0)), (1, vI x1), (2, vI x2), (3, vI x3)] [] M := by
  intro F
  induction F with
  | zero =>
    intro x3 M h
    rw [fX2_give_L61] at h
    cases h
  | succ F hk61 =>
    intro x3 M h
    rw [fX2_give_L61] at h
    refine J_iload_n (pc := 61) (q := 3) rfl rfl dX2_give_61 ?_
    refine J_aload_n (pc := 62) (q := 0) rfl rfl dX2_give_62 ?_
    obtain ⟨a63, h63, g_1⟩ := bnd h
    refine J_getR (pc := 63) (i := 0) clF2 (by decide) rfl fl_RX2_28 h63 dX2_give_63 ?_
    obtain ⟨a66, h66, g_2⟩ := bnd g_1
    refine J_getI (pc := 66) (i := 0) clF3 (by decide) rfl fl_RX2_46 h66 dX2_give_66 ?_
    refine J_icge (pc := 69) (tgt := 145) (by decide) dX2_give_69 (fun hc69 => ?_) (fun hc69 => ?_)
    · rw [if_pos hc69] at g_2
      refine J_aload_n (pc := 145) (q := 0) rfl rfl dX2_give_145 ?_
      obtain ⟨a146, h146, g_3⟩ := bnd g_2
      refine J_getR (pc := 146) (i := 4) clF2 (by decide) rfl fl_RX2_22 h146 dX2_give_146 ?_
      refine J_iload_n (pc := 149) (q := 1) rfl rfl dX2_give_149 ?_
      refine J_iload_n (pc := 150) (q := 2) rfl rfl dX2_give_150 ?_
      obtain ⟨M151, h151, g_4⟩ := bnd g_3
      refine J_ast0 (pc := 151) h151 dX2_give_151 ?_
      refine J_aload_n (pc := 152) (q := 0) rfl rfl dX2_give_152 ?_
      refine J_dup (pc := 153) rfl dX2_give_153 ?_
      obtain ⟨a154, h154, g_5⟩ := bnd g_4
      refine J_getI (pc := 154) (i := 5) clF2 (by decide) rfl fl_RX2_74 h154 dX2_give_154 ?_
      refine J_iconst (pc := 157) (v := (1 : Int32)) (by decide) dX2_give_157 ?_
      refine J_iload_n (pc := 158) (q := 2) rfl rfl dX2_give_158 ?_
      refine J_ishl (pc := 159) dX2_give_159 ?_
      refine J_ior (pc := 160) dX2_give_160 ?_
      obtain ⟨M161, h161, g_6⟩ := bnd g_5
      refine J_putI (pc := 161) (i := 5) clF2 (by decide) rfl fl_RX2_74 rfl rfl h161 dX2_give_161 ?_
      refine J_iconst (pc := 164) (v := (1 : Int32)) (by decide) dX2_give_164 ?_
      exact J_zret (pc := 165) (Or.inr rfl) (qi_of g_6) dX2_give_165
    · rw [if_neg hc69] at g_2
      refine J_aload_n (pc := 72) (q := 0) rfl rfl dX2_give_72 ?_
      obtain ⟨a73, h73, g_7⟩ := bnd g_2
      refine J_getR (pc := 73) (i := 4) clF2 (by decide) rfl fl_RX2_22 h73 dX2_give_73 ?_
      refine J_iload_n (pc := 76) (q := 3) rfl rfl dX2_give_76 ?_
      obtain ⟨a77, h77, g_8⟩ := bnd g_7
      refine J_ald0 (pc := 77) h77 dX2_give_77 ?_
      refine J_istore (pc := 78) (by decide) (lv' := [(0, vR (some x0)), (1, vI x1), (2, vI x2), (3, vI x3), (4, vI a77)]) rfl dX2_give_78 ?_
      refine J_iload (pc := 80) (q := 4) rfl dX2_give_80 ?_
      refine J_iflt (pc := 82) (tgt := 139) (by decide) dX2_give_82 (fun hc82 => ?_) (fun hc82 => ?_)
      · rw [if_pos hc82] at g_8
        refine J_sub [0, 1, 2, 3] (lv' := [(0, vR (some x0)), (1, vI x1), (2, vI x2), (3, vI x3)]) rfl ?_
        exact jX2_give_b139 hk61 g_8
      · rw [if_neg hc82] at g_8
        refine J_aload_n (pc := 85) (q := 0) rfl rfl dX2_give_85 ?_
        obtain ⟨a86, h86, g_9⟩ := bnd g_8
        refine J_getR (pc := 86) (i := 3) clF2 (by decide) rfl fl_RX2_18 h86 dX2_give_86 ?_
        refine J_iload_n (pc := 89) (q := 1) rfl rfl dX2_give_89 ?_
        refine J_bipush (pc := 90) (v := (8 : Int32)) (by decide) dX2_give_90 ?_
        refine J_imul (pc := 92) dX2_give_92 ?_
        refine J_iload_n (pc := 93) (q := 3) rfl rfl dX2_give_93 ?_
        refine J_iadd (pc := 94) dX2_give_94 ?_
        obtain ⟨a95, h95, g_10⟩ := bnd g_9
        refine J_ald0 (pc := 95) h95 dX2_give_95 ?_
        refine J_aload_n (pc := 96) (q := 0) rfl rfl dX2_give_96 ?_
        obtain ⟨a97, h97, g_11⟩ := bnd g_10
        refine J_getR (pc := 97) (i := 3) clF2 (by decide) rfl fl_RX2_18 h97 dX2_give_97 ?_
        refine J_iload_n (pc := 100) (q := 2) rfl rfl dX2_give_100 ?_
        refine J_bipush (pc := 101) (v := (8 : Int32)) (by decide) dX2_give_101 ?_
        refine J_imul (pc := 103) dX2_give_103 ?_
        refine J_iload (pc := 104) (q := 4) rfl dX2_give_104 ?_
        refine J_iadd (pc := 106) dX2_give_106 ?_
        obtain ⟨a107, h107, g_12⟩ := bnd g_11
        refine J_ald0 (pc := 107) h107 dX2_give_107 ?_
        refine J_icne (pc := 108) (tgt := 137) (by decide) dX2_give_108 (fun hc108 => ?_) (fun hc108 => ?_)
        · rw [if_pos hc108] at g_12
          refine J_iconst (pc := 137) (v := (0 : Int32)) (by decide) dX2_give_137 ?_
          exact J_zret (pc := 138) (Or.inl rfl) (qi_of g_12) dX2_give_138
        · rw [if_neg hc108] at g_12
          refine J_aload_n (pc := 111) (q := 0) rfl rfl dX2_give_111 ?_
          obtain ⟨a112, h112, g_13⟩ := bnd g_12
          refine J_getR (pc := 112) (i := 3) clF2 (by decide) rfl fl_RX2_18 h112 dX2_give_112 ?_
          refine J_iload_n (pc := 115) (q := 3) rfl rfl dX2_give_115 ?_
          refine J_bipush (pc := 116) (v := (8 : Int32)) (by decide) dX2_give_116 ?_
          refine J_imul (pc := 118) dX2_give_118 ?_
          refine J_iload_n (pc := 119) (q := 1) rfl rfl dX2_give_119 ?_
          refine J_iadd (pc := 120) dX2_give_120 ?_
          obtain ⟨a121, h121, g_14⟩ := bnd g_13
          refine J_ald0 (pc := 121) h121 dX2_give_121 ?_
          refine J_aload_n (pc := 122) (q := 0) rfl rfl dX2_give_122 ?_
          obtain ⟨a123, h123, g_15⟩ := bnd g_14
          refine J_getR (pc := 123) (i := 3) clF2 (by decide) rfl fl_RX2_18 h123 dX2_give_123 ?_
          refine J_iload (pc := 126) (q := 4) rfl dX2_give_126 ?_
          refine J_bipush (pc := 128) (v := (8 : Int32)) (by decide) dX2_give_128 ?_
          refine J_imul (pc := 130) dX2_give_130 ?_
          refine J_iload_n (pc := 131) (q := 2) rfl rfl dX2_give_131 ?_
          refine J_iadd (pc := 132) dX2_give_132 ?_
          obtain ⟨a133, h133, g_16⟩ := bnd g_15
          refine J_ald0 (pc := 133) h133 dX2_give_133 ?_
          refine J_iceq (pc := 134) (tgt := 139) (by decide) dX2_give_134 (fun hc134 => ?_) (fun hc134 => ?_)
          · rw [if_pos hc134] at g_16
            refine J_sub [0, 1, 2, 3] (lv' := [(0, vR (some x0)), (1, vI x1), (2, vI x2), (3, vI x3)]) rfl ?_
            exact jX2_give_b139 hk61 g_16
          · rw [if_neg hc134] at g_16
            refine J_iconst (pc := 137) (v := (0 : Int32)) (by decide) dX2_give_137 ?_
            exact J_zret (pc := 138) (Or.inl rfl) (qi_of g_16) dX2_give_138
set_option maxHeartbeats 4000000 in
set_option maxRecDepth 100000 in
theorem tX2_give {ad : Nat → Nat} {ca : Nat → ClassId} {D : va_G} {FU d : Nat} {r : Int32} {N : Mem}  {x0 : Nat} {x1 : Int32} {x2 : Int32} {M : Mem}  (h : fX2_give FU  x0 x1 x2 M = some (r, N)) : Ct ad ca D yX2_give cX2_give 5 (some .boolean) (d + 0) [vR (some x0), vI x1, vI x2] M (QI r N) := by
  refine Ct_of (by decide) (Nat.le_of_ble_eq_true rfl) ?_
  show J ad ca D cX2_give RX2 5 (d + 0) (Gt ad ca D (some .boolean) (QI r N)) 0 [(0, vR (some x0)), (1, vI x1), (2, vI x2)] [] M
  unfold fX2_give at h
  refine J_aload_n (pc := 0) (q := 0) rfl rfl dX2_give_0 ?_
  obtain ⟨a1, h1, g_17⟩ := bnd h
  refine J_getR (pc := 1) (i := 4) clF2 (by decide) rfl fl_RX2_22 h1 dX2_give_1 ?_
  refine J_iload_n (pc := 4) (q := 1) rfl rfl dX2_give_4 ?_
  obtain ⟨a5, h5, g_18⟩ := bnd g_17
  refine J_ald0 (pc := 5) h5 dX2_give_5 ?_
  refine J_iflt (pc := 6) (tgt := 25) (by decide) dX2_give_6 (fun hc6 => ?_) (fun hc6 => ?_)
  · rw [if_pos hc6] at g_18
    refine J_aload_n (pc := 25) (q := 0) rfl rfl dX2_give_25 ?_
    obtain ⟨a26, h26, g_19⟩ := bnd g_18
    refine J_getI (pc := 26) (i := 5) clF2 (by decide) rfl fl_RX2_74 h26 dX2_give_26 ?_
    refine J_iload_n (pc := 29) (q := 2) rfl rfl dX2_give_29 ?_
    refine J_ishr (pc := 30) dX2_give_30 ?_
    refine J_iconst (pc := 31) (v := (1 : Int32)) (by decide) dX2_give_31 ?_
    refine J_iand (pc := 32) dX2_give_32 ?_
    refine J_ifne (pc := 33) (tgt := 57) (by decide) dX2_give_33 (fun hc33 => ?_) (fun hc33 => ?_)
    · rw [if_pos hc33] at g_19
      refine J_iconst (pc := 57) (v := (0 : Int32)) (by decide) dX2_give_57 ?_
      exact J_zret (pc := 58) (Or.inl rfl) (qi_of g_19) dX2_give_58
    · rw [if_neg hc33] at g_19
      refine J_aload_n (pc := 36) (q := 0) rfl rfl dX2_give_36 ?_
      obtain ⟨a37, h37, g_20⟩ := bnd g_19
      refine J_getR (pc := 37) (i := 0) clF2 (by decide) rfl fl_RX2_28 h37 dX2_give_37 ?_
      obtain ⟨a40, h40, g_21⟩ := bnd g_20
      refine J_getR (pc := 40) (i := 6) clF3 (by decide) rfl fl_RX2_77 h40 dX2_give_40 ?_
      refine J_iload_n (pc := 43) (q := 1) rfl rfl dX2_give_43 ?_
      obtain ⟨a44, h44, g_22⟩ := bnd g_21
      refine J_ald0 (pc := 44) h44 dX2_give_44 ?_
      refine J_aload_n (pc := 45) (q := 0) rfl rfl dX2_give_45 ?_
      obtain ⟨a46, h46, g_23⟩ := bnd g_22
      refine J_getR (pc := 46) (i := 0) clF2 (by decide) rfl fl_RX2_28 h46 dX2_give_46 ?_
      obtain ⟨a49, h49, g_24⟩ := bnd g_23
      refine J_getR (pc := 49) (i := 6) clF3 (by decide) rfl fl_RX2_77 h49 dX2_give_49 ?_
      refine J_iload_n (pc := 52) (q := 2) rfl rfl dX2_give_52 ?_
      obtain ⟨a53, h53, g_25⟩ := bnd g_24
      refine J_ald0 (pc := 53) h53 dX2_give_53 ?_
      refine J_iceq (pc := 54) (tgt := 59) (by decide) dX2_give_54 (fun hc54 => ?_) (fun hc54 => ?_)
      · rw [if_pos hc54] at g_25
        refine J_iconst (pc := 59) (v := (0 : Int32)) (by decide) dX2_give_59 ?_
        refine J_istore_n (pc := 60) rfl (by decide) (lv' := [(0, vR (some x0)), (1, vI x1), (2, vI x2), (3, vI (0 : Int32))]) rfl dX2_give_60 ?_
        exact jX2_give_L61  FU _ _ g_25
      · rw [if_neg hc54] at g_25
        refine J_iconst (pc := 57) (v := (0 : Int32)) (by decide) dX2_give_57 ?_
        exact J_zret (pc := 58) (Or.inl rfl) (qi_of g_25) dX2_give_58
  · rw [if_neg hc6] at g_18
    refine J_aload_n (pc := 9) (q := 0) rfl rfl dX2_give_9 ?_
    obtain ⟨a10, h10, g_26⟩ := bnd g_18
    refine J_getR (pc := 10) (i := 4) clF2 (by decide) rfl fl_RX2_22 h10 dX2_give_10 ?_
    refine J_iload_n (pc := 13) (q := 1) rfl rfl dX2_give_13 ?_
    obtain ⟨a14, h14, g_27⟩ := bnd g_26
    refine J_ald0 (pc := 14) h14 dX2_give_14 ?_
    refine J_iload_n (pc := 15) (q := 2) rfl rfl dX2_give_15 ?_
    refine J_icne (pc := 16) (tgt := 23) (by decide) dX2_give_16 (fun hc16 => ?_) (fun hc16 => ?_)
    · rw [if_pos hc16] at g_27
      refine J_iconst (pc := 23) (v := (0 : Int32)) (by decide) dX2_give_23 ?_
      exact J_zret (pc := 24) (Or.inl rfl) (qi_of g_27) dX2_give_24
    · rw [if_neg hc16] at g_27
      refine J_iconst (pc := 19) (v := (1 : Int32)) (by decide) dX2_give_19 ?_
      refine J_goto (pc := 20) (tgt := 24) (by decide) dX2_give_20 ?_
      exact J_zret (pc := 24) (Or.inr rfl) (qi_of g_27) dX2_give_24
