set_option maxHeartbeats 4000000 in
set_option maxRecDepth 100000 in
theorem jX9_leastRounds_b48 {ad : Nat → Nat} {ca : Nat → ClassId} {D : va_G} {FU d : Nat} {r : Int32} {N : Mem}   {s0 : Option Nat} {s1 : Int32} {M : Mem}   (h : fX9_leastRounds_b48 FU  s0 s1 M = some (r, N)) : J ad ca D cX9_leastRounds RX9 6 (d + 8) (Gt ad ca D (some .int) (QI r N)) 48 [] [vI s1, vR s0] M := by
  unfold fX9_leastRounds_b48 at h
  obtain ⟨a48, h48, g_1⟩ := bnd h
  refine J_ald0 (pc := 48) h48 dX9_leastRounds_48 ?_
  refine J_istore (pc := 49) (by decide) (lv' := [(5, vI a48)]) rfl dX9_leastRounds_49 ?_
  refine J_iload (pc := 51) (q := 0) rfl dX9_leastRounds_51 ?_
  refine J_bipush (pc := 53) (v := (99 : Int32)) (by decide) dX9_leastRounds_53 ?_
  refine J_icne (pc := 55) (tgt := 62) (by decide) dX9_leastRounds_55 (fun hc55 => ?_) (fun hc55 => ?_)
  · rw [if_pos hc55] at g_1
    refine J_iload (pc := 62) (q := 0) rfl dX9_leastRounds_62 ?_
    exact J_iret (pc := 64) (qi_of g_1) dX9_leastRounds_64
  · rw [if_neg hc55] at g_1
    refine J_iconst (pc := 58) (v := (-1 : Int32)) (by decide) dX9_leastRounds_58 ?_
    refine J_goto (pc := 59) (tgt := 64) (by decide) dX9_leastRounds_59 ?_
    exact J_iret (pc := 64) (qi_of g_1) dX9_leastRounds_64
set_option maxHeartbeats 4000000 in
set_option maxRecDepth 100000 in
theorem jX9_leastRounds_b17 {ad : Nat → Nat} {ca : Nat → ClassId} {D : va_G} {FU d : Nat} {r : Int32} {N : Mem}   {x0 : Nat} {x1 : Int32} {x3 : Int32} {s0 : Int32} {M : Mem}   (h : fX9_leastRounds_b17 FU  x0 x1 x3 s0 M = some (r, N)) : J ad ca D cX9_leastRounds RX9 6 (d + 8) (Gt ad ca D (some .int) (QI r N)) 17 [(0, vR (some x0)), (1, vI x1), (3, vI x3)] [vI s0] M := by
  unfold fX9_leastRounds_b17 at h
  refine J_istore (pc := 17) (by decide) (lv' := [(0, vR (some x0)), (1, vI x1), (3, vI x3), (4, vI s0)]) rfl dX9_leastRounds_17 ?_
  refine J_aload_n (pc := 19) (q := 0) rfl rfl dX9_leastRounds_19 ?_
  obtain ⟨a20, h20, g_2⟩ := bnd h
  refine J_getR (pc := 20) (i := 14) clF9 (by decide) rfl fl_RX9_52 h20 dX9_leastRounds_20 ?_
  refine J_iload_n (pc := 23) (q := 1) rfl rfl dX9_leastRounds_23 ?_
  refine J_iload (pc := 24) (q := 3) rfl dX9_leastRounds_24 ?_
  refine J_icge (pc := 26) (tgt := 40) (by decide) dX9_leastRounds_26 (fun hc26 => ?_) (fun hc26 => ?_)
  · rw [if_pos hc26] at g_2
    refine J_aload_n (pc := 40) (q := 0) rfl rfl dX9_leastRounds_40 ?_
    refine J_iload (pc := 41) (q := 3) rfl dX9_leastRounds_41 ?_
    refine J_iload_n (pc := 43) (q := 1) rfl rfl dX9_leastRounds_43 ?_
    refine J_iload_n (pc := 44) (q := 2) rfl rfl dX9_leastRounds_44 ?_
    obtain ⟨b45, hb45, g_3⟩ := bnd g_2
    obtain ⟨r45, M45, h45, g_4⟩ := bnd2 g_3
    refine J_callVI (pc := 45) (as := [vI s0, vI x1, vI x3]) (tX9_hidden (d := d)  h45) cf_X9_hidden cv_X9_hidden clF9 hb45 ml_RX9_286 (by omega) (Nat.le_of_ble_eq_true rfl) dX9_leastRounds_45 ?_
    refine J_sub [] (lv' := []) rfl ?_
    exact jX9_leastRounds_b48  g_4
  · rw [if_neg hc26] at g_2
    refine J_aload_n (pc := 29) (q := 0) rfl rfl dX9_leastRounds_29 ?_
    refine J_iload_n (pc := 30) (q := 1) rfl rfl dX9_leastRounds_30 ?_
    refine J_iload (pc := 31) (q := 3) rfl dX9_leastRounds_31 ?_
    refine J_iload_n (pc := 33) (q := 2) rfl rfl dX9_leastRounds_33 ?_
    obtain ⟨b34, hb34, g_5⟩ := bnd g_2
    obtain ⟨r34, M34, h34, g_6⟩ := bnd2 g_5
    refine J_callVI (pc := 34) (as := [vI x1, vI s0, vI x3]) (tX9_hidden (d := d)  h34) cf_X9_hidden cv_X9_hidden clF9 hb34 ml_RX9_286 (by omega) (Nat.le_of_ble_eq_true rfl) dX9_leastRounds_34 ?_
    refine J_goto (pc := 37) (tgt := 48) (by decide) dX9_leastRounds_37 ?_
    refine J_sub [] (lv' := []) rfl ?_
    exact jX9_leastRounds_b48  g_6
set_option maxHeartbeats 4000000 in
set_option maxRecDepth 100000 in
theorem tX9_leastRounds {ad : Nat → Nat} {ca : Nat → ClassId} {D : va_G} {FU d : Nat} {r : Int32} {N : Mem}  {x0 : Nat} {x1 : Int32} {x2 : Int32} {x3 : Int32} {M : Mem}  (h : fX9_leastRounds FU  x0 x1 x2 x3 M = some (r, N)) : Ct ad ca D yX9_leastRounds cX9_leastRounds 6 (some .int) (d + 8) [vR (some x0), vI x1, vI x2, vI x3] M (QI r N) := by
  refine Ct_of (by decide) (Nat.le_of_ble_eq_true rfl) ?_
  show J ad ca D cX9_leastRounds RX9 6 (d + 8) (Gt ad ca D (some .int) (QI r N)) 0 [(0, vR (some x0)), (1, vI x1), (2, vI x2), (3, vI x3)] [] M
  unfold fX9_leastRounds at h
  refine J_aload_n (pc := 0) (q := 0) rfl rfl dX9_leastRounds_0 ?_
  obtain ⟨b1, hb1, g_7⟩ := bnd h
  obtain ⟨M1, h1, g_8⟩ := bnd g_7
  refine J_callVV (pc := 1) (as := []) (tX9_findRounds (d := d)  h1) cf_X9_findRounds cv_X9_findRounds clF9 hb1 ml_RX9_313 (by omega) (Nat.le_of_ble_eq_true rfl) dX9_leastRounds_1 ?_
  refine J_aload_n (pc := 4) (q := 0) rfl rfl dX9_leastRounds_4 ?_
  obtain ⟨a5, h5, g_9⟩ := bnd g_8
  refine J_getI (pc := 5) (i := 2) clF9 (by decide) rfl fl_RX9_13 h5 dX9_leastRounds_5 ?_
  refine J_iconst (pc := 8) (v := (1 : Int32)) (by decide) dX9_leastRounds_8 ?_
  refine J_icne (pc := 9) (tgt := 16) (by decide) dX9_leastRounds_9 (fun hc9 => ?_) (fun hc9 => ?_)
  · rw [if_pos hc9] at g_9
    refine J_iload_n (pc := 16) (q := 2) rfl rfl dX9_leastRounds_16 ?_
    refine J_sub [0, 1, 3] (lv' := [(0, vR (some x0)), (1, vI x1), (3, vI x3)]) rfl ?_
    exact jX9_leastRounds_b17  g_9
  · rw [if_neg hc9] at g_9
    refine J_iload_n (pc := 12) (q := 1) rfl rfl dX9_leastRounds_12 ?_
    refine J_goto (pc := 13) (tgt := 17) (by decide) dX9_leastRounds_13 ?_
    refine J_sub [0, 1, 3] (lv' := [(0, vR (some x0)), (1, vI x1), (3, vI x3)]) rfl ?_
    exact jX9_leastRounds_b17  g_9
set_option maxHeartbeats 4000000 in
set_option maxRecDepth 100000 in
theorem tX9_sure {ad : Nat → Nat} {ca : Nat → ClassId} {D : va_G} {FU d : Nat} {r : Int32} {N : Mem}  {x0 : Nat} {x1 : Int32} {x2 : Int32} {x3 : Int32} {M : Mem}  (h : fX9_sure FU  x0 x1 x2 x3 M = some (r, N)) : Ct ad ca D yX9_sure cX9_sure 4 (some .int) (d + 9) [vR (some x0), vI x1, vI x2, vI x3] M (QI r N) := by
  refine Ct_of (by decide) (Nat.le_of_ble_eq_true rfl) ?_
  show J ad ca D cX9_sure RX9 4 (d + 9) (Gt ad ca D (some .int) (QI r N)) 0 [(0, vR (some x0)), (1, vI x1), (2, vI x2), (3, vI x3)] [] M
  unfold fX9_sure at h
  refine J_aload_n (pc := 0) (q := 0) rfl rfl dX9_sure_0 ?_
  refine J_iload_n (pc := 1) (q := 1) rfl rfl dX9_sure_1 ?_
  refine J_iload_n (pc := 2) (q := 2) rfl rfl dX9_sure_2 ?_
  refine J_iload_n (pc := 3) (q := 3) rfl rfl dX9_sure_3 ?_
  obtain ⟨b4, hb4, g_1⟩ := bnd h
  obtain ⟨r4, M4, h4, g_2⟩ := bnd2 g_1
  refine J_callVI (pc := 4) (as := [vI x1, vI x2, vI x3]) (tX9_lacksHidden (d := d)  h4) cf_X9_lacksHidden cv_X9_lacksHidden clF9 hb4 ml_RX9_316 (by omega) (Nat.le_of_ble_eq_true rfl) dX9_sure_4 ?_
  refine J_ifeq (pc := 7) (tgt := 20) (by decide) dX9_sure_7 (fun hc7 => ?_) (fun hc7 => ?_)
  · rw [if_pos hc7] at g_2
    refine J_aload_n (pc := 20) (q := 0) rfl rfl dX9_sure_20 ?_
    refine J_iload_n (pc := 21) (q := 1) rfl rfl dX9_sure_21 ?_
    refine J_iload_n (pc := 22) (q := 2) rfl rfl dX9_sure_22 ?_
    refine J_iload_n (pc := 23) (q := 3) rfl rfl dX9_sure_23 ?_
    obtain ⟨b24, hb24, g_3⟩ := bnd g_2
    obtain ⟨r24, M24, h24, g_4⟩ := bnd2 g_3
    refine J_callVI (pc := 24) (as := [vI x1, vI x2, vI x3]) (tX9_leastRounds (d := d)  h24) cf_X9_leastRounds cv_X9_leastRounds clF9 hb24 ml_RX9_319 (by omega) (Nat.le_of_ble_eq_true rfl) dX9_sure_24 ?_
    exact J_iret (pc := 27) (qi_of g_4) dX9_sure_27
  · rw [if_neg hc7] at g_2
    refine J_aload_n (pc := 10) (q := 0) rfl rfl dX9_sure_10 ?_
    refine J_iload_n (pc := 11) (q := 1) rfl rfl dX9_sure_11 ?_
    refine J_iload_n (pc := 12) (q := 2) rfl rfl dX9_sure_12 ?_
    refine J_iload_n (pc := 13) (q := 3) rfl rfl dX9_sure_13 ?_
    obtain ⟨b14, hb14, g_5⟩ := bnd g_2
    obtain ⟨r14, M14, h14, g_6⟩ := bnd2 g_5
    refine J_callVI (pc := 14) (as := [vI x1, vI x2, vI x3]) (tX9_lacksHidden (d := d)  h14) cf_X9_lacksHidden cv_X9_lacksHidden clF9 hb14 ml_RX9_316 (by omega) (Nat.le_of_ble_eq_true rfl) dX9_sure_14 ?_
    refine J_goto (pc := 17) (tgt := 27) (by decide) dX9_sure_17 ?_
    exact J_iret (pc := 27) (qi_of g_6) dX9_sure_27
set_option maxHeartbeats 4000000 in
set_option maxRecDepth 100000 in
theorem jX9_first_b127 {ad : Nat → Nat} {ca : Nat → ClassId} {D : va_G} {FU d : Nat} {r : Int32} {N : Mem}  {k80 : Int32 → Mem → Option (Int32 × Mem)} {x0 : Nat} {x3 : Int32} {x4 : Int32} {x6 : Int32} {x7 : Int32} {x8 : Int32} {M : Mem}  (hk80 : ∀ (y8 : Int32) (M : Mem), k80 y8 M = some (r, N) → J ad ca D cX9_first RX9 10 (d + 9) (Gt ad ca D (some .int) (QI r N)) 80 [(0, vR (some x0)), (3, vI x3), (4, vI x4), (6, vI x6), (7, vI x7), (8, vI y8)] [] M) (h : fX9_first_b127 FU  k80 x0 x3 x4 x6 x7 x8 M = some (r, N)) : J ad ca D cX9_first RX9 10 (d + 9) (Gt ad ca D (some .int) (QI r N)) 127 [(0, vR (some x0)), (3, vI x3), (4, vI x4), (6, vI x6), (7, vI x7), (8, vI x8)] [] M := by
  unfold fX9_first_b127 at h
  refine J_iinc (pc := 127) (q := 5) rfl (v := x8 + (1 : Int32)) rfl (by decide) (lv' := [(0, vR (some x0)), (3, vI x3), (4, vI x4), (6, vI x6), (7, vI x7), (8, vI (x8 + (1 : Int32)))]) rfl dX9_first_127 ?_
  refine J_goto (pc := 130) (tgt := 80) (by decide) dX9_first_130 ?_
  exact hk80 _ _ h
set_option maxHeartbeats 4000000 in
set_option maxRecDepth 100000 in
theorem jX9_first_L80 {ad : Nat → Nat} {ca : Nat → ClassId} {D : va_G} {FU d : Nat} {r : Int32} {N : Mem}   {x0 : Nat} {x3 : Int32} {x4 : Int32} {x6 : Int32} {x7 : Int32}   : ∀ (F : Nat) (x8 : Int32) (M : Mem), fX9_first_L80 FU  x0 x3 x4 x6 x7 F x8 M = some (r, N) → J ad ca D cX9_first RX9 10 (d + 9) (Gt ad ca D (some .int) (QI r N)) 80 [(0, vR (some x0)), (3, vI x3), (4, vI x4), (6, vI x6), (7, vI x7), (8, vI x8)] [] M := by
  intro F
  induction F with
  | zero =>
    intro x8 M h
    rw [fX9_first_L80] at h
    cases h
  | succ F hk80 =>
    intro x8 M h
    rw [fX9_first_L80] at h
    refine J_iload (pc := 80) (q := 5) rfl dX9_first_80 ?_
    refine J_bipush (pc := 82) (v := (32 : Int32)) (by decide) dX9_first_82 ?_
    refine J_icgt (pc := 84) (tgt := 133) (by decide) dX9_first_84 (fun hc84 => ?_) (fun hc84 => ?_)
    · rw [if_pos hc84] at h
      refine J_iconst (pc := 133) (v := (-1 : Int32)) (by decide) dX9_first_133 ?_
      exact J_iret (pc := 134) (qi_of h) dX9_first_134
    · rw [if_neg hc84] at h
      refine J_aload_n (pc := 87) (q := 0) rfl rfl dX9_first_87 ?_
      refine J_iload (pc := 88) (q := 3) rfl dX9_first_88 ?_
      refine J_iload (pc := 90) (q := 4) rfl dX9_first_90 ?_
      refine J_iload (pc := 92) (q := 5) rfl dX9_first_92 ?_
      obtain ⟨b94, hb94, g_1⟩ := bnd h
      obtain ⟨r94, M94, h94, g_2⟩ := bnd2 g_1
      refine J_callVI (pc := 94) (as := [vI x6, vI x7, vI x8]) (tX9_huntersBehind (d := d)  h94) cf_X9_huntersBehind cv_X9_huntersBehind clF9 hb94 ml_RX9_297 (by omega) (Nat.le_of_ble_eq_true rfl) dX9_first_94 ?_
      refine J_istore (pc := 97) (by decide) (lv' := [(0, vR (some x0)), (3, vI x3), (4, vI x4), (6, vI x6), (7, vI x7), (8, vI x8), (9, vI r94)]) rfl dX9_first_97 ?_
      refine J_iload (pc := 99) (q := 6) rfl dX9_first_99 ?_
      refine J_iflt (pc := 101) (tgt := 127) (by decide) dX9_first_101 (fun hc101 => ?_) (fun hc101 => ?_)
      · rw [if_pos hc101] at g_2
        refine J_sub [0, 1, 2, 3, 4, 5] (lv' := [(0, vR (some x0)), (3, vI x3), (4, vI x4), (6, vI x6), (7, vI x7), (8, vI x8)]) rfl ?_
        exact jX9_first_b127 hk80 g_2
      · rw [if_neg hc101] at g_2
        refine J_aload_n (pc := 104) (q := 0) rfl rfl dX9_first_104 ?_
        refine J_iload_n (pc := 105) (q := 1) rfl rfl dX9_first_105 ?_
        refine J_iload (pc := 106) (q := 6) rfl dX9_first_106 ?_
        refine J_bipush (pc := 108) (v := (8 : Int32)) (by decide) dX9_first_108 ?_
        refine J_idiv (pc := 110) (by decide) dX9_first_110 ?_
        refine J_iload (pc := 111) (q := 6) rfl dX9_first_111 ?_
        refine J_bipush (pc := 113) (v := (8 : Int32)) (by decide) dX9_first_113 ?_
        refine J_irem (pc := 115) (by decide) dX9_first_115 ?_
        refine J_iload (pc := 116) (q := 2) rfl dX9_first_116 ?_
        obtain ⟨b118, hb118, g_3⟩ := bnd g_2
        obtain ⟨r118, M118, h118, g_4⟩ := bnd2 g_3
        refine J_callVI (pc := 118) (as := [vI x3, vI (r94 / (8 : Int32)), vI (r94 - r94 / (8 : Int32) * (8 : Int32)), vI x4]) (tX9_isDone (d := d)  h118) cf_X9_isDone cv_X9_isDone clF9 hb118 ml_RX9_300 (by omega) (Nat.le_of_ble_eq_true rfl) dX9_first_118 ?_
        refine J_ifeq (pc := 121) (tgt := 127) (by decide) dX9_first_121 (fun hc121 => ?_) (fun hc121 => ?_)
        · rw [if_pos hc121] at g_4
          refine J_sub [0, 1, 2, 3, 4, 5] (lv' := [(0, vR (some x0)), (3, vI x3), (4, vI x4), (6, vI x6), (7, vI x7), (8, vI x8)]) rfl ?_
          exact jX9_first_b127 hk80 g_4
        · rw [if_neg hc121] at g_4
          refine J_iload (pc := 124) (q := 5) rfl dX9_first_124 ?_
          exact J_iret (pc := 126) (qi_of g_4) dX9_first_126
set_option maxHeartbeats 4000000 in
set_option maxRecDepth 100000 in
theorem jX9_first_b75 {ad : Nat → Nat} {ca : Nat → ClassId} {D : va_G} {FU d : Nat} {r : Int32} {N : Mem}   {x0 : Nat} {x3 : Int32} {x4 : Int32} {x6 : Int32} {s0 : Int32} {M : Mem}   (h : fX9_first_b75 FU  x0 x3 x4 x6 s0 M = some (r, N)) : J ad ca D cX9_first RX9 10 (d + 9) (Gt ad ca D (some .int) (QI r N)) 75 [(0, vR (some x0)), (3, vI x3), (4, vI x4), (6, vI x6)] [vI s0] M := by
  unfold fX9_first_b75 at h
  refine J_istore (pc := 75) (by decide) (lv' := [(0, vR (some x0)), (3, vI x3), (4, vI x4), (6, vI x6), (7, vI s0)]) rfl dX9_first_75 ?_
  refine J_iconst (pc := 77) (v := (0 : Int32)) (by decide) dX9_first_77 ?_
  refine J_istore (pc := 78) (by decide) (lv' := [(0, vR (some x0)), (3, vI x3), (4, vI x4), (6, vI x6), (7, vI s0), (8, vI (0 : Int32))]) rfl dX9_first_78 ?_
  exact jX9_first_L80  FU _ _ h
set_option maxHeartbeats 4000000 in
set_option maxRecDepth 100000 in
theorem jX9_first_b61 {ad : Nat → Nat} {ca : Nat → ClassId} {D : va_G} {FU d : Nat} {r : Int32} {N : Mem}   {x0 : Nat} {x1 : Int32} {x3 : Int32} {x4 : Int32} {x5 : Int32} {s0 : Int32} {M : Mem}   (h : fX9_first_b61 FU  x0 x1 x3 x4 x5 s0 M = some (r, N)) : J ad ca D cX9_first RX9 10 (d + 9) (Gt ad ca D (some .int) (QI r N)) 61 [(0, vR (some x0)), (1, vI x1), (3, vI x3), (4, vI x4), (5, vI x5)] [vI s0] M := by
  unfold fX9_first_b61 at h
  refine J_istore (pc := 61) (by decide) (lv' := [(0, vR (some x0)), (1, vI x1), (3, vI x3), (4, vI x4), (5, vI x5), (6, vI s0)]) rfl dX9_first_61 ?_
  refine J_iload_n (pc := 63) (q := 1) rfl rfl dX9_first_63 ?_
  refine J_iload (pc := 64) (q := 4) rfl dX9_first_64 ?_
  refine J_icge (pc := 66) (tgt := 74) (by decide) dX9_first_66 (fun hc66 => ?_) (fun hc66 => ?_)
  · rw [if_pos hc66] at h
    refine J_iload_n (pc := 74) (q := 1) rfl rfl dX9_first_74 ?_
    refine J_sub [0, 2, 3, 5] (lv' := [(0, vR (some x0)), (3, vI x3), (4, vI x4), (6, vI s0)]) rfl ?_
    exact jX9_first_b75  h
  · rw [if_neg hc66] at h
    refine J_iload (pc := 69) (q := 4) rfl dX9_first_69 ?_
    refine J_goto (pc := 71) (tgt := 75) (by decide) dX9_first_71 ?_
    refine J_sub [0, 2, 3, 5] (lv' := [(0, vR (some x0)), (3, vI x3), (4, vI x4), (6, vI s0)]) rfl ?_
    exact jX9_first_b75  h
set_option maxHeartbeats 4000000 in
set_option maxRecDepth 100000 in
theorem jX9_first_b47 {ad : Nat → Nat} {ca : Nat → ClassId} {D : va_G} {FU d : Nat} {r : Int32} {N : Mem}   {x0 : Nat} {x1 : Int32} {x3 : Int32} {x4 : Int32} {s0 : Int32} {M : Mem}   (h : fX9_first_b47 FU  x0 x1 x3 x4 s0 M = some (r, N)) : J ad ca D cX9_first RX9 10 (d + 9) (Gt ad ca D (some .int) (QI r N)) 47 [(0, vR (some x0)), (1, vI x1), (3, vI x3), (4, vI x4)] [vI s0] M := by
  unfold fX9_first_b47 at h
  refine J_istore (pc := 47) (by decide) (lv' := [(0, vR (some x0)), (1, vI x1), (3, vI x3), (4, vI x4), (5, vI s0)]) rfl dX9_first_47 ?_
  refine J_iload_n (pc := 49) (q := 1) rfl rfl dX9_first_49 ?_
  refine J_iload (pc := 50) (q := 4) rfl dX9_first_50 ?_
  refine J_icge (pc := 52) (tgt := 59) (by decide) dX9_first_52 (fun hc52 => ?_) (fun hc52 => ?_)
  · rw [if_pos hc52] at h
    refine J_iload (pc := 59) (q := 4) rfl dX9_first_59 ?_
    exact jX9_first_b61  h
  · rw [if_neg hc52] at h
    refine J_iload_n (pc := 55) (q := 1) rfl rfl dX9_first_55 ?_
    refine J_goto (pc := 56) (tgt := 61) (by decide) dX9_first_56 ?_
    exact jX9_first_b61  h
set_option maxHeartbeats 4000000 in
set_option maxRecDepth 100000 in
theorem tX9_first {ad : Nat → Nat} {ca : Nat → ClassId} {D : va_G} {FU d : Nat} {r : Int32} {N : Mem}  {x0 : Nat} {x1 : Int32} {x2 : Int32} {x3 : Int32} {M : Mem}  (h : fX9_first FU  x0 x1 x2 x3 M = some (r, N)) : Ct ad ca D yX9_first cX9_first 10 (some .int) (d + 9) [vR (some x0), vI x1, vI x2, vI x3] M (QI r N) := by
  refine Ct_of (by decide) (Nat.le_of_ble_eq_true rfl) ?_
  show J ad ca D cX9_first RX9 10 (d + 9) (Gt ad ca D (some .int) (QI r N)) 0 [(0, vR (some x0)), (1, vI x1), (2, vI x2), (3, vI x3)] [] M
  unfold fX9_first at h
  refine J_aload_n (pc := 0) (q := 0) rfl rfl dX9_first_0 ?_
  refine J_iload_n (pc := 1) (q := 1) rfl rfl dX9_first_1 ?_
  refine J_iload_n (pc := 2) (q := 2) rfl rfl dX9_first_2 ?_
  refine J_iload_n (pc := 3) (q := 3) rfl rfl dX9_first_3 ?_
  obtain ⟨b4, hb4, g_5⟩ := bnd h
  obtain ⟨r4, M4, h4, g_6⟩ := bnd2 g_5
  refine J_callVI (pc := 4) (as := [vI x1, vI x2, vI x3]) (tX9_lacksHidden (d := d)  h4) cf_X9_lacksHidden cv_X9_lacksHidden clF9 hb4 ml_RX9_316 (by omega) (Nat.le_of_ble_eq_true rfl) dX9_first_4 ?_
  refine J_ifeq (pc := 7) (tgt := 18) (by decide) dX9_first_7 (fun hc7 => ?_) (fun hc7 => ?_)
  · rw [if_pos hc7] at g_6
    refine J_aload_n (pc := 18) (q := 0) rfl rfl dX9_first_18 ?_
    refine J_iload_n (pc := 19) (q := 1) rfl rfl dX9_first_19 ?_
    refine J_iload_n (pc := 20) (q := 2) rfl rfl dX9_first_20 ?_
    refine J_iload_n (pc := 21) (q := 3) rfl rfl dX9_first_21 ?_
    obtain ⟨b22, hb22, g_7⟩ := bnd g_6
    obtain ⟨r22, M22, h22, g_8⟩ := bnd2 g_7
    refine J_callVI (pc := 22) (as := [vI x1, vI x2, vI x3]) (tX9_leastRounds (d := d)  h22) cf_X9_leastRounds cv_X9_leastRounds clF9 hb22 ml_RX9_319 (by omega) (Nat.le_of_ble_eq_true rfl) dX9_first_22 ?_
    refine J_istore (pc := 25) (by decide) (lv' := [(0, vR (some x0)), (1, vI x1), (2, vI x2), (3, vI x3), (4, vI r22)]) rfl dX9_first_25 ?_
    refine J_iload (pc := 27) (q := 4) rfl dX9_first_27 ?_
    refine J_ifgt (pc := 29) (tgt := 34) (by decide) dX9_first_29 (fun hc29 => ?_) (fun hc29 => ?_)
    · rw [if_pos hc29] at g_8
      refine J_aload_n (pc := 34) (q := 0) rfl rfl dX9_first_34 ?_
      obtain ⟨a35, h35, g_9⟩ := bnd g_8
      refine J_getI (pc := 35) (i := 2) clF9 (by decide) rfl fl_RX9_13 h35 dX9_first_35 ?_
      refine J_iconst (pc := 38) (v := (1 : Int32)) (by decide) dX9_first_38 ?_
      refine J_icne (pc := 39) (tgt := 46) (by decide) dX9_first_39 (fun hc39 => ?_) (fun hc39 => ?_)
      · rw [if_pos hc39] at g_9
        refine J_iload_n (pc := 46) (q := 2) rfl rfl dX9_first_46 ?_
        refine J_sub [0, 1, 3, 4] (lv' := [(0, vR (some x0)), (1, vI x1), (3, vI x3), (4, vI r22)]) rfl ?_
        exact jX9_first_b47  g_9
      · rw [if_neg hc39] at g_9
        refine J_iload_n (pc := 42) (q := 1) rfl rfl dX9_first_42 ?_
        refine J_goto (pc := 43) (tgt := 47) (by decide) dX9_first_43 ?_
        refine J_sub [0, 1, 3, 4] (lv' := [(0, vR (some x0)), (1, vI x1), (3, vI x3), (4, vI r22)]) rfl ?_
        exact jX9_first_b47  g_9
    · rw [if_neg hc29] at g_8
      refine J_iconst (pc := 32) (v := (-1 : Int32)) (by decide) dX9_first_32 ?_
      exact J_iret (pc := 33) (qi_of g_8) dX9_first_33
  · rw [if_neg hc7] at g_6
    refine J_aload_n (pc := 10) (q := 0) rfl rfl dX9_first_10 ?_
    refine J_iload_n (pc := 11) (q := 1) rfl rfl dX9_first_11 ?_
    refine J_iload_n (pc := 12) (q := 2) rfl rfl dX9_first_12 ?_
    refine J_iload_n (pc := 13) (q := 3) rfl rfl dX9_first_13 ?_
    obtain ⟨b14, hb14, g_10⟩ := bnd g_6
    obtain ⟨r14, M14, h14, g_11⟩ := bnd2 g_10
    refine J_callVI (pc := 14) (as := [vI x1, vI x2, vI x3]) (tX9_lacksHidden (d := d)  h14) cf_X9_lacksHidden cv_X9_lacksHidden clF9 hb14 ml_RX9_316 (by omega) (Nat.le_of_ble_eq_true rfl) dX9_first_14 ?_
    exact J_iret (pc := 17) (qi_of g_11) dX9_first_17
set_option maxHeartbeats 4000000 in
set_option maxRecDepth 100000 in
theorem tX9_look {ad : Nat → Nat} {ca : Nat → ClassId} {D : va_G} {FU d : Nat} {N : Mem}  {x0 : Nat} {M : Mem}  (h : fX9_look FU  x0 M = some N) : Ct ad ca D yX9_look cX9_look 3 none (d + 2) [vR (some x0)] M (QV N) := by
  refine Ct_of (by decide) (Nat.le_of_ble_eq_true rfl) ?_
  show J ad ca D cX9_look RX9 3 (d + 2) (Gt ad ca D none (QV N)) 0 [(0, vR (some x0))] [] M
  unfold fX9_look at h
  refine J_aload_n (pc := 0) (q := 0) rfl rfl dX9_look_0 ?_
  refine J_aload_n (pc := 1) (q := 0) rfl rfl dX9_look_1 ?_
  refine J_aload_n (pc := 2) (q := 0) rfl rfl dX9_look_2 ?_
  obtain ⟨a3, h3, g_1⟩ := bnd h
  refine J_getI (pc := 3) (i := 20) clF9 (by decide) rfl fl_RX9_70 h3 dX9_look_3 ?_
  obtain ⟨b6, hb6, g_2⟩ := bnd g_1
  obtain ⟨r6, M6, h6, g_3⟩ := bnd2 g_2
  refine J_callVI (pc := 6) (as := [vI a3]) (tX9_firstOf (d := d)  h6) cf_X9_firstOf cv_X9_firstOf clF9 hb6 ml_RX9_195 (by omega) (Nat.le_of_ble_eq_true rfl) dX9_look_6 ?_
  refine J_aload_n (pc := 9) (q := 0) rfl rfl dX9_look_9 ?_
  refine J_aload_n (pc := 10) (q := 0) rfl rfl dX9_look_10 ?_
  obtain ⟨a11, h11, g_4⟩ := bnd g_3
  refine J_getI (pc := 11) (i := 20) clF9 (by decide) rfl fl_RX9_70 h11 dX9_look_11 ?_
  obtain ⟨b14, hb14, g_5⟩ := bnd g_4
  obtain ⟨r14, M14, h14, g_6⟩ := bnd2 g_5
  refine J_callVI (pc := 14) (as := [vI a11]) (tX9_secondOf (d := d)  h14) cf_X9_secondOf cv_X9_secondOf clF9 hb14 ml_RX9_198 (by omega) (Nat.le_of_ble_eq_true rfl) dX9_look_14 ?_
  obtain ⟨b17, hb17, g_7⟩ := bnd g_6
  obtain ⟨r17, M17, h17, g_8⟩ := bnd2 g_7
  refine J_callVI (pc := 17) (as := [vI r6, vI r14]) (tX9_seenBy (d := d)  h17) cf_X9_seenBy cv_X9_seenBy clF9 hb17 ml_RX9_283 (by omega) (Nat.le_of_ble_eq_true rfl) dX9_look_17 ?_
  refine J_istore_n (pc := 20) rfl (by decide) (lv' := [(0, vR (some x0)), (1, vI r17)]) rfl dX9_look_20 ?_
  refine J_aload_n (pc := 21) (q := 0) rfl rfl dX9_look_21 ?_
  refine J_aload_n (pc := 22) (q := 0) rfl rfl dX9_look_22 ?_
  obtain ⟨a23, h23, g_9⟩ := bnd g_8
  refine J_getI (pc := 23) (i := 20) clF9 (by decide) rfl fl_RX9_70 h23 dX9_look_23 ?_
  obtain ⟨b26, hb26, g_10⟩ := bnd g_9
  obtain ⟨r26, M26, h26, g_11⟩ := bnd2 g_10
  refine J_callVI (pc := 26) (as := [vI a23]) (tX9_runnerOf (d := d)  h26) cf_X9_runnerOf cv_X9_runnerOf clF9 hb26 ml_RX9_201 (by omega) (Nat.le_of_ble_eq_true rfl) dX9_look_26 ?_
  refine J_istore_n (pc := 29) rfl (by decide) (lv' := [(0, vR (some x0)), (1, vI r17), (2, vI r26)]) rfl dX9_look_29 ?_
  refine J_aload_n (pc := 30) (q := 0) rfl rfl dX9_look_30 ?_
  refine J_iload_n (pc := 31) (q := 1) rfl rfl dX9_look_31 ?_
  refine J_iload_n (pc := 32) (q := 2) rfl rfl dX9_look_32 ?_
  refine J_ishr (pc := 33) dX9_look_33 ?_
  refine J_iconst (pc := 34) (v := (1 : Int32)) (by decide) dX9_look_34 ?_
  refine J_iand (pc := 35) dX9_look_35 ?_
  refine J_iconst (pc := 36) (v := (1 : Int32)) (by decide) dX9_look_36 ?_
  refine J_icne (pc := 37) (tgt := 46) (by decide) dX9_look_37 (fun hc37 => ?_) (fun hc37 => ?_)
  · rw [if_pos hc37] at g_11
    refine J_aload_n (pc := 46) (q := 0) rfl rfl dX9_look_46 ?_
    obtain ⟨a47, h47, g_12⟩ := bnd g_11
    refine J_getI (pc := 47) (i := 21) clF9 (by decide) rfl fl_RX9_73 h47 dX9_look_47 ?_
    refine J_iload_n (pc := 50) (q := 1) rfl rfl dX9_look_50 ?_
    refine J_iconst (pc := 51) (v := (-1 : Int32)) (by decide) dX9_look_51 ?_
    refine J_ixor (pc := 52) dX9_look_52 ?_
    refine J_iand (pc := 53) dX9_look_53 ?_
    obtain ⟨M54, h54, g_13⟩ := bnd g_12
    refine J_putI (pc := 54) (i := 21) clF9 (by decide) rfl fl_RX9_73 rfl rfl h54 dX9_look_54 ?_
    exact J_vret (pc := 57) (qv_of g_13) dX9_look_57
  · rw [if_neg hc37] at g_11
    refine J_iconst (pc := 40) (v := (1 : Int32)) (by decide) dX9_look_40 ?_
    refine J_iload_n (pc := 41) (q := 2) rfl rfl dX9_look_41 ?_
    refine J_ishl (pc := 42) dX9_look_42 ?_
    refine J_goto (pc := 43) (tgt := 54) (by decide) dX9_look_43 ?_
    obtain ⟨M54, h54, g_14⟩ := bnd g_11
    refine J_putI (pc := 54) (i := 21) clF9 (by decide) rfl fl_RX9_73 rfl rfl h54 dX9_look_54 ?_
    exact J_vret (pc := 57) (qv_of g_14) dX9_look_57
set_option maxHeartbeats 4000000 in
set_option maxRecDepth 100000 in
theorem tX9_start {ad : Nat → Nat} {ca : Nat → ClassId} {D : va_G} {FU d : Nat} {r : Int32} {N : Mem}  {x0 : Nat} {x1 : Int32} {x2 : Int32} {x3 : Int32} {M : Mem}  (h : fX9_start FU  x0 x1 x2 x3 M = some (r, N)) : Ct ad ca D yX9_start cX9_start 5 (some .int) (d + 7) [vR (some x0), vI x1, vI x2, vI x3] M (QI r N) := by
  refine Ct_of (by decide) (Nat.le_of_ble_eq_true rfl) ?_
  show J ad ca D cX9_start RX9 5 (d + 7) (Gt ad ca D (some .int) (QI r N)) 0 [(0, vR (some x0)), (1, vI x1), (2, vI x2), (3, vI x3)] [] M
  unfold fX9_start at h
  refine J_aload_n (pc := 0) (q := 0) rfl rfl dX9_start_0 ?_
  refine J_iload_n (pc := 1) (q := 1) rfl rfl dX9_start_1 ?_
  refine J_iload_n (pc := 2) (q := 2) rfl rfl dX9_start_2 ?_
  refine J_iload_n (pc := 3) (q := 3) rfl rfl dX9_start_3 ?_
  refine J_iconst (pc := 4) (v := (0 : Int32)) (by decide) dX9_start_4 ?_
  refine J_iconst (pc := 5) (v := (0 : Int32)) (by decide) dX9_start_5 ?_
  obtain ⟨b6, hb6, g_1⟩ := bnd h
  obtain ⟨r6, M6, h6, g_2⟩ := bnd2 g_1
  refine J_callVI (pc := 6) (as := [vI x1, vI x2, vI x3, vI (0 : Int32), vI (0 : Int32)]) (tX9_standingOf (d := d)  h6) cf_X9_standingOf cv_X9_standingOf clF9 hb6 ml_RX9_241 (by omega) (Nat.le_of_ble_eq_true rfl) dX9_start_6 ?_
  refine J_istore (pc := 9) (by decide) (lv' := [(0, vR (some x0)), (1, vI x1), (2, vI x2), (3, vI x3), (4, vI r6)]) rfl dX9_start_9 ?_
  refine J_iload (pc := 11) (q := 4) rfl dX9_start_11 ?_
  refine J_ifge (pc := 13) (tgt := 19) (by decide) dX9_start_13 (fun hc13 => ?_) (fun hc13 => ?_)
  · rw [if_pos hc13] at g_2
    refine J_aload_n (pc := 19) (q := 0) rfl rfl dX9_start_19 ?_
    refine J_iload (pc := 20) (q := 4) rfl dX9_start_20 ?_
    obtain ⟨b22, hb22, g_3⟩ := bnd g_2
    obtain ⟨r22, M22, h22, g_4⟩ := bnd2 g_3
    refine J_callVI (pc := 22) (as := [vI r6]) (tX9_isCaught (d := d)  h22) cf_X9_isCaught cv_X9_isCaught clF9 hb22 ml_RX9_235 (by omega) (Nat.le_of_ble_eq_true rfl) dX9_start_22 ?_
    refine J_ifeq (pc := 25) (tgt := 31) (by decide) dX9_start_25 (fun hc25 => ?_) (fun hc25 => ?_)
    · rw [if_pos hc25] at g_4
      refine J_aload_n (pc := 31) (q := 0) rfl rfl dX9_start_31 ?_
      refine J_iconst (pc := 32) (v := (1 : Int32)) (by decide) dX9_start_32 ?_
      obtain ⟨M33, h33, g_5⟩ := bnd g_4
      refine J_putZ (pc := 33) (i := 19) clF9 (by decide) rfl fl_RX9_67 rfl rfl (Or.inr rfl) h33 dX9_start_33 ?_
      refine J_aload_n (pc := 36) (q := 0) rfl rfl dX9_start_36 ?_
      refine J_iload (pc := 37) (q := 4) rfl dX9_start_37 ?_
      obtain ⟨M39, h39, g_6⟩ := bnd g_5
      refine J_putI (pc := 39) (i := 20) clF9 (by decide) rfl fl_RX9_70 rfl rfl h39 dX9_start_39 ?_
      refine J_aload_n (pc := 42) (q := 0) rfl rfl dX9_start_42 ?_
      refine J_iconst (pc := 43) (v := (0 : Int32)) (by decide) dX9_start_43 ?_
      obtain ⟨M44, h44, g_7⟩ := bnd g_6
      refine J_putI (pc := 44) (i := 22) clF9 (by decide) rfl fl_RX9_76 rfl rfl h44 dX9_start_44 ?_
      refine J_aload_n (pc := 47) (q := 0) rfl rfl dX9_start_47 ?_
      refine J_iconst (pc := 48) (v := (0 : Int32)) (by decide) dX9_start_48 ?_
      obtain ⟨M49, h49, g_8⟩ := bnd g_7
      refine J_putI (pc := 49) (i := 23) clF9 (by decide) rfl fl_RX9_79 rfl rfl h49 dX9_start_49 ?_
      refine J_aload_n (pc := 52) (q := 0) rfl rfl dX9_start_52 ?_
      refine J_iconst (pc := 53) (v := (1 : Int32)) (by decide) dX9_start_53 ?_
      refine J_aload_n (pc := 54) (q := 0) rfl rfl dX9_start_54 ?_
      obtain ⟨a55, h55, g_9⟩ := bnd g_8
      refine J_getI (pc := 55) (i := 0) clF9 (by decide) rfl fl_RX9_149 h55 dX9_start_55 ?_
      refine J_ishl (pc := 58) dX9_start_58 ?_
      refine J_iconst (pc := 59) (v := (1 : Int32)) (by decide) dX9_start_59 ?_
      refine J_isub (pc := 60) dX9_start_60 ?_
      refine J_iconst (pc := 61) (v := (1 : Int32)) (by decide) dX9_start_61 ?_
      refine J_aload_n (pc := 62) (q := 0) rfl rfl dX9_start_62 ?_
      refine J_iload (pc := 63) (q := 4) rfl dX9_start_63 ?_
      obtain ⟨b65, hb65, g_10⟩ := bnd g_9
      obtain ⟨r65, M65, h65, g_11⟩ := bnd2 g_10
      refine J_callVI (pc := 65) (as := [vI r6]) (tX9_firstOf (d := d)  h65) cf_X9_firstOf cv_X9_firstOf clF9 hb65 ml_RX9_195 (by omega) (Nat.le_of_ble_eq_true rfl) dX9_start_65 ?_
      refine J_ishl (pc := 68) dX9_start_68 ?_
      refine J_iconst (pc := 69) (v := (1 : Int32)) (by decide) dX9_start_69 ?_
      refine J_aload_n (pc := 70) (q := 0) rfl rfl dX9_start_70 ?_
      refine J_iload (pc := 71) (q := 4) rfl dX9_start_71 ?_
      obtain ⟨b73, hb73, g_12⟩ := bnd g_11
      obtain ⟨r73, M73, h73, g_13⟩ := bnd2 g_12
      refine J_callVI (pc := 73) (as := [vI r6]) (tX9_secondOf (d := d)  h73) cf_X9_secondOf cv_X9_secondOf clF9 hb73 ml_RX9_198 (by omega) (Nat.le_of_ble_eq_true rfl) dX9_start_73 ?_
      refine J_ishl (pc := 76) dX9_start_76 ?_
      refine J_ior (pc := 77) dX9_start_77 ?_
      refine J_iconst (pc := 78) (v := (-1 : Int32)) (by decide) dX9_start_78 ?_
      refine J_ixor (pc := 79) dX9_start_79 ?_
      refine J_iand (pc := 80) dX9_start_80 ?_
      obtain ⟨M81, h81, g_14⟩ := bnd g_13
      refine J_putI (pc := 81) (i := 21) clF9 (by decide) rfl fl_RX9_73 rfl rfl h81 dX9_start_81 ?_
      refine J_aload_n (pc := 84) (q := 0) rfl rfl dX9_start_84 ?_
      obtain ⟨b85, hb85, g_15⟩ := bnd g_14
      obtain ⟨M85, h85, g_16⟩ := bnd g_15
      refine J_callVV (pc := 85) (as := []) (tX9_look (d := d)  h85) cf_X9_look cv_X9_look clF9 hb85 ml_RX9_322 (by omega) (Nat.le_of_ble_eq_true rfl) dX9_start_85 ?_
      refine J_aload_n (pc := 88) (q := 0) rfl rfl dX9_start_88 ?_
      obtain ⟨a89, h89, g_17⟩ := bnd g_16
      refine J_getI (pc := 89) (i := 21) clF9 (by decide) rfl fl_RX9_73 h89 dX9_start_89 ?_
      exact J_iret (pc := 92) (qi_of g_17) dX9_start_92
    · rw [if_neg hc25] at g_4
      refine J_bipush (pc := 28) (v := (-3 : Int32)) (by decide) dX9_start_28 ?_
      exact J_iret (pc := 30) (qi_of g_4) dX9_start_30
  · rw [if_neg hc13] at g_2
    refine J_bipush (pc := 16) (v := (-2 : Int32)) (by decide) dX9_start_16 ?_
    exact J_iret (pc := 18) (qi_of g_2) dX9_start_18
set_option maxHeartbeats 4000000 in
set_option maxRecDepth 100000 in
theorem jX9_turn_b184 {ad : Nat → Nat} {ca : Nat → ClassId} {D : va_G} {FU d : Nat} {N : Mem}   {x0 : Nat} {x2 : Int32} {M : Mem}   (h : fX9_turn_b184 FU  x0 x2 M = some N) : J ad ca D cX9_turn RX9 3 (d + 5) (Gt ad ca D none (QV N)) 184 [(0, vR (some x0)), (2, vI x2)] [] M := by
  unfold fX9_turn_b184 at h
  refine J_aload_n (pc := 184) (q := 0) rfl rfl dX9_turn_184 ?_
  refine J_iload_n (pc := 185) (q := 1) rfl rfl dX9_turn_185 ?_
  obtain ⟨M186, h186, g_1⟩ := bnd h
  refine J_putI (pc := 186) (i := 20) clF9 (by decide) rfl fl_RX9_70 rfl rfl h186 dX9_turn_186 ?_
  refine J_aload_n (pc := 189) (q := 0) rfl rfl dX9_turn_189 ?_
  refine J_dup (pc := 190) rfl dX9_turn_190 ?_
  obtain ⟨a191, h191, g_2⟩ := bnd g_1
  refine J_getI (pc := 191) (i := 22) clF9 (by decide) rfl fl_RX9_76 h191 dX9_turn_191 ?_
  refine J_iconst (pc := 194) (v := (1 : Int32)) (by decide) dX9_turn_194 ?_
  refine J_iadd (pc := 195) dX9_turn_195 ?_
  obtain ⟨M196, h196, g_3⟩ := bnd g_2
  refine J_putI (pc := 196) (i := 22) clF9 (by decide) rfl fl_RX9_76 rfl rfl h196 dX9_turn_196 ?_
  refine J_aload_n (pc := 199) (q := 0) rfl rfl dX9_turn_199 ?_
  obtain ⟨b200, hb200, g_4⟩ := bnd g_3
  obtain ⟨M200, h200, g_5⟩ := bnd g_4
  refine J_callVV (pc := 200) (as := []) (tX9_look (d := d)  h200) cf_X9_look cv_X9_look clF9 hb200 ml_RX9_322 (by omega) (Nat.le_of_ble_eq_true rfl) dX9_turn_200 ?_
  exact J_vret (pc := 203) (qv_of g_5) dX9_turn_203
set_option maxHeartbeats 4000000 in
set_option maxRecDepth 100000 in
theorem jX9_turn_b61 {ad : Nat → Nat} {ca : Nat → ClassId} {D : va_G} {FU d : Nat} {N : Mem}   {x0 : Nat} {x1 : Int32} {M : Mem}   (h : fX9_turn_b61 FU  x0 x1 M = some N) : J ad ca D cX9_turn RX9 3 (d + 5) (Gt ad ca D none (QV N)) 61 [(0, vR (some x0)), (1, vI x1)] [] M := by
  unfold fX9_turn_b61 at h
  refine J_aload_n (pc := 61) (q := 0) rfl rfl dX9_turn_61 ?_
  obtain ⟨a62, h62, g_6⟩ := bnd h
  refine J_getR (pc := 62) (i := 24) clF9 (by decide) rfl fl_RX9_82 h62 dX9_turn_62 ?_
  refine J_aload_n (pc := 65) (q := 0) rfl rfl dX9_turn_65 ?_
  obtain ⟨a66, h66, g_7⟩ := bnd g_6
  refine J_getI (pc := 66) (i := 23) clF9 (by decide) rfl fl_RX9_79 h66 dX9_turn_66 ?_
  refine J_aload_n (pc := 69) (q := 0) rfl rfl dX9_turn_69 ?_
  obtain ⟨a70, h70, g_8⟩ := bnd g_7
  refine J_getI (pc := 70) (i := 20) clF9 (by decide) rfl fl_RX9_70 h70 dX9_turn_70 ?_
  obtain ⟨M73, h73, g_9⟩ := bnd g_8
  refine J_ast0 (pc := 73) h73 dX9_turn_73 ?_
  refine J_aload_n (pc := 74) (q := 0) rfl rfl dX9_turn_74 ?_
  obtain ⟨a75, h75, g_10⟩ := bnd g_9
  refine J_getR (pc := 75) (i := 25) clF9 (by decide) rfl fl_RX9_85 h75 dX9_turn_75 ?_
  refine J_aload_n (pc := 78) (q := 0) rfl rfl dX9_turn_78 ?_
  obtain ⟨a79, h79, g_11⟩ := bnd g_10
  refine J_getI (pc := 79) (i := 23) clF9 (by decide) rfl fl_RX9_79 h79 dX9_turn_79 ?_
  refine J_aload_n (pc := 82) (q := 0) rfl rfl dX9_turn_82 ?_
  obtain ⟨a83, h83, g_12⟩ := bnd g_11
  refine J_getI (pc := 83) (i := 21) clF9 (by decide) rfl fl_RX9_73 h83 dX9_turn_83 ?_
  obtain ⟨M86, h86, g_13⟩ := bnd g_12
  refine J_ast0 (pc := 86) h86 dX9_turn_86 ?_
  refine J_aload_n (pc := 87) (q := 0) rfl rfl dX9_turn_87 ?_
  refine J_dup (pc := 88) rfl dX9_turn_88 ?_
  obtain ⟨a89, h89, g_14⟩ := bnd g_13
  refine J_getI (pc := 89) (i := 23) clF9 (by decide) rfl fl_RX9_79 h89 dX9_turn_89 ?_
  refine J_iconst (pc := 92) (v := (1 : Int32)) (by decide) dX9_turn_92 ?_
  refine J_iadd (pc := 93) dX9_turn_93 ?_
  obtain ⟨M94, h94, g_15⟩ := bnd g_14
  refine J_putI (pc := 94) (i := 23) clF9 (by decide) rfl fl_RX9_79 rfl rfl h94 dX9_turn_94 ?_
  refine J_aload_n (pc := 97) (q := 0) rfl rfl dX9_turn_97 ?_
  refine J_aload_n (pc := 98) (q := 0) rfl rfl dX9_turn_98 ?_
  obtain ⟨a99, h99, g_16⟩ := bnd g_15
  refine J_getI (pc := 99) (i := 20) clF9 (by decide) rfl fl_RX9_70 h99 dX9_turn_99 ?_
  refine J_iload_n (pc := 102) (q := 1) rfl rfl dX9_turn_102 ?_
  obtain ⟨b103, hb103, g_17⟩ := bnd g_16
  obtain ⟨r103, M103, h103, g_18⟩ := bnd2 g_17
  refine J_callVI (pc := 103) (as := [vI a99, vI x1]) (tX9_behind (d := d)  h103) cf_X9_behind cv_X9_behind clF9 hb103 ml_RX9_220 (by omega) (Nat.le_of_ble_eq_true rfl) dX9_turn_103 ?_
  refine J_istore_n (pc := 106) rfl (by decide) (lv' := [(0, vR (some x0)), (1, vI x1), (2, vI r103)]) rfl dX9_turn_106 ?_
  refine J_aload_n (pc := 107) (q := 0) rfl rfl dX9_turn_107 ?_
  refine J_aload_n (pc := 108) (q := 0) rfl rfl dX9_turn_108 ?_
  obtain ⟨a109, h109, g_19⟩ := bnd g_18
  refine J_getI (pc := 109) (i := 20) clF9 (by decide) rfl fl_RX9_70 h109 dX9_turn_109 ?_
  obtain ⟨b112, hb112, g_20⟩ := bnd g_19
  obtain ⟨r112, M112, h112, g_21⟩ := bnd2 g_20
  refine J_callVI (pc := 112) (as := [vI a109]) (tX9_turnOf (d := d)  h112) cf_X9_turnOf cv_X9_turnOf clF9 hb112 ml_RX9_207 (by omega) (Nat.le_of_ble_eq_true rfl) dX9_turn_112 ?_
  refine J_iconst (pc := 115) (v := (1 : Int32)) (by decide) dX9_turn_115 ?_
  refine J_icne (pc := 116) (tgt := 158) (by decide) dX9_turn_116 (fun hc116 => ?_) (fun hc116 => ?_)
  · rw [if_pos hc116] at g_21
    refine J_aload_n (pc := 158) (q := 0) rfl rfl dX9_turn_158 ?_
    refine J_dup (pc := 159) rfl dX9_turn_159 ?_
    obtain ⟨a160, h160, g_22⟩ := bnd g_21
    refine J_getI (pc := 160) (i := 21) clF9 (by decide) rfl fl_RX9_73 h160 dX9_turn_160 ?_
    refine J_iconst (pc := 163) (v := (1 : Int32)) (by decide) dX9_turn_163 ?_
    refine J_aload_n (pc := 164) (q := 0) rfl rfl dX9_turn_164 ?_
    refine J_iload_n (pc := 165) (q := 2) rfl rfl dX9_turn_165 ?_
    obtain ⟨b166, hb166, g_23⟩ := bnd g_22
    obtain ⟨r166, M166, h166, g_24⟩ := bnd2 g_23
    refine J_callVI (pc := 166) (as := [vI r103]) (tX9_firstOf (d := d)  h166) cf_X9_firstOf cv_X9_firstOf clF9 hb166 ml_RX9_195 (by omega) (Nat.le_of_ble_eq_true rfl) dX9_turn_166 ?_
    refine J_ishl (pc := 169) dX9_turn_169 ?_
    refine J_iconst (pc := 170) (v := (1 : Int32)) (by decide) dX9_turn_170 ?_
    refine J_aload_n (pc := 171) (q := 0) rfl rfl dX9_turn_171 ?_
    refine J_iload_n (pc := 172) (q := 2) rfl rfl dX9_turn_172 ?_
    obtain ⟨b173, hb173, g_25⟩ := bnd g_24
    obtain ⟨r173, M173, h173, g_26⟩ := bnd2 g_25
    refine J_callVI (pc := 173) (as := [vI r103]) (tX9_secondOf (d := d)  h173) cf_X9_secondOf cv_X9_secondOf clF9 hb173 ml_RX9_198 (by omega) (Nat.le_of_ble_eq_true rfl) dX9_turn_173 ?_
    refine J_ishl (pc := 176) dX9_turn_176 ?_
    refine J_ior (pc := 177) dX9_turn_177 ?_
    refine J_iconst (pc := 178) (v := (-1 : Int32)) (by decide) dX9_turn_178 ?_
    refine J_ixor (pc := 179) dX9_turn_179 ?_
    refine J_iand (pc := 180) dX9_turn_180 ?_
    obtain ⟨M181, h181, g_27⟩ := bnd g_26
    refine J_putI (pc := 181) (i := 21) clF9 (by decide) rfl fl_RX9_73 rfl rfl h181 dX9_turn_181 ?_
    refine J_sub [0, 2] (lv' := [(0, vR (some x0)), (2, vI r103)]) rfl ?_
    exact jX9_turn_b184  g_27
  · rw [if_neg hc116] at g_21
    refine J_aload_n (pc := 119) (q := 0) rfl rfl dX9_turn_119 ?_
    refine J_aload_n (pc := 120) (q := 0) rfl rfl dX9_turn_120 ?_
    refine J_aload_n (pc := 121) (q := 0) rfl rfl dX9_turn_121 ?_
    obtain ⟨a122, h122, g_28⟩ := bnd g_21
    refine J_getI (pc := 122) (i := 21) clF9 (by decide) rfl fl_RX9_73 h122 dX9_turn_122 ?_
    refine J_aload_n (pc := 125) (q := 0) rfl rfl dX9_turn_125 ?_
    refine J_aload_n (pc := 126) (q := 0) rfl rfl dX9_turn_126 ?_
    obtain ⟨a127, h127, g_29⟩ := bnd g_28
    refine J_getI (pc := 127) (i := 20) clF9 (by decide) rfl fl_RX9_70 h127 dX9_turn_127 ?_
    obtain ⟨b130, hb130, g_30⟩ := bnd g_29
    obtain ⟨r130, M130, h130, g_31⟩ := bnd2 g_30
    refine J_callVI (pc := 130) (as := [vI a127]) (tX9_firstOf (d := d)  h130) cf_X9_firstOf cv_X9_firstOf clF9 hb130 ml_RX9_195 (by omega) (Nat.le_of_ble_eq_true rfl) dX9_turn_130 ?_
    refine J_aload_n (pc := 133) (q := 0) rfl rfl dX9_turn_133 ?_
    refine J_aload_n (pc := 134) (q := 0) rfl rfl dX9_turn_134 ?_
    obtain ⟨a135, h135, g_32⟩ := bnd g_31
    refine J_getI (pc := 135) (i := 20) clF9 (by decide) rfl fl_RX9_70 h135 dX9_turn_135 ?_
    obtain ⟨b138, hb138, g_33⟩ := bnd g_32
    obtain ⟨r138, M138, h138, g_34⟩ := bnd2 g_33
    refine J_callVI (pc := 138) (as := [vI a135]) (tX9_secondOf (d := d)  h138) cf_X9_secondOf cv_X9_secondOf clF9 hb138 ml_RX9_198 (by omega) (Nat.le_of_ble_eq_true rfl) dX9_turn_138 ?_
    refine J_aload_n (pc := 141) (q := 0) rfl rfl dX9_turn_141 ?_
    refine J_aload_n (pc := 142) (q := 0) rfl rfl dX9_turn_142 ?_
    obtain ⟨a143, h143, g_35⟩ := bnd g_34
    refine J_getI (pc := 143) (i := 20) clF9 (by decide) rfl fl_RX9_70 h143 dX9_turn_143 ?_
    obtain ⟨b146, hb146, g_36⟩ := bnd g_35
    obtain ⟨r146, M146, h146, g_37⟩ := bnd2 g_36
    refine J_callVI (pc := 146) (as := [vI a143]) (tX9_shutOf (d := d)  h146) cf_X9_shutOf cv_X9_shutOf clF9 hb146 ml_RX9_204 (by omega) (Nat.le_of_ble_eq_true rfl) dX9_turn_146 ?_
    obtain ⟨b149, hb149, g_38⟩ := bnd g_37
    obtain ⟨r149, M149, h149, g_39⟩ := bnd2 g_38
    refine J_callVI (pc := 149) (as := [vI a122, vI r130, vI r138, vI r146]) (tX9_runs (d := d)  h149) cf_X9_runs cv_X9_runs clF9 hb149 ml_RX9_303 (by omega) (Nat.le_of_ble_eq_true rfl) dX9_turn_149 ?_
    obtain ⟨M152, h152, g_40⟩ := bnd g_39
    refine J_putI (pc := 152) (i := 21) clF9 (by decide) rfl fl_RX9_73 rfl rfl h152 dX9_turn_152 ?_
    refine J_goto (pc := 155) (tgt := 184) (by decide) dX9_turn_155 ?_
    refine J_sub [0, 2] (lv' := [(0, vR (some x0)), (2, vI r103)]) rfl ?_
    exact jX9_turn_b184  g_40
set_option maxHeartbeats 4000000 in
set_option maxRecDepth 100000 in
theorem jX9_turn_L11 {ad : Nat → Nat} {ca : Nat → ClassId} {D : va_G} {FU d : Nat} {N : Mem}   {x0 : Nat} {x1 : Int32}   : ∀ (F : Nat) (x2 : Int32) (M : Mem), fX9_turn_L11 FU  x0 x1 F x2 M = some N → J ad ca D cX9_turn RX9 3 (d + 5) (Gt ad ca D none (QV N)) 11 [(0, vR (some x0)), (1, vI x1), (2, vI x2)] [] M := by
  intro F
  induction F with
  | zero =>
    intro x2 M h
    rw [fX9_turn_L11] at h
    cases h
  | succ F hk11 =>
    intro x2 M h
    rw [fX9_turn_L11] at h
    refine J_iload_n (pc := 11) (q := 2) rfl rfl dX9_turn_11 ?_
    refine J_bipush (pc := 12) (v := (63 : Int32)) (by decide) dX9_turn_12 ?_
    refine J_icge (pc := 14) (tgt := 51) (by decide) dX9_turn_14 (fun hc14 => ?_) (fun hc14 => ?_)
    · rw [if_pos hc14] at h
      refine J_aload_n (pc := 51) (q := 0) rfl rfl dX9_turn_51 ?_
      refine J_dup (pc := 52) rfl dX9_turn_52 ?_
      obtain ⟨a53, h53, g_41⟩ := bnd h
      refine J_getI (pc := 53) (i := 23) clF9 (by decide) rfl fl_RX9_79 h53 dX9_turn_53 ?_
      refine J_iconst (pc := 56) (v := (1 : Int32)) (by decide) dX9_turn_56 ?_
      refine J_isub (pc := 57) dX9_turn_57 ?_
      obtain ⟨M58, h58, g_42⟩ := bnd g_41
      refine J_putI (pc := 58) (i := 23) clF9 (by decide) rfl fl_RX9_79 rfl rfl h58 dX9_turn_58 ?_
      refine J_sub [0, 1] (lv' := [(0, vR (some x0)), (1, vI x1)]) rfl ?_
      exact jX9_turn_b61  g_42
    · rw [if_neg hc14] at h
      refine J_aload_n (pc := 17) (q := 0) rfl rfl dX9_turn_17 ?_
      obtain ⟨a18, h18, g_43⟩ := bnd h
      refine J_getR (pc := 18) (i := 24) clF9 (by decide) rfl fl_RX9_82 h18 dX9_turn_18 ?_
      refine J_iload_n (pc := 21) (q := 2) rfl rfl dX9_turn_21 ?_
      refine J_aload_n (pc := 22) (q := 0) rfl rfl dX9_turn_22 ?_
      obtain ⟨a23, h23, g_44⟩ := bnd g_43
      refine J_getR (pc := 23) (i := 24) clF9 (by decide) rfl fl_RX9_82 h23 dX9_turn_23 ?_
      refine J_iload_n (pc := 26) (q := 2) rfl rfl dX9_turn_26 ?_
      refine J_iconst (pc := 27) (v := (1 : Int32)) (by decide) dX9_turn_27 ?_
      refine J_iadd (pc := 28) dX9_turn_28 ?_
      obtain ⟨a29, h29, g_45⟩ := bnd g_44
      refine J_ald0 (pc := 29) h29 dX9_turn_29 ?_
      obtain ⟨M30, h30, g_46⟩ := bnd g_45
      refine J_ast0 (pc := 30) h30 dX9_turn_30 ?_
      refine J_aload_n (pc := 31) (q := 0) rfl rfl dX9_turn_31 ?_
      obtain ⟨a32, h32, g_47⟩ := bnd g_46
      refine J_getR (pc := 32) (i := 25) clF9 (by decide) rfl fl_RX9_85 h32 dX9_turn_32 ?_
      refine J_iload_n (pc := 35) (q := 2) rfl rfl dX9_turn_35 ?_
      refine J_aload_n (pc := 36) (q := 0) rfl rfl dX9_turn_36 ?_
      obtain ⟨a37, h37, g_48⟩ := bnd g_47
      refine J_getR (pc := 37) (i := 25) clF9 (by decide) rfl fl_RX9_85 h37 dX9_turn_37 ?_
      refine J_iload_n (pc := 40) (q := 2) rfl rfl dX9_turn_40 ?_
      refine J_iconst (pc := 41) (v := (1 : Int32)) (by decide) dX9_turn_41 ?_
      refine J_iadd (pc := 42) dX9_turn_42 ?_
      obtain ⟨a43, h43, g_49⟩ := bnd g_48
      refine J_ald0 (pc := 43) h43 dX9_turn_43 ?_
      obtain ⟨M44, h44, g_50⟩ := bnd g_49
      refine J_ast0 (pc := 44) h44 dX9_turn_44 ?_
      refine J_iinc (pc := 45) (q := 2) rfl (v := x2 + (1 : Int32)) rfl (by decide) (lv' := [(0, vR (some x0)), (1, vI x1), (2, vI (x2 + (1 : Int32)))]) rfl dX9_turn_45 ?_
      refine J_goto (pc := 48) (tgt := 11) (by decide) dX9_turn_48 ?_
      exact hk11 _ _ g_50
set_option maxHeartbeats 4000000 in
set_option maxRecDepth 100000 in
theorem tX9_turn {ad : Nat → Nat} {ca : Nat → ClassId} {D : va_G} {FU d : Nat} {N : Mem}  {x0 : Nat} {x1 : Int32} {M : Mem}  (h : fX9_turn FU  x0 x1 M = some N) : Ct ad ca D yX9_turn cX9_turn 3 none (d + 5) [vR (some x0), vI x1] M (QV N) := by
  refine Ct_of (by decide) (Nat.le_of_ble_eq_true rfl) ?_
  show J ad ca D cX9_turn RX9 3 (d + 5) (Gt ad ca D none (QV N)) 0 [(0, vR (some x0)), (1, vI x1)] [] M
  unfold fX9_turn at h
  refine J_aload_n (pc := 0) (q := 0) rfl rfl dX9_turn_0 ?_
  obtain ⟨a1, h1, g_51⟩ := bnd h
  refine J_getI (pc := 1) (i := 23) clF9 (by decide) rfl fl_RX9_79 h1 dX9_turn_1 ?_
  refine J_bipush (pc := 4) (v := (64 : Int32)) (by decide) dX9_turn_4 ?_
  refine J_icne (pc := 6) (tgt := 61) (by decide) dX9_turn_6 (fun hc6 => ?_) (fun hc6 => ?_)
  · rw [if_pos hc6] at g_51
    exact jX9_turn_b61  g_51
  · rw [if_neg hc6] at g_51
    refine J_iconst (pc := 9) (v := (0 : Int32)) (by decide) dX9_turn_9 ?_
    refine J_istore_n (pc := 10) rfl (by decide) (lv' := [(0, vR (some x0)), (1, vI x1), (2, vI (0 : Int32))]) rfl dX9_turn_10 ?_
    exact jX9_turn_L11  FU _ _ g_51
set_option maxHeartbeats 4000000 in
set_option maxRecDepth 100000 in
theorem jX9_move_b50 {ad : Nat → Nat} {ca : Nat → ClassId} {D : va_G} {FU d : Nat} {r : Int32} {N : Mem}   {x0 : Nat} {x1 : Int32} {M : Mem}   (h : fX9_move_b50 FU  x0 x1 M = some (r, N)) : J ad ca D cX9_move RX9 2 (d + 7) (Gt ad ca D (some .int) (QI r N)) 50 [(0, vR (some x0)), (1, vI x1)] [] M := by
  unfold fX9_move_b50 at h
  refine J_aload_n (pc := 50) (q := 0) rfl rfl dX9_move_50 ?_
  refine J_aload_n (pc := 51) (q := 0) rfl rfl dX9_move_51 ?_
  obtain ⟨a52, h52, g_1⟩ := bnd h
  refine J_getI (pc := 52) (i := 20) clF9 (by decide) rfl fl_RX9_70 h52 dX9_move_52 ?_
  refine J_iload_n (pc := 55) (q := 1) rfl rfl dX9_move_55 ?_
  obtain ⟨b56, hb56, g_2⟩ := bnd g_1
  obtain ⟨r56, M56, h56, g_3⟩ := bnd2 g_2
  refine J_callVI (pc := 56) (as := [vI a52, vI x1]) (tX9_behind (d := d)  h56) cf_X9_behind cv_X9_behind clF9 hb56 ml_RX9_220 (by omega) (Nat.le_of_ble_eq_true rfl) dX9_move_56 ?_
  refine J_ifge (pc := 59) (tgt := 65) (by decide) dX9_move_59 (fun hc59 => ?_) (fun hc59 => ?_)
  · rw [if_pos hc59] at g_3
    refine J_aload_n (pc := 65) (q := 0) rfl rfl dX9_move_65 ?_
    refine J_iload_n (pc := 66) (q := 1) rfl rfl dX9_move_66 ?_
    obtain ⟨b67, hb67, g_4⟩ := bnd g_3
    obtain ⟨M67, h67, g_5⟩ := bnd g_4
    refine J_callVV (pc := 67) (as := [vI x1]) (tX9_turn (d := d)  h67) cf_X9_turn cv_X9_turn clF9 hb67 ml_RX9_325 (by omega) (Nat.le_of_ble_eq_true rfl) dX9_move_67 ?_
    refine J_aload_n (pc := 70) (q := 0) rfl rfl dX9_move_70 ?_
    obtain ⟨a71, h71, g_6⟩ := bnd g_5
    refine J_getI (pc := 71) (i := 21) clF9 (by decide) rfl fl_RX9_73 h71 dX9_move_71 ?_
    exact J_iret (pc := 74) (qi_of g_6) dX9_move_74
  · rw [if_neg hc59] at g_3
    refine J_bipush (pc := 62) (v := (-3 : Int32)) (by decide) dX9_move_62 ?_
    exact J_iret (pc := 64) (qi_of g_3) dX9_move_64
set_option maxHeartbeats 4000000 in
set_option maxRecDepth 100000 in
theorem tX9_move {ad : Nat → Nat} {ca : Nat → ClassId} {D : va_G} {FU d : Nat} {r : Int32} {N : Mem}  {x0 : Nat} {x1 : Int32} {M : Mem}  (h : fX9_move FU  x0 x1 M = some (r, N)) : Ct ad ca D yX9_move cX9_move 2 (some .int) (d + 7) [vR (some x0), vI x1] M (QI r N) := by
  refine Ct_of (by decide) (Nat.le_of_ble_eq_true rfl) ?_
  show J ad ca D cX9_move RX9 2 (d + 7) (Gt ad ca D (some .int) (QI r N)) 0 [(0, vR (some x0)), (1, vI x1)] [] M
  unfold fX9_move at h
  refine J_aload_n (pc := 0) (q := 0) rfl rfl dX9_move_0 ?_
  refine J_iload_n (pc := 1) (q := 1) rfl rfl dX9_move_1 ?_
  refine J_iconst (pc := 2) (v := (0 : Int32)) (by decide) dX9_move_2 ?_
  refine J_bipush (pc := 3) (v := (32 : Int32)) (by decide) dX9_move_3 ?_
  obtain ⟨b5, hb5, g_7⟩ := bnd h
  obtain ⟨r5, M5, h5, g_8⟩ := bnd2 g_7
  refine J_callVI (pc := 5) (as := [vI x1, vI (0 : Int32), vI (32 : Int32)]) (tX9_in (d := d)  h5) cf_X9_in cv_X9_in clF9 hb5 ml_RX9_155 (by omega) (Nat.le_of_ble_eq_true rfl) dX9_move_5 ?_
  refine J_ifne (pc := 8) (tgt := 14) (by decide) dX9_move_8 (fun hc8 => ?_) (fun hc8 => ?_)
  · rw [if_pos hc8] at g_8
    refine J_aload_n (pc := 14) (q := 0) rfl rfl dX9_move_14 ?_
    obtain ⟨a15, h15, g_9⟩ := bnd g_8
    refine J_getI (pc := 15) (i := 19) clF9 (by decide) rfl fl_RX9_67 h15 dX9_move_15 ?_
    refine J_ifeq (pc := 18) (tgt := 62) (by decide) dX9_move_18 (fun hc18 => ?_) (fun hc18 => ?_)
    · rw [if_pos hc18] at g_9
      refine J_bipush (pc := 62) (v := (-3 : Int32)) (by decide) dX9_move_62 ?_
      exact J_iret (pc := 64) (qi_of g_9) dX9_move_64
    · rw [if_neg hc18] at g_9
      refine J_aload_n (pc := 21) (q := 0) rfl rfl dX9_move_21 ?_
      refine J_aload_n (pc := 22) (q := 0) rfl rfl dX9_move_22 ?_
      obtain ⟨a23, h23, g_10⟩ := bnd g_9
      refine J_getI (pc := 23) (i := 20) clF9 (by decide) rfl fl_RX9_70 h23 dX9_move_23 ?_
      obtain ⟨b26, hb26, g_11⟩ := bnd g_10
      obtain ⟨r26, M26, h26, g_12⟩ := bnd2 g_11
      refine J_callVI (pc := 26) (as := [vI a23]) (tX9_isCaught (d := d)  h26) cf_X9_isCaught cv_X9_isCaught clF9 hb26 ml_RX9_235 (by omega) (Nat.le_of_ble_eq_true rfl) dX9_move_26 ?_
      refine J_ifne (pc := 29) (tgt := 62) (by decide) dX9_move_29 (fun hc29 => ?_) (fun hc29 => ?_)
      · rw [if_pos hc29] at g_12
        refine J_bipush (pc := 62) (v := (-3 : Int32)) (by decide) dX9_move_62 ?_
        exact J_iret (pc := 64) (qi_of g_12) dX9_move_64
      · rw [if_neg hc29] at g_12
        refine J_iload_n (pc := 32) (q := 1) rfl rfl dX9_move_32 ?_
        refine J_bipush (pc := 33) (v := (16 : Int32)) (by decide) dX9_move_33 ?_
        refine J_icle (pc := 35) (tgt := 50) (by decide) dX9_move_35 (fun hc35 => ?_) (fun hc35 => ?_)
        · rw [if_pos hc35] at g_12
          exact jX9_move_b50  g_12
        · rw [if_neg hc35] at g_12
          refine J_aload_n (pc := 38) (q := 0) rfl rfl dX9_move_38 ?_
          refine J_aload_n (pc := 39) (q := 0) rfl rfl dX9_move_39 ?_
          obtain ⟨a40, h40, g_13⟩ := bnd g_12
          refine J_getI (pc := 40) (i := 20) clF9 (by decide) rfl fl_RX9_70 h40 dX9_move_40 ?_
          obtain ⟨b43, hb43, g_14⟩ := bnd g_13
          obtain ⟨r43, M43, h43, g_15⟩ := bnd2 g_14
          refine J_callVI (pc := 43) (as := [vI a40]) (tX9_turnOf (d := d)  h43) cf_X9_turnOf cv_X9_turnOf clF9 hb43 ml_RX9_207 (by omega) (Nat.le_of_ble_eq_true rfl) dX9_move_43 ?_
          refine J_iconst (pc := 46) (v := (1 : Int32)) (by decide) dX9_move_46 ?_
          refine J_iceq (pc := 47) (tgt := 62) (by decide) dX9_move_47 (fun hc47 => ?_) (fun hc47 => ?_)
          · rw [if_pos hc47] at g_15
            refine J_bipush (pc := 62) (v := (-3 : Int32)) (by decide) dX9_move_62 ?_
            exact J_iret (pc := 64) (qi_of g_15) dX9_move_64
          · rw [if_neg hc47] at g_15
            exact jX9_move_b50  g_15
  · rw [if_neg hc8] at g_8
    refine J_bipush (pc := 11) (v := (-2 : Int32)) (by decide) dX9_move_11 ?_
    exact J_iret (pc := 13) (qi_of g_8) dX9_move_13
set_option maxHeartbeats 4000000 in
set_option maxRecDepth 100000 in
theorem jX9_play_L26 {ad : Nat → Nat} {ca : Nat → ClassId} {D : va_G} {FU d : Nat} {r : Int32} {N : Mem}   {x0 : Nat} {x1 : Int32}   : ∀ (F : Nat) (x2 : Int32) (M : Mem), fX9_play_L26 FU  x0 x1 F x2 M = some (r, N) → J ad ca D cX9_play RX9 3 (d + 9) (Gt ad ca D (some .int) (QI r N)) 26 [(0, vR (some x0)), (1, vI x1), (2, vI x2)] [] M := by
  intro F
  induction F with
  | zero =>
    intro x2 M h
    rw [fX9_play_L26] at h
    cases h
  | succ F hk26 =>
    intro x2 M h
    rw [fX9_play_L26] at h
    refine J_iload_n (pc := 26) (q := 2) rfl rfl dX9_play_26 ?_
    refine J_iload_n (pc := 27) (q := 1) rfl rfl dX9_play_27 ?_
    refine J_icge (pc := 28) (tgt := 60) (by decide) dX9_play_28 (fun hc28 => ?_) (fun hc28 => ?_)
    · rw [if_pos hc28] at h
      refine J_iload_n (pc := 60) (q := 2) rfl rfl dX9_play_60 ?_
      exact J_iret (pc := 61) (qi_of h) dX9_play_61
    · rw [if_neg hc28] at h
      refine J_aload_n (pc := 31) (q := 0) rfl rfl dX9_play_31 ?_
      refine J_aload_n (pc := 32) (q := 0) rfl rfl dX9_play_32 ?_
      obtain ⟨a33, h33, g_1⟩ := bnd h
      refine J_getI (pc := 33) (i := 20) clF9 (by decide) rfl fl_RX9_70 h33 dX9_play_33 ?_
      obtain ⟨b36, hb36, g_2⟩ := bnd g_1
      obtain ⟨r36, M36, h36, g_3⟩ := bnd2 g_2
      refine J_callVI (pc := 36) (as := [vI a33]) (tX9_isCaught (d := d)  h36) cf_X9_isCaught cv_X9_isCaught clF9 hb36 ml_RX9_235 (by omega) (Nat.le_of_ble_eq_true rfl) dX9_play_36 ?_
      refine J_ifne (pc := 39) (tgt := 60) (by decide) dX9_play_39 (fun hc39 => ?_) (fun hc39 => ?_)
      · rw [if_pos hc39] at g_3
        refine J_iload_n (pc := 60) (q := 2) rfl rfl dX9_play_60 ?_
        exact J_iret (pc := 61) (qi_of g_3) dX9_play_61
      · rw [if_neg hc39] at g_3
        refine J_aload_n (pc := 42) (q := 0) rfl rfl dX9_play_42 ?_
        refine J_aload_n (pc := 43) (q := 0) rfl rfl dX9_play_43 ?_
        refine J_aload_n (pc := 44) (q := 0) rfl rfl dX9_play_44 ?_
        obtain ⟨a45, h45, g_4⟩ := bnd g_3
        refine J_getI (pc := 45) (i := 20) clF9 (by decide) rfl fl_RX9_70 h45 dX9_play_45 ?_
        obtain ⟨b48, hb48, g_5⟩ := bnd g_4
        obtain ⟨r48, M48, h48, g_6⟩ := bnd2 g_5
        refine J_callVI (pc := 48) (as := [vI a45]) (tX9_bestOf (d := d)  h48) cf_X9_bestOf cv_X9_bestOf clF9 hb48 ml_RX9_248 (by omega) (Nat.le_of_ble_eq_true rfl) dX9_play_48 ?_
        obtain ⟨b51, hb51, g_7⟩ := bnd g_6
        obtain ⟨M51, h51, g_8⟩ := bnd g_7
        refine J_callVV (pc := 51) (as := [vI r48]) (tX9_turn (d := d)  h51) cf_X9_turn cv_X9_turn clF9 hb51 ml_RX9_325 (by omega) (Nat.le_of_ble_eq_true rfl) dX9_play_51 ?_
        refine J_iinc (pc := 54) (q := 2) rfl (v := x2 + (1 : Int32)) rfl (by decide) (lv' := [(0, vR (some x0)), (1, vI x1), (2, vI (x2 + (1 : Int32)))]) rfl dX9_play_54 ?_
        refine J_goto (pc := 57) (tgt := 26) (by decide) dX9_play_57 ?_
        exact hk26 _ _ g_8
set_option maxHeartbeats 4000000 in
set_option maxRecDepth 100000 in
theorem tX9_play {ad : Nat → Nat} {ca : Nat → ClassId} {D : va_G} {FU d : Nat} {r : Int32} {N : Mem}  {x0 : Nat} {x1 : Int32} {M : Mem}  (h : fX9_play FU  x0 x1 M = some (r, N)) : Ct ad ca D yX9_play cX9_play 3 (some .int) (d + 9) [vR (some x0), vI x1] M (QI r N) := by
  refine Ct_of (by decide) (Nat.le_of_ble_eq_true rfl) ?_
  show J ad ca D cX9_play RX9 3 (d + 9) (Gt ad ca D (some .int) (QI r N)) 0 [(0, vR (some x0)), (1, vI x1)] [] M
  unfold fX9_play at h
  refine J_aload_n (pc := 0) (q := 0) rfl rfl dX9_play_0 ?_
  refine J_iload_n (pc := 1) (q := 1) rfl rfl dX9_play_1 ?_
  refine J_iconst (pc := 2) (v := (1 : Int32)) (by decide) dX9_play_2 ?_
  refine J_bipush (pc := 3) (v := (40 : Int32)) (by decide) dX9_play_3 ?_
  obtain ⟨b5, hb5, g_9⟩ := bnd h
  obtain ⟨r5, M5, h5, g_10⟩ := bnd2 g_9
  refine J_callVI (pc := 5) (as := [vI x1, vI (1 : Int32), vI (40 : Int32)]) (tX9_in (d := d)  h5) cf_X9_in cv_X9_in clF9 hb5 ml_RX9_155 (by omega) (Nat.le_of_ble_eq_true rfl) dX9_play_5 ?_
  refine J_ifne (pc := 8) (tgt := 14) (by decide) dX9_play_8 (fun hc8 => ?_) (fun hc8 => ?_)
  · rw [if_pos hc8] at g_10
    refine J_aload_n (pc := 14) (q := 0) rfl rfl dX9_play_14 ?_
    obtain ⟨a15, h15, g_11⟩ := bnd g_10
    refine J_getI (pc := 15) (i := 19) clF9 (by decide) rfl fl_RX9_67 h15 dX9_play_15 ?_
    refine J_ifne (pc := 18) (tgt := 24) (by decide) dX9_play_18 (fun hc18 => ?_) (fun hc18 => ?_)
    · rw [if_pos hc18] at g_11
      refine J_iconst (pc := 24) (v := (0 : Int32)) (by decide) dX9_play_24 ?_
      refine J_istore_n (pc := 25) rfl (by decide) (lv' := [(0, vR (some x0)), (1, vI x1), (2, vI (0 : Int32))]) rfl dX9_play_25 ?_
      exact jX9_play_L26  FU _ _ g_11
    · rw [if_neg hc18] at g_11
      refine J_bipush (pc := 21) (v := (-3 : Int32)) (by decide) dX9_play_21 ?_
      exact J_iret (pc := 23) (qi_of g_11) dX9_play_23
  · rw [if_neg hc8] at g_10
    refine J_bipush (pc := 11) (v := (-2 : Int32)) (by decide) dX9_play_11 ?_
    exact J_iret (pc := 13) (qi_of g_10) dX9_play_13
set_option maxHeartbeats 4000000 in
set_option maxRecDepth 100000 in
theorem tX9_back {ad : Nat → Nat} {ca : Nat → ClassId} {D : va_G} {FU d : Nat} {r : Int32} {N : Mem}  {x0 : Nat} {M : Mem}  (h : fX9_back FU  x0 M = some (r, N)) : Ct ad ca D yX9_back cX9_back 1 (some .int) (d + 0) [vR (some x0)] M (QI r N) := by
  refine Ct_of (by decide) (Nat.le_of_ble_eq_true rfl) ?_
  show J ad ca D cX9_back RX9 1 (d + 0) (Gt ad ca D (some .int) (QI r N)) 0 [(0, vR (some x0))] [] M
  unfold fX9_back at h
  refine J_aload_n (pc := 0) (q := 0) rfl rfl dX9_back_0 ?_
  obtain ⟨a1, h1, g_1⟩ := bnd h
  refine J_getI (pc := 1) (i := 19) clF9 (by decide) rfl fl_RX9_67 h1 dX9_back_1 ?_
  refine J_ifeq (pc := 4) (tgt := 14) (by decide) dX9_back_4 (fun hc4 => ?_) (fun hc4 => ?_)
  · rw [if_pos hc4] at g_1
    refine J_bipush (pc := 14) (v := (-3 : Int32)) (by decide) dX9_back_14 ?_
    exact J_iret (pc := 16) (qi_of g_1) dX9_back_16
  · rw [if_neg hc4] at g_1
    refine J_aload_n (pc := 7) (q := 0) rfl rfl dX9_back_7 ?_
    obtain ⟨a8, h8, g_2⟩ := bnd g_1
    refine J_getI (pc := 8) (i := 23) clF9 (by decide) rfl fl_RX9_79 h8 dX9_back_8 ?_
    refine J_ifne (pc := 11) (tgt := 17) (by decide) dX9_back_11 (fun hc11 => ?_) (fun hc11 => ?_)
    · rw [if_pos hc11] at g_2
      refine J_aload_n (pc := 17) (q := 0) rfl rfl dX9_back_17 ?_
      refine J_dup (pc := 18) rfl dX9_back_18 ?_
      obtain ⟨a19, h19, g_3⟩ := bnd g_2
      refine J_getI (pc := 19) (i := 23) clF9 (by decide) rfl fl_RX9_79 h19 dX9_back_19 ?_
      refine J_iconst (pc := 22) (v := (1 : Int32)) (by decide) dX9_back_22 ?_
      refine J_isub (pc := 23) dX9_back_23 ?_
      obtain ⟨M24, h24, g_4⟩ := bnd g_3
      refine J_putI (pc := 24) (i := 23) clF9 (by decide) rfl fl_RX9_79 rfl rfl h24 dX9_back_24 ?_
      refine J_aload_n (pc := 27) (q := 0) rfl rfl dX9_back_27 ?_
      refine J_aload_n (pc := 28) (q := 0) rfl rfl dX9_back_28 ?_
      obtain ⟨a29, h29, g_5⟩ := bnd g_4
      refine J_getR (pc := 29) (i := 24) clF9 (by decide) rfl fl_RX9_82 h29 dX9_back_29 ?_
      refine J_aload_n (pc := 32) (q := 0) rfl rfl dX9_back_32 ?_
      obtain ⟨a33, h33, g_6⟩ := bnd g_5
      refine J_getI (pc := 33) (i := 23) clF9 (by decide) rfl fl_RX9_79 h33 dX9_back_33 ?_
      obtain ⟨a36, h36, g_7⟩ := bnd g_6
      refine J_ald0 (pc := 36) h36 dX9_back_36 ?_
      obtain ⟨M37, h37, g_8⟩ := bnd g_7
      refine J_putI (pc := 37) (i := 20) clF9 (by decide) rfl fl_RX9_70 rfl rfl h37 dX9_back_37 ?_
      refine J_aload_n (pc := 40) (q := 0) rfl rfl dX9_back_40 ?_
      refine J_aload_n (pc := 41) (q := 0) rfl rfl dX9_back_41 ?_
      obtain ⟨a42, h42, g_9⟩ := bnd g_8
      refine J_getR (pc := 42) (i := 25) clF9 (by decide) rfl fl_RX9_85 h42 dX9_back_42 ?_
      refine J_aload_n (pc := 45) (q := 0) rfl rfl dX9_back_45 ?_
      obtain ⟨a46, h46, g_10⟩ := bnd g_9
      refine J_getI (pc := 46) (i := 23) clF9 (by decide) rfl fl_RX9_79 h46 dX9_back_46 ?_
      obtain ⟨a49, h49, g_11⟩ := bnd g_10
      refine J_ald0 (pc := 49) h49 dX9_back_49 ?_
      obtain ⟨M50, h50, g_12⟩ := bnd g_11
      refine J_putI (pc := 50) (i := 21) clF9 (by decide) rfl fl_RX9_73 rfl rfl h50 dX9_back_50 ?_
      refine J_aload_n (pc := 53) (q := 0) rfl rfl dX9_back_53 ?_
      refine J_dup (pc := 54) rfl dX9_back_54 ?_
      obtain ⟨a55, h55, g_13⟩ := bnd g_12
      refine J_getI (pc := 55) (i := 22) clF9 (by decide) rfl fl_RX9_76 h55 dX9_back_55 ?_
      refine J_iconst (pc := 58) (v := (1 : Int32)) (by decide) dX9_back_58 ?_
      refine J_isub (pc := 59) dX9_back_59 ?_
      obtain ⟨M60, h60, g_14⟩ := bnd g_13
      refine J_putI (pc := 60) (i := 22) clF9 (by decide) rfl fl_RX9_76 rfl rfl h60 dX9_back_60 ?_
      refine J_aload_n (pc := 63) (q := 0) rfl rfl dX9_back_63 ?_
      obtain ⟨a64, h64, g_15⟩ := bnd g_14
      refine J_getI (pc := 64) (i := 22) clF9 (by decide) rfl fl_RX9_76 h64 dX9_back_64 ?_
      exact J_iret (pc := 67) (qi_of g_15) dX9_back_67
    · rw [if_neg hc11] at g_2
      refine J_bipush (pc := 14) (v := (-3 : Int32)) (by decide) dX9_back_14 ?_
      exact J_iret (pc := 16) (qi_of g_2) dX9_back_16
set_option maxHeartbeats 4000000 in
set_option maxRecDepth 100000 in
theorem tX9_told {ad : Nat → Nat} {ca : Nat → ClassId} {D : va_G} {FU d : Nat} {r : Int32} {N : Mem}  {x0 : Nat} {x1 : Int32} {M : Mem}  (h : fX9_told FU  x0 x1 M = some (r, N)) : Ct ad ca D yX9_told cX9_told 2 (some .int) (d + 8) [vR (some x0), vI x1] M (QI r N) := by
  refine Ct_of (by decide) (Nat.le_of_ble_eq_true rfl) ?_
  show J ad ca D cX9_told RX9 2 (d + 8) (Gt ad ca D (some .int) (QI r N)) 0 [(0, vR (some x0)), (1, vI x1)] [] M
  unfold fX9_told at h
  refine J_aload_n (pc := 0) (q := 0) rfl rfl dX9_told_0 ?_
  refine J_iload_n (pc := 1) (q := 1) rfl rfl dX9_told_1 ?_
  refine J_iconst (pc := 2) (v := (0 : Int32)) (by decide) dX9_told_2 ?_
  refine J_bipush (pc := 3) (v := (8 : Int32)) (by decide) dX9_told_3 ?_
  obtain ⟨b5, hb5, g_1⟩ := bnd h
  obtain ⟨r5, M5, h5, g_2⟩ := bnd2 g_1
  refine J_callVI (pc := 5) (as := [vI x1, vI (0 : Int32), vI (8 : Int32)]) (tX9_in (d := d)  h5) cf_X9_in cv_X9_in clF9 hb5 ml_RX9_155 (by omega) (Nat.le_of_ble_eq_true rfl) dX9_told_5 ?_
  refine J_ifne (pc := 8) (tgt := 14) (by decide) dX9_told_8 (fun hc8 => ?_) (fun hc8 => ?_)
  · rw [if_pos hc8] at g_2
    refine J_aload_n (pc := 14) (q := 0) rfl rfl dX9_told_14 ?_
    obtain ⟨a15, h15, g_3⟩ := bnd g_2
    refine J_getI (pc := 15) (i := 19) clF9 (by decide) rfl fl_RX9_67 h15 dX9_told_15 ?_
    refine J_ifne (pc := 18) (tgt := 24) (by decide) dX9_told_18 (fun hc18 => ?_) (fun hc18 => ?_)
    · rw [if_pos hc18] at g_3
      refine J_aload_n (pc := 24) (q := 0) rfl rfl dX9_told_24 ?_
      obtain ⟨b25, hb25, g_4⟩ := bnd g_3
      obtain ⟨M25, h25, g_5⟩ := bnd g_4
      refine J_callVV (pc := 25) (as := []) (tX9_solve (d := d)  h25) cf_X9_solve cv_X9_solve clF9 hb25 ml_RX9_244 (by omega) (Nat.le_of_ble_eq_true rfl) dX9_told_25 ?_
      refine J_iload_n (pc := 28) (q := 1) rfl rfl dX9_told_28 ?_
      by_cases hc29_0 : x1 = (0 : Int32)
      · rw [if_pos hc29_0] at g_5
        refine J_tin (pc := 29) (tgt := 76) (off := (47)) (by rw [hc29_0]; decide) (by rw [hc29_0]; decide) (by rw [hc29_0]; decide) (by decide) dX9_told_29 ?_
        refine J_aload_n (pc := 76) (q := 0) rfl rfl dX9_told_76 ?_
        refine J_aload_n (pc := 77) (q := 0) rfl rfl dX9_told_77 ?_
        obtain ⟨a78, h78, g_6⟩ := bnd g_5
        refine J_getI (pc := 78) (i := 20) clF9 (by decide) rfl fl_RX9_70 h78 dX9_told_78 ?_
        obtain ⟨b81, hb81, g_7⟩ := bnd g_6
        obtain ⟨r81, M81, h81, g_8⟩ := bnd2 g_7
        refine J_callVI (pc := 81) (as := [vI a78]) (tX9_firstOf (d := d)  h81) cf_X9_firstOf cv_X9_firstOf clF9 hb81 ml_RX9_195 (by omega) (Nat.le_of_ble_eq_true rfl) dX9_told_81 ?_
        exact J_iret (pc := 84) (qi_of g_8) dX9_told_84
      rw [if_neg hc29_0] at g_5
      by_cases hc29_1 : x1 = (1 : Int32)
      · rw [if_pos hc29_1] at g_5
        refine J_tin (pc := 29) (tgt := 85) (off := (56)) (by rw [hc29_1]; decide) (by rw [hc29_1]; decide) (by rw [hc29_1]; decide) (by decide) dX9_told_29 ?_
        refine J_aload_n (pc := 85) (q := 0) rfl rfl dX9_told_85 ?_
        refine J_aload_n (pc := 86) (q := 0) rfl rfl dX9_told_86 ?_
        obtain ⟨a87, h87, g_9⟩ := bnd g_5
        refine J_getI (pc := 87) (i := 20) clF9 (by decide) rfl fl_RX9_70 h87 dX9_told_87 ?_
        obtain ⟨b90, hb90, g_10⟩ := bnd g_9
        obtain ⟨r90, M90, h90, g_11⟩ := bnd2 g_10
        refine J_callVI (pc := 90) (as := [vI a87]) (tX9_secondOf (d := d)  h90) cf_X9_secondOf cv_X9_secondOf clF9 hb90 ml_RX9_198 (by omega) (Nat.le_of_ble_eq_true rfl) dX9_told_90 ?_
        exact J_iret (pc := 93) (qi_of g_11) dX9_told_93
      rw [if_neg hc29_1] at g_5
      by_cases hc29_2 : x1 = (2 : Int32)
      · rw [if_pos hc29_2] at g_5
        refine J_tin (pc := 29) (tgt := 94) (off := (65)) (by rw [hc29_2]; decide) (by rw [hc29_2]; decide) (by rw [hc29_2]; decide) (by decide) dX9_told_29 ?_
        refine J_aload_n (pc := 94) (q := 0) rfl rfl dX9_told_94 ?_
        refine J_aload_n (pc := 95) (q := 0) rfl rfl dX9_told_95 ?_
        obtain ⟨a96, h96, g_12⟩ := bnd g_5
        refine J_getI (pc := 96) (i := 20) clF9 (by decide) rfl fl_RX9_70 h96 dX9_told_96 ?_
        obtain ⟨b99, hb99, g_13⟩ := bnd g_12
        obtain ⟨r99, M99, h99, g_14⟩ := bnd2 g_13
        refine J_callVI (pc := 99) (as := [vI a96]) (tX9_runnerOf (d := d)  h99) cf_X9_runnerOf cv_X9_runnerOf clF9 hb99 ml_RX9_201 (by omega) (Nat.le_of_ble_eq_true rfl) dX9_told_99 ?_
        exact J_iret (pc := 102) (qi_of g_14) dX9_told_102
      rw [if_neg hc29_2] at g_5
      by_cases hc29_3 : x1 = (3 : Int32)
      · rw [if_pos hc29_3] at g_5
        refine J_tin (pc := 29) (tgt := 103) (off := (74)) (by rw [hc29_3]; decide) (by rw [hc29_3]; decide) (by rw [hc29_3]; decide) (by decide) dX9_told_29 ?_
        refine J_aload_n (pc := 103) (q := 0) rfl rfl dX9_told_103 ?_
        refine J_aload_n (pc := 104) (q := 0) rfl rfl dX9_told_104 ?_
        obtain ⟨a105, h105, g_15⟩ := bnd g_5
        refine J_getI (pc := 105) (i := 20) clF9 (by decide) rfl fl_RX9_70 h105 dX9_told_105 ?_
        obtain ⟨b108, hb108, g_16⟩ := bnd g_15
        obtain ⟨r108, M108, h108, g_17⟩ := bnd2 g_16
        refine J_callVI (pc := 108) (as := [vI a105]) (tX9_turnOf (d := d)  h108) cf_X9_turnOf cv_X9_turnOf clF9 hb108 ml_RX9_207 (by omega) (Nat.le_of_ble_eq_true rfl) dX9_told_108 ?_
        exact J_iret (pc := 111) (qi_of g_17) dX9_told_111
      rw [if_neg hc29_3] at g_5
      by_cases hc29_4 : x1 = (4 : Int32)
      · rw [if_pos hc29_4] at g_5
        refine J_tin (pc := 29) (tgt := 112) (off := (83)) (by rw [hc29_4]; decide) (by rw [hc29_4]; decide) (by rw [hc29_4]; decide) (by decide) dX9_told_29 ?_
        refine J_aload_n (pc := 112) (q := 0) rfl rfl dX9_told_112 ?_
        refine J_aload_n (pc := 113) (q := 0) rfl rfl dX9_told_113 ?_
        obtain ⟨a114, h114, g_18⟩ := bnd g_5
        refine J_getI (pc := 114) (i := 20) clF9 (by decide) rfl fl_RX9_70 h114 dX9_told_114 ?_
        obtain ⟨b117, hb117, g_19⟩ := bnd g_18
        obtain ⟨r117, M117, h117, g_20⟩ := bnd2 g_19
        refine J_callVI (pc := 117) (as := [vI a114]) (tX9_shutOf (d := d)  h117) cf_X9_shutOf cv_X9_shutOf clF9 hb117 ml_RX9_204 (by omega) (Nat.le_of_ble_eq_true rfl) dX9_told_117 ?_
        exact J_iret (pc := 120) (qi_of g_20) dX9_told_120
      rw [if_neg hc29_4] at g_5
      by_cases hc29_5 : x1 = (5 : Int32)
      · rw [if_pos hc29_5] at g_5
        refine J_tin (pc := 29) (tgt := 121) (off := (92)) (by rw [hc29_5]; decide) (by rw [hc29_5]; decide) (by rw [hc29_5]; decide) (by decide) dX9_told_29 ?_
        refine J_aload_n (pc := 121) (q := 0) rfl rfl dX9_told_121 ?_
        obtain ⟨a122, h122, g_21⟩ := bnd g_5
        refine J_getI (pc := 122) (i := 21) clF9 (by decide) rfl fl_RX9_73 h122 dX9_told_122 ?_
        exact J_iret (pc := 125) (qi_of g_21) dX9_told_125
      rw [if_neg hc29_5] at g_5
      by_cases hc29_6 : x1 = (6 : Int32)
      · rw [if_pos hc29_6] at g_5
        refine J_tin (pc := 29) (tgt := 126) (off := (97)) (by rw [hc29_6]; decide) (by rw [hc29_6]; decide) (by rw [hc29_6]; decide) (by decide) dX9_told_29 ?_
        refine J_aload_n (pc := 126) (q := 0) rfl rfl dX9_told_126 ?_
        obtain ⟨a127, h127, g_22⟩ := bnd g_5
        refine J_getI (pc := 127) (i := 22) clF9 (by decide) rfl fl_RX9_76 h127 dX9_told_127 ?_
        exact J_iret (pc := 130) (qi_of g_22) dX9_told_130
      rw [if_neg hc29_6] at g_5
      by_cases hc29_7 : x1 = (7 : Int32)
      · rw [if_pos hc29_7] at g_5
        refine J_tin (pc := 29) (tgt := 131) (off := (102)) (by rw [hc29_7]; decide) (by rw [hc29_7]; decide) (by rw [hc29_7]; decide) (by decide) dX9_told_29 ?_
        refine J_aload_n (pc := 131) (q := 0) rfl rfl dX9_told_131 ?_
        refine J_aload_n (pc := 132) (q := 0) rfl rfl dX9_told_132 ?_
        obtain ⟨a133, h133, g_23⟩ := bnd g_5
        refine J_getI (pc := 133) (i := 20) clF9 (by decide) rfl fl_RX9_70 h133 dX9_told_133 ?_
        obtain ⟨b136, hb136, g_24⟩ := bnd g_23
        obtain ⟨r136, M136, h136, g_25⟩ := bnd2 g_24
        refine J_callVI (pc := 136) (as := [vI a133]) (tX9_isCaught (d := d)  h136) cf_X9_isCaught cv_X9_isCaught clF9 hb136 ml_RX9_235 (by omega) (Nat.le_of_ble_eq_true rfl) dX9_told_136 ?_
        refine J_ifeq (pc := 139) (tgt := 146) (by decide) dX9_told_139 (fun hc139 => ?_) (fun hc139 => ?_)
        · rw [if_pos hc139] at g_25
          refine J_iconst (pc := 146) (v := (0 : Int32)) (by decide) dX9_told_146 ?_
          exact J_iret (pc := 147) (qi_of g_25) dX9_told_147
        · rw [if_neg hc139] at g_25
          refine J_iconst (pc := 142) (v := (1 : Int32)) (by decide) dX9_told_142 ?_
          refine J_goto (pc := 143) (tgt := 147) (by decide) dX9_told_143 ?_
          exact J_iret (pc := 147) (qi_of g_25) dX9_told_147
      rw [if_neg hc29_7] at g_5
      refine J_tout (pc := 29) (tgt := 148) (by decide) (by have hn0 := i32ne hc29_0 (z := 0) (by decide); have hn1 := i32ne hc29_1 (z := 1) (by decide); have hn2 := i32ne hc29_2 (z := 2) (by decide); have hn3 := i32ne hc29_3 (z := 3) (by decide); have hn4 := i32ne hc29_4 (z := 4) (by decide); have hn5 := i32ne hc29_5 (z := 5) (by decide); have hn6 := i32ne hc29_6 (z := 6) (by decide); have hn7 := i32ne hc29_7 (z := 7) (by decide); omega) dX9_told_29 ?_
      refine J_aload_n (pc := 148) (q := 0) rfl rfl dX9_told_148 ?_
      obtain ⟨a149, h149, g_26⟩ := bnd g_5
      refine J_getR (pc := 149) (i := 10) clF9 (by decide) rfl fl_RX9_40 h149 dX9_told_149 ?_
      refine J_aload_n (pc := 152) (q := 0) rfl rfl dX9_told_152 ?_
      obtain ⟨a153, h153, g_27⟩ := bnd g_26
      refine J_getI (pc := 153) (i := 20) clF9 (by decide) rfl fl_RX9_70 h153 dX9_told_153 ?_
      obtain ⟨a156, h156, g_28⟩ := bnd g_27
      refine J_ald0 (pc := 156) h156 dX9_told_156 ?_
      exact J_iret (pc := 157) (qi_of g_28) dX9_told_157
    · rw [if_neg hc18] at g_3
      refine J_bipush (pc := 21) (v := (-3 : Int32)) (by decide) dX9_told_21 ?_
      exact J_iret (pc := 23) (qi_of g_3) dX9_told_23
  · rw [if_neg hc8] at g_2
    refine J_bipush (pc := 11) (v := (-2 : Int32)) (by decide) dX9_told_11 ?_
    exact J_iret (pc := 13) (qi_of g_2) dX9_told_13
set_option maxHeartbeats 4000000 in
set_option maxRecDepth 100000 in
theorem tX9_ruleZero {ad : Nat → Nat} {ca : Nat → ClassId} {D : va_G} {FU d : Nat} {N : Mem}  {x0 : Nat} {M : Mem}  (h : fX9_ruleZero FU  x0 M = some N) : Ct ad ca D yX9_ruleZero cX9_ruleZero 1 none (d + 0) [vR (some x0)] M (QV N) := by
  refine Ct_of (by decide) (Nat.le_of_ble_eq_true rfl) ?_
  show J ad ca D cX9_ruleZero RX9 1 (d + 0) (Gt ad ca D none (QV N)) 0 [(0, vR (some x0))] [] M
  unfold fX9_ruleZero at h
  refine J_aload_n (pc := 0) (q := 0) rfl rfl dX9_ruleZero_0 ?_
  obtain ⟨a1, h1, g_1⟩ := bnd h
  refine J_getR (pc := 1) (i := 30) clF9 (by decide) rfl fl_RX9_101 h1 dX9_ruleZero_1 ?_
  refine J_iconst (pc := 4) (v := (0 : Int32)) (by decide) dX9_ruleZero_4 ?_
  refine J_iconst (pc := 5) (v := (5 : Int32)) (by decide) dX9_ruleZero_5 ?_
  obtain ⟨M6, h6, g_2⟩ := bnd g_1
  refine J_ast0 (pc := 6) h6 dX9_ruleZero_6 ?_
  refine J_aload_n (pc := 7) (q := 0) rfl rfl dX9_ruleZero_7 ?_
  obtain ⟨a8, h8, g_3⟩ := bnd g_2
  refine J_getR (pc := 8) (i := 31) clF9 (by decide) rfl fl_RX9_104 h8 dX9_ruleZero_8 ?_
  refine J_iconst (pc := 11) (v := (0 : Int32)) (by decide) dX9_ruleZero_11 ?_
  refine J_sipush (pc := 12) (v := (10002 : Int32)) (by decide) dX9_ruleZero_12 ?_
  obtain ⟨M15, h15, g_4⟩ := bnd g_3
  refine J_ast0 (pc := 15) h15 dX9_ruleZero_15 ?_
  refine J_aload_n (pc := 16) (q := 0) rfl rfl dX9_ruleZero_16 ?_
  obtain ⟨a17, h17, g_5⟩ := bnd g_4
  refine J_getR (pc := 17) (i := 31) clF9 (by decide) rfl fl_RX9_104 h17 dX9_ruleZero_17 ?_
  refine J_iconst (pc := 20) (v := (1 : Int32)) (by decide) dX9_ruleZero_20 ?_
  refine J_bipush (pc := 21) (v := (10 : Int32)) (by decide) dX9_ruleZero_21 ?_
  obtain ⟨M23, h23, g_6⟩ := bnd g_5
  refine J_ast0 (pc := 23) h23 dX9_ruleZero_23 ?_
  refine J_aload_n (pc := 24) (q := 0) rfl rfl dX9_ruleZero_24 ?_
  obtain ⟨a25, h25, g_7⟩ := bnd g_6
  refine J_getR (pc := 25) (i := 31) clF9 (by decide) rfl fl_RX9_104 h25 dX9_ruleZero_25 ?_
  refine J_iconst (pc := 28) (v := (2 : Int32)) (by decide) dX9_ruleZero_28 ?_
  refine J_bipush (pc := 29) (v := (-8 : Int32)) (by decide) dX9_ruleZero_29 ?_
  obtain ⟨M31, h31, g_8⟩ := bnd g_7
  refine J_ast0 (pc := 31) h31 dX9_ruleZero_31 ?_
  refine J_aload_n (pc := 32) (q := 0) rfl rfl dX9_ruleZero_32 ?_
  obtain ⟨a33, h33, g_9⟩ := bnd g_8
  refine J_getR (pc := 33) (i := 31) clF9 (by decide) rfl fl_RX9_104 h33 dX9_ruleZero_33 ?_
  refine J_iconst (pc := 36) (v := (3 : Int32)) (by decide) dX9_ruleZero_36 ?_
  refine J_sipush (pc := 37) (v := (10003 : Int32)) (by decide) dX9_ruleZero_37 ?_
  obtain ⟨M40, h40, g_10⟩ := bnd g_9
  refine J_ast0 (pc := 40) h40 dX9_ruleZero_40 ?_
  refine J_aload_n (pc := 41) (q := 0) rfl rfl dX9_ruleZero_41 ?_
  obtain ⟨a42, h42, g_11⟩ := bnd g_10
  refine J_getR (pc := 42) (i := 31) clF9 (by decide) rfl fl_RX9_104 h42 dX9_ruleZero_42 ?_
  refine J_iconst (pc := 45) (v := (4 : Int32)) (by decide) dX9_ruleZero_45 ?_
  refine J_bipush (pc := 46) (v := (-6 : Int32)) (by decide) dX9_ruleZero_46 ?_
  obtain ⟨M48, h48, g_12⟩ := bnd g_11
  refine J_ast0 (pc := 48) h48 dX9_ruleZero_48 ?_
  refine J_aload_n (pc := 49) (q := 0) rfl rfl dX9_ruleZero_49 ?_
  obtain ⟨a50, h50, g_13⟩ := bnd g_12
  refine J_getR (pc := 50) (i := 30) clF9 (by decide) rfl fl_RX9_101 h50 dX9_ruleZero_50 ?_
  refine J_iconst (pc := 53) (v := (1 : Int32)) (by decide) dX9_ruleZero_53 ?_
  refine J_iconst (pc := 54) (v := (5 : Int32)) (by decide) dX9_ruleZero_54 ?_
  obtain ⟨M55, h55, g_14⟩ := bnd g_13
  refine J_ast0 (pc := 55) h55 dX9_ruleZero_55 ?_
  refine J_aload_n (pc := 56) (q := 0) rfl rfl dX9_ruleZero_56 ?_
  obtain ⟨a57, h57, g_15⟩ := bnd g_14
  refine J_getR (pc := 57) (i := 31) clF9 (by decide) rfl fl_RX9_104 h57 dX9_ruleZero_57 ?_
  refine J_bipush (pc := 60) (v := (120 : Int32)) (by decide) dX9_ruleZero_60 ?_
  refine J_sipush (pc := 62) (v := (10000 : Int32)) (by decide) dX9_ruleZero_62 ?_
  obtain ⟨M65, h65, g_16⟩ := bnd g_15
  refine J_ast0 (pc := 65) h65 dX9_ruleZero_65 ?_
  refine J_aload_n (pc := 66) (q := 0) rfl rfl dX9_ruleZero_66 ?_
  obtain ⟨a67, h67, g_17⟩ := bnd g_16
  refine J_getR (pc := 67) (i := 31) clF9 (by decide) rfl fl_RX9_104 h67 dX9_ruleZero_67 ?_
  refine J_bipush (pc := 70) (v := (121 : Int32)) (by decide) dX9_ruleZero_70 ?_
  refine J_iconst (pc := 72) (v := (2 : Int32)) (by decide) dX9_ruleZero_72 ?_
  obtain ⟨M73, h73, g_18⟩ := bnd g_17
  refine J_ast0 (pc := 73) h73 dX9_ruleZero_73 ?_
  refine J_aload_n (pc := 74) (q := 0) rfl rfl dX9_ruleZero_74 ?_
  obtain ⟨a75, h75, g_19⟩ := bnd g_18
  refine J_getR (pc := 75) (i := 31) clF9 (by decide) rfl fl_RX9_104 h75 dX9_ruleZero_75 ?_
  refine J_bipush (pc := 78) (v := (122 : Int32)) (by decide) dX9_ruleZero_78 ?_
  refine J_bipush (pc := 80) (v := (-8 : Int32)) (by decide) dX9_ruleZero_80 ?_
  obtain ⟨M82, h82, g_20⟩ := bnd g_19
  refine J_ast0 (pc := 82) h82 dX9_ruleZero_82 ?_
  refine J_aload_n (pc := 83) (q := 0) rfl rfl dX9_ruleZero_83 ?_
  obtain ⟨a84, h84, g_21⟩ := bnd g_20
  refine J_getR (pc := 84) (i := 31) clF9 (by decide) rfl fl_RX9_104 h84 dX9_ruleZero_84 ?_
  refine J_bipush (pc := 87) (v := (123 : Int32)) (by decide) dX9_ruleZero_87 ?_
  refine J_sipush (pc := 89) (v := (10001 : Int32)) (by decide) dX9_ruleZero_89 ?_
  obtain ⟨M92, h92, g_22⟩ := bnd g_21
  refine J_ast0 (pc := 92) h92 dX9_ruleZero_92 ?_
  refine J_aload_n (pc := 93) (q := 0) rfl rfl dX9_ruleZero_93 ?_
  obtain ⟨a94, h94, g_23⟩ := bnd g_22
  refine J_getR (pc := 94) (i := 31) clF9 (by decide) rfl fl_RX9_104 h94 dX9_ruleZero_94 ?_
  refine J_bipush (pc := 97) (v := (124 : Int32)) (by decide) dX9_ruleZero_97 ?_
  refine J_bipush (pc := 99) (v := (-5 : Int32)) (by decide) dX9_ruleZero_99 ?_
  obtain ⟨M101, h101, g_24⟩ := bnd g_23
  refine J_ast0 (pc := 101) h101 dX9_ruleZero_101 ?_
  exact J_vret (pc := 102) (qv_of g_24) dX9_ruleZero_102
set_option maxHeartbeats 4000000 in
set_option maxRecDepth 100000 in
theorem jX9_feed_L31 {ad : Nat → Nat} {ca : Nat → ClassId} {D : va_G} {FU d : Nat} {r : Int32} {N : Mem}   {x0 : Nat} {x1 : Int32} {x2 : Int64}   : ∀ (F : Nat) (x4 : Int32) (M : Mem), fX9_feed_L31 FU  x0 x1 x2 F x4 M = some (r, N) → J ad ca D cX9_feed RX9 5 (d + 1) (Gt ad ca D (some .int) (QI r N)) 31 [(0, vR (some x0)), (1, vI x1), (2, vL x2), (4, vI x4)] [] M := by
  intro F
  induction F with
  | zero =>
    intro x4 M h
    rw [fX9_feed_L31] at h
    cases h
  | succ F hk31 =>
    intro x4 M h
    rw [fX9_feed_L31] at h
    refine J_iload (pc := 31) (q := 3) rfl dX9_feed_31 ?_
    refine J_iload_n (pc := 33) (q := 1) rfl rfl dX9_feed_33 ?_
    refine J_icge (pc := 34) (tgt := 71) (by decide) dX9_feed_34 (fun hc34 => ?_) (fun hc34 => ?_)
    · rw [if_pos hc34] at h
      refine J_aload_n (pc := 71) (q := 0) rfl rfl dX9_feed_71 ?_
      obtain ⟨a72, h72, g_1⟩ := bnd h
      refine J_getI (pc := 72) (i := 27) clF9 (by decide) rfl fl_RX9_92 h72 dX9_feed_72 ?_
      exact J_iret (pc := 75) (qi_of g_1) dX9_feed_75
    · rw [if_neg hc34] at h
      refine J_aload_n (pc := 37) (q := 0) rfl rfl dX9_feed_37 ?_
      obtain ⟨a38, h38, g_2⟩ := bnd h
      refine J_getR (pc := 38) (i := 26) clF9 (by decide) rfl fl_RX9_88 h38 dX9_feed_38 ?_
      refine J_aload_n (pc := 41) (q := 0) rfl rfl dX9_feed_41 ?_
      obtain ⟨a42, h42, g_3⟩ := bnd g_2
      refine J_getI (pc := 42) (i := 27) clF9 (by decide) rfl fl_RX9_92 h42 dX9_feed_42 ?_
      refine J_lload_n (pc := 45) (q := 2) rfl rfl dX9_feed_45 ?_
      refine J_bipush (pc := 46) (v := (8 : Int32)) (by decide) dX9_feed_46 ?_
      refine J_iload (pc := 48) (q := 3) rfl dX9_feed_48 ?_
      refine J_imul (pc := 50) dX9_feed_50 ?_
      refine J_lshr (pc := 51) dX9_feed_51 ?_
      refine J_l2i (pc := 52) dX9_feed_52 ?_
      refine J_i2b (pc := 53) dX9_feed_53 ?_
      obtain ⟨M54, h54, g_4⟩ := bnd g_3
      refine J_ast2 (pc := 54) h54 dX9_feed_54 ?_
      refine J_aload_n (pc := 55) (q := 0) rfl rfl dX9_feed_55 ?_
      refine J_dup (pc := 56) rfl dX9_feed_56 ?_
      obtain ⟨a57, h57, g_5⟩ := bnd g_4
      refine J_getI (pc := 57) (i := 27) clF9 (by decide) rfl fl_RX9_92 h57 dX9_feed_57 ?_
      refine J_iconst (pc := 60) (v := (1 : Int32)) (by decide) dX9_feed_60 ?_
      refine J_iadd (pc := 61) dX9_feed_61 ?_
      obtain ⟨M62, h62, g_6⟩ := bnd g_5
      refine J_putI (pc := 62) (i := 27) clF9 (by decide) rfl fl_RX9_92 rfl rfl h62 dX9_feed_62 ?_
      refine J_iinc (pc := 65) (q := 3) rfl (v := x4 + (1 : Int32)) rfl (by decide) (lv' := [(0, vR (some x0)), (1, vI x1), (2, vL x2), (4, vI (x4 + (1 : Int32)))]) rfl dX9_feed_65 ?_
      refine J_goto (pc := 68) (tgt := 31) (by decide) dX9_feed_68 ?_
      exact hk31 _ _ g_6
set_option maxHeartbeats 4000000 in
set_option maxRecDepth 100000 in
theorem tX9_feed {ad : Nat → Nat} {ca : Nat → ClassId} {D : va_G} {FU d : Nat} {r : Int32} {N : Mem}  {x0 : Nat} {x1 : Int32} {x2 : Int64} {M : Mem}  (h : fX9_feed FU  x0 x1 x2 M = some (r, N)) : Ct ad ca D yX9_feed cX9_feed 5 (some .int) (d + 1) [vR (some x0), vI x1, vL x2] M (QI r N) := by
  refine Ct_of (by decide) (Nat.le_of_ble_eq_true rfl) ?_
  show J ad ca D cX9_feed RX9 5 (d + 1) (Gt ad ca D (some .int) (QI r N)) 0 [(0, vR (some x0)), (1, vI x1), (2, vL x2)] [] M
  unfold fX9_feed at h
  refine J_aload_n (pc := 0) (q := 0) rfl rfl dX9_feed_0 ?_
  refine J_iload_n (pc := 1) (q := 1) rfl rfl dX9_feed_1 ?_
  refine J_iconst (pc := 2) (v := (1 : Int32)) (by decide) dX9_feed_2 ?_
  refine J_bipush (pc := 3) (v := (8 : Int32)) (by decide) dX9_feed_3 ?_
  obtain ⟨b5, hb5, g_7⟩ := bnd h
  obtain ⟨r5, M5, h5, g_8⟩ := bnd2 g_7
  refine J_callVI (pc := 5) (as := [vI x1, vI (1 : Int32), vI (8 : Int32)]) (tX9_in (d := d)  h5) cf_X9_in cv_X9_in clF9 hb5 ml_RX9_155 (by omega) (Nat.le_of_ble_eq_true rfl) dX9_feed_5 ?_
  refine J_ifne (pc := 8) (tgt := 14) (by decide) dX9_feed_8 (fun hc8 => ?_) (fun hc8 => ?_)
  · rw [if_pos hc8] at g_8
    refine J_aload_n (pc := 14) (q := 0) rfl rfl dX9_feed_14 ?_
    obtain ⟨a15, h15, g_9⟩ := bnd g_8
    refine J_getI (pc := 15) (i := 27) clF9 (by decide) rfl fl_RX9_92 h15 dX9_feed_15 ?_
    refine J_iload_n (pc := 18) (q := 1) rfl rfl dX9_feed_18 ?_
    refine J_iadd (pc := 19) dX9_feed_19 ?_
    refine J_bipush (pc := 20) (v := (120 : Int32)) (by decide) dX9_feed_20 ?_
    refine J_icle (pc := 22) (tgt := 28) (by decide) dX9_feed_22 (fun hc22 => ?_) (fun hc22 => ?_)
    · rw [if_pos hc22] at g_9
      refine J_iconst (pc := 28) (v := (0 : Int32)) (by decide) dX9_feed_28 ?_
      refine J_istore (pc := 29) (by decide) (lv' := [(0, vR (some x0)), (1, vI x1), (2, vL x2), (4, vI (0 : Int32))]) rfl dX9_feed_29 ?_
      exact jX9_feed_L31  FU _ _ g_9
    · rw [if_neg hc22] at g_9
      refine J_bipush (pc := 25) (v := (-4 : Int32)) (by decide) dX9_feed_25 ?_
      exact J_iret (pc := 27) (qi_of g_9) dX9_feed_27
  · rw [if_neg hc8] at g_8
    refine J_bipush (pc := 11) (v := (-2 : Int32)) (by decide) dX9_feed_11 ?_
    exact J_iret (pc := 13) (qi_of g_8) dX9_feed_13
set_option maxHeartbeats 4000000 in
set_option maxRecDepth 100000 in
theorem tX9_isLetter {ad : Nat → Nat} {ca : Nat → ClassId} {D : va_G} {FU d : Nat} {r : Int32} {N : Mem}  {x0 : Nat} {x1 : Int32} {M : Mem}  (h : fX9_isLetter FU  x0 x1 M = some (r, N)) : Ct ad ca D yX9_isLetter cX9_isLetter 2 (some .boolean) (d + 0) [vR (some x0), vI x1] M (QI r N) := by
  refine Ct_of (by decide) (Nat.le_of_ble_eq_true rfl) ?_
  show J ad ca D cX9_isLetter RX9 2 (d + 0) (Gt ad ca D (some .boolean) (QI r N)) 0 [(0, vR (some x0)), (1, vI x1)] [] M
  unfold fX9_isLetter at h
  refine J_iload_n (pc := 0) (q := 1) rfl rfl dX9_isLetter_0 ?_
  refine J_bipush (pc := 1) (v := (97 : Int32)) (by decide) dX9_isLetter_1 ?_
  refine J_iclt (pc := 3) (tgt := 16) (by decide) dX9_isLetter_3 (fun hc3 => ?_) (fun hc3 => ?_)
  · rw [if_pos hc3] at h
    refine J_iconst (pc := 16) (v := (0 : Int32)) (by decide) dX9_isLetter_16 ?_
    exact J_zret (pc := 17) (Or.inl rfl) (qi_of h) dX9_isLetter_17
  · rw [if_neg hc3] at h
    refine J_iload_n (pc := 6) (q := 1) rfl rfl dX9_isLetter_6 ?_
    refine J_bipush (pc := 7) (v := (122 : Int32)) (by decide) dX9_isLetter_7 ?_
    refine J_icgt (pc := 9) (tgt := 16) (by decide) dX9_isLetter_9 (fun hc9 => ?_) (fun hc9 => ?_)
    · rw [if_pos hc9] at h
      refine J_iconst (pc := 16) (v := (0 : Int32)) (by decide) dX9_isLetter_16 ?_
      exact J_zret (pc := 17) (Or.inl rfl) (qi_of h) dX9_isLetter_17
    · rw [if_neg hc9] at h
      refine J_iconst (pc := 12) (v := (1 : Int32)) (by decide) dX9_isLetter_12 ?_
      refine J_goto (pc := 13) (tgt := 17) (by decide) dX9_isLetter_13 ?_
      exact J_zret (pc := 17) (Or.inr rfl) (qi_of h) dX9_isLetter_17
set_option maxHeartbeats 4000000 in
set_option maxRecDepth 100000 in
theorem tX9_isDigit {ad : Nat → Nat} {ca : Nat → ClassId} {D : va_G} {FU d : Nat} {r : Int32} {N : Mem}  {x0 : Nat} {x1 : Int32} {M : Mem}  (h : fX9_isDigit FU  x0 x1 M = some (r, N)) : Ct ad ca D yX9_isDigit cX9_isDigit 2 (some .boolean) (d + 0) [vR (some x0), vI x1] M (QI r N) := by
  refine Ct_of (by decide) (Nat.le_of_ble_eq_true rfl) ?_
  show J ad ca D cX9_isDigit RX9 2 (d + 0) (Gt ad ca D (some .boolean) (QI r N)) 0 [(0, vR (some x0)), (1, vI x1)] [] M
  unfold fX9_isDigit at h
  refine J_iload_n (pc := 0) (q := 1) rfl rfl dX9_isDigit_0 ?_
  refine J_bipush (pc := 1) (v := (48 : Int32)) (by decide) dX9_isDigit_1 ?_
  refine J_iclt (pc := 3) (tgt := 16) (by decide) dX9_isDigit_3 (fun hc3 => ?_) (fun hc3 => ?_)
  · rw [if_pos hc3] at h
    refine J_iconst (pc := 16) (v := (0 : Int32)) (by decide) dX9_isDigit_16 ?_
    exact J_zret (pc := 17) (Or.inl rfl) (qi_of h) dX9_isDigit_17
  · rw [if_neg hc3] at h
    refine J_iload_n (pc := 6) (q := 1) rfl rfl dX9_isDigit_6 ?_
    refine J_bipush (pc := 7) (v := (57 : Int32)) (by decide) dX9_isDigit_7 ?_
    refine J_icgt (pc := 9) (tgt := 16) (by decide) dX9_isDigit_9 (fun hc9 => ?_) (fun hc9 => ?_)
    · rw [if_pos hc9] at h
      refine J_iconst (pc := 16) (v := (0 : Int32)) (by decide) dX9_isDigit_16 ?_
      exact J_zret (pc := 17) (Or.inl rfl) (qi_of h) dX9_isDigit_17
    · rw [if_neg hc9] at h
      refine J_iconst (pc := 12) (v := (1 : Int32)) (by decide) dX9_isDigit_12 ?_
      refine J_goto (pc := 13) (tgt := 17) (by decide) dX9_isDigit_13 ?_
      exact J_zret (pc := 17) (Or.inr rfl) (qi_of h) dX9_isDigit_17
set_option maxHeartbeats 4000000 in
set_option maxRecDepth 100000 in
theorem jX9_isWord_b55 {ad : Nat → Nat} {ca : Nat → ClassId} {D : va_G} {FU d : Nat} {r : Int32} {N : Mem}   {x0 : Nat} {x3 : Int64} {x5 : Int32} {M : Mem}   (h : fX9_isWord_b55 FU  x0 x3 x5 M = some (r, N)) : J ad ca D cX9_isWord RX9 6 (d + 0) (Gt ad ca D (some .boolean) (QI r N)) 55 [(0, vR (some x0)), (3, vL x3), (5, vI x5)] [] M := by
  unfold fX9_isWord_b55 at h
  refine J_lload_n (pc := 55) (q := 1) rfl rfl dX9_isWord_55 ?_
  refine J_lconst (pc := 56) (v := (0 : Int64)) (by decide) dX9_isWord_56 ?_
  refine J_lcmp (pc := 57) dX9_isWord_57 ?_
  refine J_ifne (pc := 58) (tgt := 76) (by decide) dX9_isWord_58 (fun hc58 => ?_) (fun hc58 => ?_)
  · rw [if_pos hc58] at h
    refine J_iconst (pc := 76) (v := (0 : Int32)) (by decide) dX9_isWord_76 ?_
    exact J_zret (pc := 77) (Or.inl rfl) (qi_of h) dX9_isWord_77
  · rw [if_neg hc58] at h
    refine J_iload (pc := 61) (q := 2) rfl dX9_isWord_61 ?_
    refine J_aload_n (pc := 63) (q := 0) rfl rfl dX9_isWord_63 ?_
    obtain ⟨a64, h64, g_1⟩ := bnd h
    refine J_getI (pc := 64) (i := 35) clF9 (by decide) rfl fl_RX9_116 h64 dX9_isWord_64 ?_
    refine J_iconst (pc := 67) (v := (1 : Int32)) (by decide) dX9_isWord_67 ?_
    refine J_isub (pc := 68) dX9_isWord_68 ?_
    refine J_icne (pc := 69) (tgt := 76) (by decide) dX9_isWord_69 (fun hc69 => ?_) (fun hc69 => ?_)
    · rw [if_pos hc69] at g_1
      refine J_iconst (pc := 76) (v := (0 : Int32)) (by decide) dX9_isWord_76 ?_
      exact J_zret (pc := 77) (Or.inl rfl) (qi_of g_1) dX9_isWord_77
    · rw [if_neg hc69] at g_1
      refine J_iconst (pc := 72) (v := (1 : Int32)) (by decide) dX9_isWord_72 ?_
      refine J_goto (pc := 73) (tgt := 77) (by decide) dX9_isWord_73 ?_
      exact J_zret (pc := 77) (Or.inr rfl) (qi_of g_1) dX9_isWord_77
set_option maxHeartbeats 4000000 in
set_option maxRecDepth 100000 in
theorem jX9_isWord_L10 {ad : Nat → Nat} {ca : Nat → ClassId} {D : va_G} {FU d : Nat} {r : Int32} {N : Mem}   {x0 : Nat}   : ∀ (F : Nat) (x3 : Int64) (x5 : Int32) (M : Mem), fX9_isWord_L10 FU  x0 F x3 x5 M = some (r, N) → J ad ca D cX9_isWord RX9 6 (d + 0) (Gt ad ca D (some .boolean) (QI r N)) 10 [(0, vR (some x0)), (3, vL x3), (5, vI x5)] [] M := by
  intro F
  induction F with
  | zero =>
    intro x3 x5 M h
    rw [fX9_isWord_L10] at h
    cases h
  | succ F hk10 =>
    intro x3 x5 M h
    rw [fX9_isWord_L10] at h
    refine J_iload (pc := 10) (q := 2) rfl dX9_isWord_10 ?_
    refine J_aload_n (pc := 12) (q := 0) rfl rfl dX9_isWord_12 ?_
    obtain ⟨a13, h13, g_2⟩ := bnd h
    refine J_getI (pc := 13) (i := 35) clF9 (by decide) rfl fl_RX9_116 h13 dX9_isWord_13 ?_
    refine J_iclt (pc := 16) (tgt := 55) (by decide) dX9_isWord_16 (fun hc16 => ?_) (fun hc16 => ?_)
    · rw [if_pos hc16] at g_2
      exact jX9_isWord_b55  g_2
    · rw [if_neg hc16] at g_2
      refine J_lload_n (pc := 19) (q := 1) rfl rfl dX9_isWord_19 ?_
      refine J_lconst (pc := 20) (v := (0 : Int64)) (by decide) dX9_isWord_20 ?_
      refine J_lcmp (pc := 21) dX9_isWord_21 ?_
      refine J_ifle (pc := 22) (tgt := 55) (by decide) dX9_isWord_22 (fun hc22 => ?_) (fun hc22 => ?_)
      · rw [if_pos hc22] at g_2
        exact jX9_isWord_b55  g_2
      · rw [if_neg hc22] at g_2
        refine J_lload_n (pc := 25) (q := 1) rfl rfl dX9_isWord_25 ?_
        refine J_ldc2 (pc := 26) cn_RX9_329 dX9_isWord_26 ?_
        refine J_land (pc := 29) dX9_isWord_29 ?_
        refine J_aload_n (pc := 30) (q := 0) rfl rfl dX9_isWord_30 ?_
        obtain ⟨a31, h31, g_3⟩ := bnd g_2
        refine J_getR (pc := 31) (i := 26) clF9 (by decide) rfl fl_RX9_88 h31 dX9_isWord_31 ?_
        refine J_iload (pc := 34) (q := 2) rfl dX9_isWord_34 ?_
        obtain ⟨a36, h36, g_4⟩ := bnd g_3
        refine J_ald2 (pc := 36) h36 dX9_isWord_36 ?_
        refine J_bipush (pc := 37) (v := (96 : Int32)) (by decide) dX9_isWord_37 ?_
        refine J_isub (pc := 39) dX9_isWord_39 ?_
        refine J_i2l (pc := 40) dX9_isWord_40 ?_
        refine J_lcmp (pc := 41) dX9_isWord_41 ?_
        refine J_ifne (pc := 42) (tgt := 55) (by decide) dX9_isWord_42 (fun hc42 => ?_) (fun hc42 => ?_)
        · rw [if_pos hc42] at g_4
          exact jX9_isWord_b55  g_4
        · rw [if_neg hc42] at g_4
          refine J_lload_n (pc := 45) (q := 1) rfl rfl dX9_isWord_45 ?_
          refine J_iconst (pc := 46) (v := (5 : Int32)) (by decide) dX9_isWord_46 ?_
          refine J_lshr (pc := 47) dX9_isWord_47 ?_
          refine J_lstore_n (pc := 48) rfl (by decide) (lv' := [(0, vR (some x0)), (5, vI x5), (3, vL (x3 >>> ((5 : Int32).toInt64 &&& 63)))]) rfl dX9_isWord_48 ?_
          refine J_iinc (pc := 49) (q := 1) rfl (v := x5 + (-1 : Int32)) (congrArg (fun z => x5 + z) (show Int32.ofInt (-1) = (-1 : Int32) by decide)) (by decide) (lv' := [(0, vR (some x0)), (3, vL (x3 >>> ((5 : Int32).toInt64 &&& 63))), (5, vI (x5 + (-1 : Int32)))]) rfl dX9_isWord_49 ?_
          refine J_goto (pc := 52) (tgt := 10) (by decide) dX9_isWord_52 ?_
          exact hk10 _ _ _ g_4
set_option maxHeartbeats 4000000 in
set_option maxRecDepth 100000 in
theorem tX9_isWord {ad : Nat → Nat} {ca : Nat → ClassId} {D : va_G} {FU d : Nat} {r : Int32} {N : Mem}  {x0 : Nat} {x1 : Int64} {M : Mem}  (h : fX9_isWord FU  x0 x1 M = some (r, N)) : Ct ad ca D yX9_isWord cX9_isWord 6 (some .boolean) (d + 0) [vR (some x0), vL x1] M (QI r N) := by
  refine Ct_of (by decide) (Nat.le_of_ble_eq_true rfl) ?_
  show J ad ca D cX9_isWord RX9 6 (d + 0) (Gt ad ca D (some .boolean) (QI r N)) 0 [(0, vR (some x0)), (1, vL x1)] [] M
  unfold fX9_isWord at h
  refine J_lload_n (pc := 0) (q := 1) rfl rfl dX9_isWord_0 ?_
  refine J_lstore_n (pc := 1) rfl (by decide) (lv' := [(0, vR (some x0)), (1, vL x1), (3, vL x1)]) rfl dX9_isWord_1 ?_
  refine J_aload_n (pc := 2) (q := 0) rfl rfl dX9_isWord_2 ?_
  obtain ⟨a3, h3, g_5⟩ := bnd h
  refine J_getI (pc := 3) (i := 32) clF9 (by decide) rfl fl_RX9_107 h3 dX9_isWord_3 ?_
  refine J_iconst (pc := 6) (v := (1 : Int32)) (by decide) dX9_isWord_6 ?_
  refine J_isub (pc := 7) dX9_isWord_7 ?_
  refine J_istore (pc := 8) (by decide) (lv' := [(0, vR (some x0)), (1, vL x1), (3, vL x1), (5, vI (a3 - (1 : Int32)))]) rfl dX9_isWord_8 ?_
  refine J_sub [0, 2, 3] (lv' := [(0, vR (some x0)), (3, vL x1), (5, vI (a3 - (1 : Int32)))]) rfl ?_
  exact jX9_isWord_L10  FU _ _ _ g_5
set_option maxHeartbeats 4000000 in
set_option maxRecDepth 100000 in
theorem jX9_wordToken_b219 {ad : Nat → Nat} {ca : Nat → ClassId} {D : va_G} {FU d : Nat} {N : Mem}   {x0 : Nat} {s0 : Option Nat} {s1 : Int32} {M : Mem}   (h : fX9_wordToken_b219 FU  x0 s0 s1 M = some N) : J ad ca D cX9_wordToken RX9 1 (d + 1) (Gt ad ca D none (QV N)) 219 [(0, vR (some x0))] [vI s1, vR s0] M := by
  unfold fX9_wordToken_b219 at h
  obtain ⟨M219, h219, g_1⟩ := bnd h
  refine J_putI (pc := 219) (i := 34) clF9 (by decide) rfl fl_RX9_113 rfl rfl h219 dX9_wordToken_219 ?_
  refine J_aload_n (pc := 222) (q := 0) rfl rfl dX9_wordToken_222 ?_
  obtain ⟨a223, h223, g_2⟩ := bnd g_1
  refine J_getI (pc := 223) (i := 34) clF9 (by decide) rfl fl_RX9_113 h223 dX9_wordToken_223 ?_
  refine J_ifge (pc := 226) (tgt := 234) (by decide) dX9_wordToken_226 (fun hc226 => ?_) (fun hc226 => ?_)
  · rw [if_pos hc226] at g_2
    exact J_vret (pc := 234) (qv_of g_2) dX9_wordToken_234
  · rw [if_neg hc226] at g_2
    refine J_aload_n (pc := 229) (q := 0) rfl rfl dX9_wordToken_229 ?_
    refine J_iconst (pc := 230) (v := (5 : Int32)) (by decide) dX9_wordToken_230 ?_
    obtain ⟨M231, h231, g_3⟩ := bnd g_2
    refine J_putI (pc := 231) (i := 33) clF9 (by decide) rfl fl_RX9_110 rfl rfl h231 dX9_wordToken_231 ?_
    exact J_vret (pc := 234) (qv_of g_3) dX9_wordToken_234
set_option maxHeartbeats 4000000 in
set_option maxRecDepth 100000 in
theorem jX9_wordToken_b131 {ad : Nat → Nat} {ca : Nat → ClassId} {D : va_G} {FU d : Nat} {N : Mem}   {x0 : Nat} {s0 : Option Nat} {s1 : Int32} {M : Mem}   (h : fX9_wordToken_b131 FU  x0 s0 s1 M = some N) : J ad ca D cX9_wordToken RX9 1 (d + 1) (Gt ad ca D none (QV N)) 131 [(0, vR (some x0))] [vI s1, vR s0] M := by
  unfold fX9_wordToken_b131 at h
  obtain ⟨M131, h131, g_4⟩ := bnd h
  refine J_putI (pc := 131) (i := 34) clF9 (by decide) rfl fl_RX9_113 rfl rfl h131 dX9_wordToken_131 ?_
  refine J_aload_n (pc := 134) (q := 0) rfl rfl dX9_wordToken_134 ?_
  obtain ⟨a135, h135, g_5⟩ := bnd g_4
  refine J_getI (pc := 135) (i := 34) clF9 (by decide) rfl fl_RX9_113 h135 dX9_wordToken_135 ?_
  refine J_iflt (pc := 138) (tgt := 142) (by decide) dX9_wordToken_138 (fun hc138 => ?_) (fun hc138 => ?_)
  · rw [if_pos hc138] at g_5
    refine J_aload_n (pc := 142) (q := 0) rfl rfl dX9_wordToken_142 ?_
    refine J_iconst (pc := 143) (v := (3 : Int32)) (by decide) dX9_wordToken_143 ?_
    obtain ⟨M144, h144, g_6⟩ := bnd g_5
    refine J_putI (pc := 144) (i := 33) clF9 (by decide) rfl fl_RX9_110 rfl rfl h144 dX9_wordToken_144 ?_
    refine J_aload_n (pc := 147) (q := 0) rfl rfl dX9_wordToken_147 ?_
    refine J_aload_n (pc := 148) (q := 0) rfl rfl dX9_wordToken_148 ?_
    refine J_ldc2 (pc := 149) cn_RX9_350 dX9_wordToken_149 ?_
    obtain ⟨b152, hb152, g_7⟩ := bnd g_6
    obtain ⟨r152, M152, h152, g_8⟩ := bnd2 g_7
    refine J_callVI (pc := 152) (as := [vL (7931013 : Int64)]) (tX9_isWord (d := d)  h152) cf_X9_isWord cv_X9_isWord clF9 hb152 ml_RX9_336 (by omega) (Nat.le_of_ble_eq_true rfl) dX9_wordToken_152 ?_
    refine J_ifeq (pc := 155) (tgt := 162) (by decide) dX9_wordToken_155 (fun hc155 => ?_) (fun hc155 => ?_)
    · rw [if_pos hc155] at g_8
      refine J_aload_n (pc := 162) (q := 0) rfl rfl dX9_wordToken_162 ?_
      refine J_ldc2 (pc := 163) cn_RX9_352 dX9_wordToken_163 ?_
      obtain ⟨b166, hb166, g_9⟩ := bnd g_8
      obtain ⟨r166, M166, h166, g_10⟩ := bnd2 g_9
      refine J_callVI (pc := 166) (as := [vL (197938 : Int64)]) (tX9_isWord (d := d)  h166) cf_X9_isWord cv_X9_isWord clF9 hb166 ml_RX9_336 (by omega) (Nat.le_of_ble_eq_true rfl) dX9_wordToken_166 ?_
      refine J_ifeq (pc := 169) (tgt := 176) (by decide) dX9_wordToken_169 (fun hc169 => ?_) (fun hc169 => ?_)
      · rw [if_pos hc169] at g_10
        refine J_aload_n (pc := 176) (q := 0) rfl rfl dX9_wordToken_176 ?_
        refine J_ldc2 (pc := 177) cn_RX9_354 dX9_wordToken_177 ?_
        obtain ⟨b180, hb180, g_11⟩ := bnd g_10
        obtain ⟨r180, M180, h180, g_12⟩ := bnd2 g_11
        refine J_callVI (pc := 180) (as := [vL (498 : Int64)]) (tX9_isWord (d := d)  h180) cf_X9_isWord cv_X9_isWord clF9 hb180 ml_RX9_336 (by omega) (Nat.le_of_ble_eq_true rfl) dX9_wordToken_180 ?_
        refine J_ifeq (pc := 183) (tgt := 190) (by decide) dX9_wordToken_183 (fun hc183 => ?_) (fun hc183 => ?_)
        · rw [if_pos hc183] at g_12
          refine J_aload_n (pc := 190) (q := 0) rfl rfl dX9_wordToken_190 ?_
          refine J_ldc2 (pc := 191) cn_RX9_356 dX9_wordToken_191 ?_
          obtain ⟨b194, hb194, g_13⟩ := bnd g_12
          obtain ⟨r194, M194, h194, g_14⟩ := bnd2 g_13
          refine J_callVI (pc := 194) (as := [vL (1476 : Int64)]) (tX9_isWord (d := d)  h194) cf_X9_isWord cv_X9_isWord clF9 hb194 ml_RX9_336 (by omega) (Nat.le_of_ble_eq_true rfl) dX9_wordToken_194 ?_
          refine J_ifeq (pc := 197) (tgt := 204) (by decide) dX9_wordToken_197 (fun hc197 => ?_) (fun hc197 => ?_)
          · rw [if_pos hc197] at g_14
            refine J_aload_n (pc := 204) (q := 0) rfl rfl dX9_wordToken_204 ?_
            refine J_ldc2 (pc := 205) cn_RX9_358 dX9_wordToken_205 ?_
            obtain ⟨b208, hb208, g_15⟩ := bnd g_14
            obtain ⟨r208, M208, h208, g_16⟩ := bnd2 g_15
            refine J_callVI (pc := 208) (as := [vL (14836 : Int64)]) (tX9_isWord (d := d)  h208) cf_X9_isWord cv_X9_isWord clF9 hb208 ml_RX9_336 (by omega) (Nat.le_of_ble_eq_true rfl) dX9_wordToken_208 ?_
            refine J_ifeq (pc := 211) (tgt := 218) (by decide) dX9_wordToken_211 (fun hc211 => ?_) (fun hc211 => ?_)
            · rw [if_pos hc211] at g_16
              refine J_iconst (pc := 218) (v := (-1 : Int32)) (by decide) dX9_wordToken_218 ?_
              exact jX9_wordToken_b219  g_16
            · rw [if_neg hc211] at g_16
              refine J_iconst (pc := 214) (v := (4 : Int32)) (by decide) dX9_wordToken_214 ?_
              refine J_goto (pc := 215) (tgt := 219) (by decide) dX9_wordToken_215 ?_
              exact jX9_wordToken_b219  g_16
          · rw [if_neg hc197] at g_14
            refine J_iconst (pc := 200) (v := (3 : Int32)) (by decide) dX9_wordToken_200 ?_
            refine J_goto (pc := 201) (tgt := 219) (by decide) dX9_wordToken_201 ?_
            exact jX9_wordToken_b219  g_14
        · rw [if_neg hc183] at g_12
          refine J_iconst (pc := 186) (v := (2 : Int32)) (by decide) dX9_wordToken_186 ?_
          refine J_goto (pc := 187) (tgt := 219) (by decide) dX9_wordToken_187 ?_
          exact jX9_wordToken_b219  g_12
      · rw [if_neg hc169] at g_10
        refine J_iconst (pc := 172) (v := (1 : Int32)) (by decide) dX9_wordToken_172 ?_
        refine J_goto (pc := 173) (tgt := 219) (by decide) dX9_wordToken_173 ?_
        exact jX9_wordToken_b219  g_10
    · rw [if_neg hc155] at g_8
      refine J_iconst (pc := 158) (v := (0 : Int32)) (by decide) dX9_wordToken_158 ?_
      refine J_goto (pc := 159) (tgt := 219) (by decide) dX9_wordToken_159 ?_
      exact jX9_wordToken_b219  g_8
  · rw [if_neg hc138] at g_5
    exact J_vret (pc := 141) (qv_of g_5) dX9_wordToken_141
set_option maxHeartbeats 4000000 in
set_option maxRecDepth 100000 in
theorem jX9_wordToken_b40 {ad : Nat → Nat} {ca : Nat → ClassId} {D : va_G} {FU d : Nat} {N : Mem}   {x0 : Nat} {M : Mem}   (h : fX9_wordToken_b40 FU  x0 M = some N) : J ad ca D cX9_wordToken RX9 1 (d + 1) (Gt ad ca D none (QV N)) 40 [(0, vR (some x0))] [] M := by
  unfold fX9_wordToken_b40 at h
  refine J_aload_n (pc := 40) (q := 0) rfl rfl dX9_wordToken_40 ?_
  refine J_iconst (pc := 41) (v := (2 : Int32)) (by decide) dX9_wordToken_41 ?_
  obtain ⟨M42, h42, g_17⟩ := bnd h
  refine J_putI (pc := 42) (i := 33) clF9 (by decide) rfl fl_RX9_110 rfl rfl h42 dX9_wordToken_42 ?_
  refine J_aload_n (pc := 45) (q := 0) rfl rfl dX9_wordToken_45 ?_
  refine J_aload_n (pc := 46) (q := 0) rfl rfl dX9_wordToken_46 ?_
  refine J_ldc2 (pc := 47) cn_RX9_334 dX9_wordToken_47 ?_
  obtain ⟨b50, hb50, g_18⟩ := bnd g_17
  obtain ⟨r50, M50, h50, g_19⟩ := bnd2 g_18
  refine J_callVI (pc := 50) (as := [vL (24046 : Int64)]) (tX9_isWord (d := d)  h50) cf_X9_isWord cv_X9_isWord clF9 hb50 ml_RX9_336 (by omega) (Nat.le_of_ble_eq_true rfl) dX9_wordToken_50 ?_
  refine J_ifeq (pc := 53) (tgt := 60) (by decide) dX9_wordToken_53 (fun hc53 => ?_) (fun hc53 => ?_)
  · rw [if_pos hc53] at g_19
    refine J_aload_n (pc := 60) (q := 0) rfl rfl dX9_wordToken_60 ?_
    refine J_ldc2 (pc := 61) cn_RX9_340 dX9_wordToken_61 ?_
    obtain ⟨b64, hb64, g_20⟩ := bnd g_19
    obtain ⟨r64, M64, h64, g_21⟩ := bnd2 g_20
    refine J_callVI (pc := 64) (as := [vL (1420 : Int64)]) (tX9_isWord (d := d)  h64) cf_X9_isWord cv_X9_isWord clF9 hb64 ml_RX9_336 (by omega) (Nat.le_of_ble_eq_true rfl) dX9_wordToken_64 ?_
    refine J_ifeq (pc := 67) (tgt := 74) (by decide) dX9_wordToken_67 (fun hc67 => ?_) (fun hc67 => ?_)
    · rw [if_pos hc67] at g_21
      refine J_aload_n (pc := 74) (q := 0) rfl rfl dX9_wordToken_74 ?_
      refine J_ldc2 (pc := 75) cn_RX9_342 dX9_wordToken_75 ?_
      obtain ⟨b78, hb78, g_22⟩ := bnd g_21
      obtain ⟨r78, M78, h78, g_23⟩ := bnd2 g_22
      refine J_callVI (pc := 78) (as := [vL (13403133556 : Int64)]) (tX9_isWord (d := d)  h78) cf_X9_isWord cv_X9_isWord clF9 hb78 ml_RX9_336 (by omega) (Nat.le_of_ble_eq_true rfl) dX9_wordToken_78 ?_
      refine J_ifeq (pc := 81) (tgt := 88) (by decide) dX9_wordToken_81 (fun hc81 => ?_) (fun hc81 => ?_)
      · rw [if_pos hc81] at g_23
        refine J_aload_n (pc := 88) (q := 0) rfl rfl dX9_wordToken_88 ?_
        refine J_ldc2 (pc := 89) cn_RX9_344 dX9_wordToken_89 ?_
        obtain ⟨b92, hb92, g_24⟩ := bnd g_23
        obtain ⟨r92, M92, h92, g_25⟩ := bnd2 g_24
        refine J_callVI (pc := 92) (as := [vL (17912639667 : Int64)]) (tX9_isWord (d := d)  h92) cf_X9_isWord cv_X9_isWord clF9 hb92 ml_RX9_336 (by omega) (Nat.le_of_ble_eq_true rfl) dX9_wordToken_92 ?_
        refine J_ifeq (pc := 95) (tgt := 102) (by decide) dX9_wordToken_95 (fun hc95 => ?_) (fun hc95 => ?_)
        · rw [if_pos hc95] at g_25
          refine J_aload_n (pc := 102) (q := 0) rfl rfl dX9_wordToken_102 ?_
          refine J_ldc2 (pc := 103) cn_RX9_346 dX9_wordToken_103 ?_
          obtain ⟨b106, hb106, g_26⟩ := bnd g_25
          obtain ⟨r106, M106, h106, g_27⟩ := bnd2 g_26
          refine J_callVI (pc := 106) (as := [vL (755507 : Int64)]) (tX9_isWord (d := d)  h106) cf_X9_isWord cv_X9_isWord clF9 hb106 ml_RX9_336 (by omega) (Nat.le_of_ble_eq_true rfl) dX9_wordToken_106 ?_
          refine J_ifeq (pc := 109) (tgt := 116) (by decide) dX9_wordToken_109 (fun hc109 => ?_) (fun hc109 => ?_)
          · rw [if_pos hc109] at g_27
            refine J_aload_n (pc := 116) (q := 0) rfl rfl dX9_wordToken_116 ?_
            refine J_ldc2 (pc := 117) cn_RX9_348 dX9_wordToken_117 ?_
            obtain ⟨b120, hb120, g_28⟩ := bnd g_27
            obtain ⟨r120, M120, h120, g_29⟩ := bnd2 g_28
            refine J_callVI (pc := 120) (as := [vL (710362314995 : Int64)]) (tX9_isWord (d := d)  h120) cf_X9_isWord cv_X9_isWord clF9 hb120 ml_RX9_336 (by omega) (Nat.le_of_ble_eq_true rfl) dX9_wordToken_120 ?_
            refine J_ifeq (pc := 123) (tgt := 130) (by decide) dX9_wordToken_123 (fun hc123 => ?_) (fun hc123 => ?_)
            · rw [if_pos hc123] at g_29
              refine J_iconst (pc := 130) (v := (-1 : Int32)) (by decide) dX9_wordToken_130 ?_
              exact jX9_wordToken_b131  g_29
            · rw [if_neg hc123] at g_29
              refine J_iconst (pc := 126) (v := (5 : Int32)) (by decide) dX9_wordToken_126 ?_
              refine J_goto (pc := 127) (tgt := 131) (by decide) dX9_wordToken_127 ?_
              exact jX9_wordToken_b131  g_29
          · rw [if_neg hc109] at g_27
            refine J_iconst (pc := 112) (v := (4 : Int32)) (by decide) dX9_wordToken_112 ?_
            refine J_goto (pc := 113) (tgt := 131) (by decide) dX9_wordToken_113 ?_
            exact jX9_wordToken_b131  g_27
        · rw [if_neg hc95] at g_25
          refine J_iconst (pc := 98) (v := (3 : Int32)) (by decide) dX9_wordToken_98 ?_
          refine J_goto (pc := 99) (tgt := 131) (by decide) dX9_wordToken_99 ?_
          exact jX9_wordToken_b131  g_25
      · rw [if_neg hc81] at g_23
        refine J_iconst (pc := 84) (v := (2 : Int32)) (by decide) dX9_wordToken_84 ?_
        refine J_goto (pc := 85) (tgt := 131) (by decide) dX9_wordToken_85 ?_
        exact jX9_wordToken_b131  g_23
    · rw [if_neg hc67] at g_21
      refine J_iconst (pc := 70) (v := (1 : Int32)) (by decide) dX9_wordToken_70 ?_
      refine J_goto (pc := 71) (tgt := 131) (by decide) dX9_wordToken_71 ?_
      exact jX9_wordToken_b131  g_21
  · rw [if_neg hc53] at g_19
    refine J_iconst (pc := 56) (v := (0 : Int32)) (by decide) dX9_wordToken_56 ?_
    refine J_goto (pc := 57) (tgt := 131) (by decide) dX9_wordToken_57 ?_
    exact jX9_wordToken_b131  g_19
set_option maxHeartbeats 4000000 in
set_option maxRecDepth 100000 in
theorem jX9_wordToken_L0 {ad : Nat → Nat} {ca : Nat → ClassId} {D : va_G} {FU d : Nat} {N : Mem}   {x0 : Nat}   : ∀ (F : Nat)  (M : Mem), fX9_wordToken_L0 FU  x0 F  M = some N → J ad ca D cX9_wordToken RX9 1 (d + 1) (Gt ad ca D none (QV N)) 0 [(0, vR (some x0))] [] M := by
  intro F
  induction F with
  | zero =>
    intro  M h
    rw [fX9_wordToken_L0] at h
    cases h
  | succ F hk0 =>
    intro  M h
    rw [fX9_wordToken_L0] at h
    refine J_aload_n (pc := 0) (q := 0) rfl rfl dX9_wordToken_0 ?_
    obtain ⟨a1, h1, g_30⟩ := bnd h
    refine J_getI (pc := 1) (i := 32) clF9 (by decide) rfl fl_RX9_107 h1 dX9_wordToken_1 ?_
    refine J_aload_n (pc := 4) (q := 0) rfl rfl dX9_wordToken_4 ?_
    obtain ⟨a5, h5, g_31⟩ := bnd g_30
    refine J_getI (pc := 5) (i := 27) clF9 (by decide) rfl fl_RX9_92 h5 dX9_wordToken_5 ?_
    refine J_icge (pc := 8) (tgt := 40) (by decide) dX9_wordToken_8 (fun hc8 => ?_) (fun hc8 => ?_)
    · rw [if_pos hc8] at g_31
      exact jX9_wordToken_b40  g_31
    · rw [if_neg hc8] at g_31
      refine J_aload_n (pc := 11) (q := 0) rfl rfl dX9_wordToken_11 ?_
      refine J_aload_n (pc := 12) (q := 0) rfl rfl dX9_wordToken_12 ?_
      obtain ⟨a13, h13, g_32⟩ := bnd g_31
      refine J_getR (pc := 13) (i := 26) clF9 (by decide) rfl fl_RX9_88 h13 dX9_wordToken_13 ?_
      refine J_aload_n (pc := 16) (q := 0) rfl rfl dX9_wordToken_16 ?_
      obtain ⟨a17, h17, g_33⟩ := bnd g_32
      refine J_getI (pc := 17) (i := 32) clF9 (by decide) rfl fl_RX9_107 h17 dX9_wordToken_17 ?_
      obtain ⟨a20, h20, g_34⟩ := bnd g_33
      refine J_ald2 (pc := 20) h20 dX9_wordToken_20 ?_
      obtain ⟨b21, hb21, g_35⟩ := bnd g_34
      obtain ⟨r21, M21, h21, g_36⟩ := bnd2 g_35
      refine J_callVI (pc := 21) (as := [vI a20]) (tX9_isLetter (d := d)  h21) cf_X9_isLetter cv_X9_isLetter clF9 hb21 ml_RX9_331 (by omega) (Nat.le_of_ble_eq_true rfl) dX9_wordToken_21 ?_
      refine J_ifeq (pc := 24) (tgt := 40) (by decide) dX9_wordToken_24 (fun hc24 => ?_) (fun hc24 => ?_)
      · rw [if_pos hc24] at g_36
        exact jX9_wordToken_b40  g_36
      · rw [if_neg hc24] at g_36
        refine J_aload_n (pc := 27) (q := 0) rfl rfl dX9_wordToken_27 ?_
        refine J_dup (pc := 28) rfl dX9_wordToken_28 ?_
        obtain ⟨a29, h29, g_37⟩ := bnd g_36
        refine J_getI (pc := 29) (i := 32) clF9 (by decide) rfl fl_RX9_107 h29 dX9_wordToken_29 ?_
        refine J_iconst (pc := 32) (v := (1 : Int32)) (by decide) dX9_wordToken_32 ?_
        refine J_iadd (pc := 33) dX9_wordToken_33 ?_
        obtain ⟨M34, h34, g_38⟩ := bnd g_37
        refine J_putI (pc := 34) (i := 32) clF9 (by decide) rfl fl_RX9_107 rfl rfl h34 dX9_wordToken_34 ?_
        refine J_goto (pc := 37) (tgt := 0) (by decide) dX9_wordToken_37 ?_
        exact hk0  _ g_38
set_option maxHeartbeats 4000000 in
set_option maxRecDepth 100000 in
theorem tX9_wordToken {ad : Nat → Nat} {ca : Nat → ClassId} {D : va_G} {FU d : Nat} {N : Mem}  {x0 : Nat} {M : Mem}  (h : fX9_wordToken FU  x0 M = some N) : Ct ad ca D yX9_wordToken cX9_wordToken 1 none (d + 1) [vR (some x0)] M (QV N) := by
  refine Ct_of (by decide) (Nat.le_of_ble_eq_true rfl) ?_
  show J ad ca D cX9_wordToken RX9 1 (d + 1) (Gt ad ca D none (QV N)) 0 [(0, vR (some x0))] [] M
  unfold fX9_wordToken at h
  exact jX9_wordToken_L0  FU  _ h
set_option maxHeartbeats 4000000 in
set_option maxRecDepth 100000 in
theorem jX9_next_b39 {ad : Nat → Nat} {ca : Nat → ClassId} {D : va_G} {FU d : Nat} {N : Mem}  {k0 : Mem → Option (Mem)} {x0 : Nat} {M : Mem}  (hk0 : ∀ (M : Mem), k0  M = some N → J ad ca D cX9_next RX9 2 (d + 2) (Gt ad ca D none (QV N)) 0 [(0, vR (some x0))] [] M) (h : fX9_next_b39 FU  k0 x0 M = some N) : J ad ca D cX9_next RX9 2 (d + 2) (Gt ad ca D none (QV N)) 39 [(0, vR (some x0))] [] M := by
  unfold fX9_next_b39 at h
  refine J_aload_n (pc := 39) (q := 0) rfl rfl dX9_next_39 ?_
  refine J_dup (pc := 40) rfl dX9_next_40 ?_
  obtain ⟨a41, h41, g_1⟩ := bnd h
  refine J_getI (pc := 41) (i := 32) clF9 (by decide) rfl fl_RX9_107 h41 dX9_next_41 ?_
  refine J_iconst (pc := 44) (v := (1 : Int32)) (by decide) dX9_next_44 ?_
  refine J_iadd (pc := 45) dX9_next_45 ?_
  obtain ⟨M46, h46, g_2⟩ := bnd g_1
  refine J_putI (pc := 46) (i := 32) clF9 (by decide) rfl fl_RX9_107 rfl rfl h46 dX9_next_46 ?_
  refine J_goto (pc := 49) (tgt := 0) (by decide) dX9_next_49 ?_
  exact hk0  _ g_2
set_option maxHeartbeats 4000000 in
set_option maxRecDepth 100000 in
theorem jX9_next_b181 {ad : Nat → Nat} {ca : Nat → ClassId} {D : va_G} {FU d : Nat} {N : Mem}  {k113 : Mem → Option (Mem)} {x0 : Nat} {s0 : Option Nat} {s1 : Int32} {M : Mem}  (hk113 : ∀ (M : Mem), k113  M = some N → J ad ca D cX9_next RX9 2 (d + 2) (Gt ad ca D none (QV N)) 113 [(0, vR (some x0))] [] M) (h : fX9_next_b181 FU  k113 x0 s0 s1 M = some N) : J ad ca D cX9_next RX9 2 (d + 2) (Gt ad ca D none (QV N)) 181 [(0, vR (some x0))] [vI s1, vR s0] M := by
  unfold fX9_next_b181 at h
  obtain ⟨M181, h181, g_3⟩ := bnd h
  refine J_putI (pc := 181) (i := 34) clF9 (by decide) rfl fl_RX9_113 rfl rfl h181 dX9_next_181 ?_
  refine J_aload_n (pc := 184) (q := 0) rfl rfl dX9_next_184 ?_
  refine J_dup (pc := 185) rfl dX9_next_185 ?_
  obtain ⟨a186, h186, g_4⟩ := bnd g_3
  refine J_getI (pc := 186) (i := 32) clF9 (by decide) rfl fl_RX9_107 h186 dX9_next_186 ?_
  refine J_iconst (pc := 189) (v := (1 : Int32)) (by decide) dX9_next_189 ?_
  refine J_iadd (pc := 190) dX9_next_190 ?_
  obtain ⟨M191, h191, g_5⟩ := bnd g_4
  refine J_putI (pc := 191) (i := 32) clF9 (by decide) rfl fl_RX9_107 rfl rfl h191 dX9_next_191 ?_
  refine J_goto (pc := 194) (tgt := 113) (by decide) dX9_next_194 ?_
  exact hk113  _ g_5
set_option maxHeartbeats 4000000 in
set_option maxRecDepth 100000 in
theorem jX9_next_b197 {ad : Nat → Nat} {ca : Nat → ClassId} {D : va_G} {FU d : Nat} {N : Mem}   {x0 : Nat} {M : Mem}   (h : fX9_next_b197 FU  x0 M = some N) : J ad ca D cX9_next RX9 2 (d + 2) (Gt ad ca D none (QV N)) 197 [(0, vR (some x0))] [] M := by
  unfold fX9_next_b197 at h
  refine J_aload_n (pc := 197) (q := 0) rfl rfl dX9_next_197 ?_
  refine J_aload_n (pc := 198) (q := 0) rfl rfl dX9_next_198 ?_
  obtain ⟨a199, h199, g_6⟩ := bnd h
  refine J_getI (pc := 199) (i := 32) clF9 (by decide) rfl fl_RX9_107 h199 dX9_next_199 ?_
  refine J_aload_n (pc := 202) (q := 0) rfl rfl dX9_next_202 ?_
  obtain ⟨a203, h203, g_7⟩ := bnd g_6
  refine J_getI (pc := 203) (i := 35) clF9 (by decide) rfl fl_RX9_116 h203 dX9_next_203 ?_
  refine J_isub (pc := 206) dX9_next_206 ?_
  refine J_iconst (pc := 207) (v := (4 : Int32)) (by decide) dX9_next_207 ?_
  refine J_icle (pc := 208) (tgt := 215) (by decide) dX9_next_208 (fun hc208 => ?_) (fun hc208 => ?_)
  · rw [if_pos hc208] at g_7
    refine J_iconst (pc := 215) (v := (1 : Int32)) (by decide) dX9_next_215 ?_
    obtain ⟨M216, h216, g_8⟩ := bnd g_7
    refine J_putI (pc := 216) (i := 33) clF9 (by decide) rfl fl_RX9_110 rfl rfl h216 dX9_next_216 ?_
    exact J_vret (pc := 219) (qv_of g_8) dX9_next_219
  · rw [if_neg hc208] at g_7
    refine J_iconst (pc := 211) (v := (5 : Int32)) (by decide) dX9_next_211 ?_
    refine J_goto (pc := 212) (tgt := 216) (by decide) dX9_next_212 ?_
    obtain ⟨M216, h216, g_9⟩ := bnd g_7
    refine J_putI (pc := 216) (i := 33) clF9 (by decide) rfl fl_RX9_110 rfl rfl h216 dX9_next_216 ?_
    exact J_vret (pc := 219) (qv_of g_9) dX9_next_219
set_option maxHeartbeats 4000000 in
set_option maxRecDepth 100000 in
theorem jX9_next_L113 {ad : Nat → Nat} {ca : Nat → ClassId} {D : va_G} {FU d : Nat} {N : Mem}   {x0 : Nat}   : ∀ (F : Nat)  (M : Mem), fX9_next_L113 FU  x0 F  M = some N → J ad ca D cX9_next RX9 2 (d + 2) (Gt ad ca D none (QV N)) 113 [(0, vR (some x0))] [] M := by
  intro F
  induction F with
  | zero =>
    intro  M h
    rw [fX9_next_L113] at h
    cases h
  | succ F hk113 =>
    intro  M h
    rw [fX9_next_L113] at h
    refine J_aload_n (pc := 113) (q := 0) rfl rfl dX9_next_113 ?_
    obtain ⟨a114, h114, g_10⟩ := bnd h
    refine J_getI (pc := 114) (i := 32) clF9 (by decide) rfl fl_RX9_107 h114 dX9_next_114 ?_
    refine J_aload_n (pc := 117) (q := 0) rfl rfl dX9_next_117 ?_
    obtain ⟨a118, h118, g_11⟩ := bnd g_10
    refine J_getI (pc := 118) (i := 27) clF9 (by decide) rfl fl_RX9_92 h118 dX9_next_118 ?_
    refine J_icge (pc := 121) (tgt := 197) (by decide) dX9_next_121 (fun hc121 => ?_) (fun hc121 => ?_)
    · rw [if_pos hc121] at g_11
      exact jX9_next_b197  g_11
    · rw [if_neg hc121] at g_11
      refine J_aload_n (pc := 124) (q := 0) rfl rfl dX9_next_124 ?_
      refine J_aload_n (pc := 125) (q := 0) rfl rfl dX9_next_125 ?_
      obtain ⟨a126, h126, g_12⟩ := bnd g_11
      refine J_getR (pc := 126) (i := 26) clF9 (by decide) rfl fl_RX9_88 h126 dX9_next_126 ?_
      refine J_aload_n (pc := 129) (q := 0) rfl rfl dX9_next_129 ?_
      obtain ⟨a130, h130, g_13⟩ := bnd g_12
      refine J_getI (pc := 130) (i := 32) clF9 (by decide) rfl fl_RX9_107 h130 dX9_next_130 ?_
      obtain ⟨a133, h133, g_14⟩ := bnd g_13
      refine J_ald2 (pc := 133) h133 dX9_next_133 ?_
      obtain ⟨b134, hb134, g_15⟩ := bnd g_14
      obtain ⟨r134, M134, h134, g_16⟩ := bnd2 g_15
      refine J_callVI (pc := 134) (as := [vI a133]) (tX9_isDigit (d := d)  h134) cf_X9_isDigit cv_X9_isDigit clF9 hb134 ml_RX9_363 (by omega) (Nat.le_of_ble_eq_true rfl) dX9_next_134 ?_
      refine J_ifeq (pc := 137) (tgt := 197) (by decide) dX9_next_137 (fun hc137 => ?_) (fun hc137 => ?_)
      · rw [if_pos hc137] at g_16
        exact jX9_next_b197  g_16
      · rw [if_neg hc137] at g_16
        refine J_aload_n (pc := 140) (q := 0) rfl rfl dX9_next_140 ?_
        refine J_aload_n (pc := 141) (q := 0) rfl rfl dX9_next_141 ?_
        obtain ⟨a142, h142, g_17⟩ := bnd g_16
        refine J_getI (pc := 142) (i := 32) clF9 (by decide) rfl fl_RX9_107 h142 dX9_next_142 ?_
        refine J_aload_n (pc := 145) (q := 0) rfl rfl dX9_next_145 ?_
        obtain ⟨a146, h146, g_18⟩ := bnd g_17
        refine J_getI (pc := 146) (i := 35) clF9 (by decide) rfl fl_RX9_116 h146 dX9_next_146 ?_
        refine J_isub (pc := 149) dX9_next_149 ?_
        refine J_iconst (pc := 150) (v := (4 : Int32)) (by decide) dX9_next_150 ?_
        refine J_icge (pc := 151) (tgt := 177) (by decide) dX9_next_151 (fun hc151 => ?_) (fun hc151 => ?_)
        · rw [if_pos hc151] at g_18
          refine J_aload_n (pc := 177) (q := 0) rfl rfl dX9_next_177 ?_
          obtain ⟨a178, h178, g_19⟩ := bnd g_18
          refine J_getI (pc := 178) (i := 34) clF9 (by decide) rfl fl_RX9_113 h178 dX9_next_178 ?_
          exact jX9_next_b181 hk113 g_19
        · rw [if_neg hc151] at g_18
          refine J_bipush (pc := 154) (v := (10 : Int32)) (by decide) dX9_next_154 ?_
          refine J_aload_n (pc := 156) (q := 0) rfl rfl dX9_next_156 ?_
          obtain ⟨a157, h157, g_20⟩ := bnd g_18
          refine J_getI (pc := 157) (i := 34) clF9 (by decide) rfl fl_RX9_113 h157 dX9_next_157 ?_
          refine J_imul (pc := 160) dX9_next_160 ?_
          refine J_aload_n (pc := 161) (q := 0) rfl rfl dX9_next_161 ?_
          obtain ⟨a162, h162, g_21⟩ := bnd g_20
          refine J_getR (pc := 162) (i := 26) clF9 (by decide) rfl fl_RX9_88 h162 dX9_next_162 ?_
          refine J_aload_n (pc := 165) (q := 0) rfl rfl dX9_next_165 ?_
          obtain ⟨a166, h166, g_22⟩ := bnd g_21
          refine J_getI (pc := 166) (i := 32) clF9 (by decide) rfl fl_RX9_107 h166 dX9_next_166 ?_
          obtain ⟨a169, h169, g_23⟩ := bnd g_22
          refine J_ald2 (pc := 169) h169 dX9_next_169 ?_
          refine J_iadd (pc := 170) dX9_next_170 ?_
          refine J_bipush (pc := 171) (v := (48 : Int32)) (by decide) dX9_next_171 ?_
          refine J_isub (pc := 173) dX9_next_173 ?_
          refine J_goto (pc := 174) (tgt := 181) (by decide) dX9_next_174 ?_
          exact jX9_next_b181 hk113 g_23
set_option maxHeartbeats 4000000 in
set_option maxRecDepth 100000 in
theorem jX9_next_b284 {ad : Nat → Nat} {ca : Nat → ClassId} {D : va_G} {FU d : Nat} {N : Mem}   {s0 : Option Nat} {M : Mem}   (h : fX9_next_b284 FU  s0 M = some N) : J ad ca D cX9_next RX9 2 (d + 2) (Gt ad ca D none (QV N)) 284 [] [vR s0] M := by
  unfold fX9_next_b284 at h
  refine J_iconst (pc := 284) (v := (4 : Int32)) (by decide) dX9_next_284 ?_
  refine J_goto (pc := 285) (tgt := 289) (by decide) dX9_next_285 ?_
  obtain ⟨M289, h289, g_24⟩ := bnd h
  refine J_putI (pc := 289) (i := 33) clF9 (by decide) rfl fl_RX9_110 rfl rfl h289 dX9_next_289 ?_
  exact J_vret (pc := 292) (qv_of g_24) dX9_next_292
set_option maxHeartbeats 4000000 in
set_option maxRecDepth 100000 in
theorem jX9_next_b52 {ad : Nat → Nat} {ca : Nat → ClassId} {D : va_G} {FU d : Nat} {N : Mem}   {x0 : Nat} {M : Mem}   (h : fX9_next_b52 FU  x0 M = some N) : J ad ca D cX9_next RX9 2 (d + 2) (Gt ad ca D none (QV N)) 52 [(0, vR (some x0))] [] M := by
  unfold fX9_next_b52 at h
  refine J_aload_n (pc := 52) (q := 0) rfl rfl dX9_next_52 ?_
  refine J_aload_n (pc := 53) (q := 0) rfl rfl dX9_next_53 ?_
  obtain ⟨a54, h54, g_25⟩ := bnd h
  refine J_getI (pc := 54) (i := 32) clF9 (by decide) rfl fl_RX9_107 h54 dX9_next_54 ?_
  obtain ⟨M57, h57, g_26⟩ := bnd g_25
  refine J_putI (pc := 57) (i := 35) clF9 (by decide) rfl fl_RX9_116 rfl rfl h57 dX9_next_57 ?_
  refine J_aload_n (pc := 60) (q := 0) rfl rfl dX9_next_60 ?_
  refine J_iconst (pc := 61) (v := (0 : Int32)) (by decide) dX9_next_61 ?_
  obtain ⟨M62, h62, g_27⟩ := bnd g_26
  refine J_putI (pc := 62) (i := 33) clF9 (by decide) rfl fl_RX9_110 rfl rfl h62 dX9_next_62 ?_
  refine J_aload_n (pc := 65) (q := 0) rfl rfl dX9_next_65 ?_
  obtain ⟨a66, h66, g_28⟩ := bnd g_27
  refine J_getI (pc := 66) (i := 32) clF9 (by decide) rfl fl_RX9_107 h66 dX9_next_66 ?_
  refine J_aload_n (pc := 69) (q := 0) rfl rfl dX9_next_69 ?_
  obtain ⟨a70, h70, g_29⟩ := bnd g_28
  refine J_getI (pc := 70) (i := 27) clF9 (by decide) rfl fl_RX9_92 h70 dX9_next_70 ?_
  refine J_icne (pc := 73) (tgt := 77) (by decide) dX9_next_73 (fun hc73 => ?_) (fun hc73 => ?_)
  · rw [if_pos hc73] at g_29
    refine J_aload_n (pc := 77) (q := 0) rfl rfl dX9_next_77 ?_
    obtain ⟨a78, h78, g_30⟩ := bnd g_29
    refine J_getR (pc := 78) (i := 26) clF9 (by decide) rfl fl_RX9_88 h78 dX9_next_78 ?_
    refine J_aload_n (pc := 81) (q := 0) rfl rfl dX9_next_81 ?_
    obtain ⟨a82, h82, g_31⟩ := bnd g_30
    refine J_getI (pc := 82) (i := 32) clF9 (by decide) rfl fl_RX9_107 h82 dX9_next_82 ?_
    obtain ⟨a85, h85, g_32⟩ := bnd g_31
    refine J_ald2 (pc := 85) h85 dX9_next_85 ?_
    refine J_istore_n (pc := 86) rfl (by decide) (lv' := [(0, vR (some x0)), (1, vI a85)]) rfl dX9_next_86 ?_
    refine J_aload_n (pc := 87) (q := 0) rfl rfl dX9_next_87 ?_
    refine J_iload_n (pc := 88) (q := 1) rfl rfl dX9_next_88 ?_
    obtain ⟨b89, hb89, g_33⟩ := bnd g_32
    obtain ⟨r89, M89, h89, g_34⟩ := bnd2 g_33
    refine J_callVI (pc := 89) (as := [vI a85]) (tX9_isLetter (d := d)  h89) cf_X9_isLetter cv_X9_isLetter clF9 hb89 ml_RX9_331 (by omega) (Nat.le_of_ble_eq_true rfl) dX9_next_89 ?_
    refine J_ifeq (pc := 92) (tgt := 100) (by decide) dX9_next_92 (fun hc92 => ?_) (fun hc92 => ?_)
    · rw [if_pos hc92] at g_34
      refine J_aload_n (pc := 100) (q := 0) rfl rfl dX9_next_100 ?_
      refine J_iload_n (pc := 101) (q := 1) rfl rfl dX9_next_101 ?_
      obtain ⟨b102, hb102, g_35⟩ := bnd g_34
      obtain ⟨r102, M102, h102, g_36⟩ := bnd2 g_35
      refine J_callVI (pc := 102) (as := [vI a85]) (tX9_isDigit (d := d)  h102) cf_X9_isDigit cv_X9_isDigit clF9 hb102 ml_RX9_363 (by omega) (Nat.le_of_ble_eq_true rfl) dX9_next_102 ?_
      refine J_ifeq (pc := 105) (tgt := 220) (by decide) dX9_next_105 (fun hc105 => ?_) (fun hc105 => ?_)
      · rw [if_pos hc105] at g_36
        refine J_aload_n (pc := 220) (q := 0) rfl rfl dX9_next_220 ?_
        refine J_dup (pc := 221) rfl dX9_next_221 ?_
        obtain ⟨a222, h222, g_37⟩ := bnd g_36
        refine J_getI (pc := 222) (i := 32) clF9 (by decide) rfl fl_RX9_107 h222 dX9_next_222 ?_
        refine J_iconst (pc := 225) (v := (1 : Int32)) (by decide) dX9_next_225 ?_
        refine J_iadd (pc := 226) dX9_next_226 ?_
        obtain ⟨M227, h227, g_38⟩ := bnd g_37
        refine J_putI (pc := 227) (i := 32) clF9 (by decide) rfl fl_RX9_107 rfl rfl h227 dX9_next_227 ?_
        refine J_aload_n (pc := 230) (q := 0) rfl rfl dX9_next_230 ?_
        refine J_iload_n (pc := 231) (q := 1) rfl rfl dX9_next_231 ?_
        obtain ⟨M232, h232, g_39⟩ := bnd g_38
        refine J_putI (pc := 232) (i := 34) clF9 (by decide) rfl fl_RX9_113 rfl rfl h232 dX9_next_232 ?_
        refine J_aload_n (pc := 235) (q := 0) rfl rfl dX9_next_235 ?_
        refine J_iload_n (pc := 236) (q := 1) rfl rfl dX9_next_236 ?_
        refine J_bipush (pc := 237) (v := (40 : Int32)) (by decide) dX9_next_237 ?_
        refine J_iceq (pc := 239) (tgt := 284) (by decide) dX9_next_239 (fun hc239 => ?_) (fun hc239 => ?_)
        · rw [if_pos hc239] at g_39
          refine J_sub [] (lv' := []) rfl ?_
          exact jX9_next_b284  g_39
        · rw [if_neg hc239] at g_39
          refine J_iload_n (pc := 242) (q := 1) rfl rfl dX9_next_242 ?_
          refine J_bipush (pc := 243) (v := (41 : Int32)) (by decide) dX9_next_243 ?_
          refine J_iceq (pc := 245) (tgt := 284) (by decide) dX9_next_245 (fun hc245 => ?_) (fun hc245 => ?_)
          · rw [if_pos hc245] at g_39
            refine J_sub [] (lv' := []) rfl ?_
            exact jX9_next_b284  g_39
          · rw [if_neg hc245] at g_39
            refine J_iload_n (pc := 248) (q := 1) rfl rfl dX9_next_248 ?_
            refine J_bipush (pc := 249) (v := (59 : Int32)) (by decide) dX9_next_249 ?_
            refine J_iceq (pc := 251) (tgt := 284) (by decide) dX9_next_251 (fun hc251 => ?_) (fun hc251 => ?_)
            · rw [if_pos hc251] at g_39
              refine J_sub [] (lv' := []) rfl ?_
              exact jX9_next_b284  g_39
            · rw [if_neg hc251] at g_39
              refine J_iload_n (pc := 254) (q := 1) rfl rfl dX9_next_254 ?_
              refine J_bipush (pc := 255) (v := (43 : Int32)) (by decide) dX9_next_255 ?_
              refine J_iceq (pc := 257) (tgt := 284) (by decide) dX9_next_257 (fun hc257 => ?_) (fun hc257 => ?_)
              · rw [if_pos hc257] at g_39
                refine J_sub [] (lv' := []) rfl ?_
                exact jX9_next_b284  g_39
              · rw [if_neg hc257] at g_39
                refine J_iload_n (pc := 260) (q := 1) rfl rfl dX9_next_260 ?_
                refine J_bipush (pc := 261) (v := (45 : Int32)) (by decide) dX9_next_261 ?_
                refine J_iceq (pc := 263) (tgt := 284) (by decide) dX9_next_263 (fun hc263 => ?_) (fun hc263 => ?_)
                · rw [if_pos hc263] at g_39
                  refine J_sub [] (lv' := []) rfl ?_
                  exact jX9_next_b284  g_39
                · rw [if_neg hc263] at g_39
                  refine J_iload_n (pc := 266) (q := 1) rfl rfl dX9_next_266 ?_
                  refine J_bipush (pc := 267) (v := (42 : Int32)) (by decide) dX9_next_267 ?_
                  refine J_iceq (pc := 269) (tgt := 284) (by decide) dX9_next_269 (fun hc269 => ?_) (fun hc269 => ?_)
                  · rw [if_pos hc269] at g_39
                    refine J_sub [] (lv' := []) rfl ?_
                    exact jX9_next_b284  g_39
                  · rw [if_neg hc269] at g_39
                    refine J_iload_n (pc := 272) (q := 1) rfl rfl dX9_next_272 ?_
                    refine J_bipush (pc := 273) (v := (60 : Int32)) (by decide) dX9_next_273 ?_
                    refine J_iceq (pc := 275) (tgt := 284) (by decide) dX9_next_275 (fun hc275 => ?_) (fun hc275 => ?_)
                    · rw [if_pos hc275] at g_39
                      refine J_sub [] (lv' := []) rfl ?_
                      exact jX9_next_b284  g_39
                    · rw [if_neg hc275] at g_39
                      refine J_iload_n (pc := 278) (q := 1) rfl rfl dX9_next_278 ?_
                      refine J_bipush (pc := 279) (v := (61 : Int32)) (by decide) dX9_next_279 ?_
                      refine J_icne (pc := 281) (tgt := 288) (by decide) dX9_next_281 (fun hc281 => ?_) (fun hc281 => ?_)
                      · rw [if_pos hc281] at g_39
                        refine J_iconst (pc := 288) (v := (5 : Int32)) (by decide) dX9_next_288 ?_
                        obtain ⟨M289, h289, g_40⟩ := bnd g_39
                        refine J_putI (pc := 289) (i := 33) clF9 (by decide) rfl fl_RX9_110 rfl rfl h289 dX9_next_289 ?_
                        exact J_vret (pc := 292) (qv_of g_40) dX9_next_292
                      · rw [if_neg hc281] at g_39
                        refine J_sub [] (lv' := []) rfl ?_
                        exact jX9_next_b284  g_39
      · rw [if_neg hc105] at g_36
        refine J_aload_n (pc := 108) (q := 0) rfl rfl dX9_next_108 ?_
        refine J_iconst (pc := 109) (v := (0 : Int32)) (by decide) dX9_next_109 ?_
        obtain ⟨M110, h110, g_41⟩ := bnd g_36
        refine J_putI (pc := 110) (i := 34) clF9 (by decide) rfl fl_RX9_113 rfl rfl h110 dX9_next_110 ?_
        refine J_sub [0] (lv' := [(0, vR (some x0))]) rfl ?_
        exact jX9_next_L113  FU  _ g_41
    · rw [if_neg hc92] at g_34
      refine J_aload_n (pc := 95) (q := 0) rfl rfl dX9_next_95 ?_
      obtain ⟨b96, hb96, g_42⟩ := bnd g_34
      obtain ⟨M96, h96, g_43⟩ := bnd g_42
      refine J_callVV (pc := 96) (as := []) (tX9_wordToken (d := d)  h96) cf_X9_wordToken cv_X9_wordToken clF9 hb96 ml_RX9_360 (by omega) (Nat.le_of_ble_eq_true rfl) dX9_next_96 ?_
      exact J_vret (pc := 99) (qv_of g_43) dX9_next_99
  · rw [if_neg hc73] at g_29
    exact J_vret (pc := 76) (qv_of g_29) dX9_next_76
set_option maxHeartbeats 4000000 in
set_option maxRecDepth 100000 in
theorem jX9_next_L0 {ad : Nat → Nat} {ca : Nat → ClassId} {D : va_G} {FU d : Nat} {N : Mem}   {x0 : Nat}   : ∀ (F : Nat)  (M : Mem), fX9_next_L0 FU  x0 F  M = some N → J ad ca D cX9_next RX9 2 (d + 2) (Gt ad ca D none (QV N)) 0 [(0, vR (some x0))] [] M := by
  intro F
  induction F with
  | zero =>
    intro  M h
    rw [fX9_next_L0] at h
    cases h
  | succ F hk0 =>
    intro  M h
    rw [fX9_next_L0] at h
    refine J_aload_n (pc := 0) (q := 0) rfl rfl dX9_next_0 ?_
    obtain ⟨a1, h1, g_44⟩ := bnd h
    refine J_getI (pc := 1) (i := 32) clF9 (by decide) rfl fl_RX9_107 h1 dX9_next_1 ?_
    refine J_aload_n (pc := 4) (q := 0) rfl rfl dX9_next_4 ?_
    obtain ⟨a5, h5, g_45⟩ := bnd g_44
    refine J_getI (pc := 5) (i := 27) clF9 (by decide) rfl fl_RX9_92 h5 dX9_next_5 ?_
    refine J_icge (pc := 8) (tgt := 52) (by decide) dX9_next_8 (fun hc8 => ?_) (fun hc8 => ?_)
    · rw [if_pos hc8] at g_45
      exact jX9_next_b52  g_45
    · rw [if_neg hc8] at g_45
      refine J_aload_n (pc := 11) (q := 0) rfl rfl dX9_next_11 ?_
      obtain ⟨a12, h12, g_46⟩ := bnd g_45
      refine J_getR (pc := 12) (i := 26) clF9 (by decide) rfl fl_RX9_88 h12 dX9_next_12 ?_
      refine J_aload_n (pc := 15) (q := 0) rfl rfl dX9_next_15 ?_
      obtain ⟨a16, h16, g_47⟩ := bnd g_46
      refine J_getI (pc := 16) (i := 32) clF9 (by decide) rfl fl_RX9_107 h16 dX9_next_16 ?_
      obtain ⟨a19, h19, g_48⟩ := bnd g_47
      refine J_ald2 (pc := 19) h19 dX9_next_19 ?_
      refine J_bipush (pc := 20) (v := (32 : Int32)) (by decide) dX9_next_20 ?_
      refine J_iceq (pc := 22) (tgt := 39) (by decide) dX9_next_22 (fun hc22 => ?_) (fun hc22 => ?_)
      · rw [if_pos hc22] at g_48
        exact jX9_next_b39 hk0 g_48
      · rw [if_neg hc22] at g_48
        refine J_aload_n (pc := 25) (q := 0) rfl rfl dX9_next_25 ?_
        obtain ⟨a26, h26, g_49⟩ := bnd g_48
        refine J_getR (pc := 26) (i := 26) clF9 (by decide) rfl fl_RX9_88 h26 dX9_next_26 ?_
        refine J_aload_n (pc := 29) (q := 0) rfl rfl dX9_next_29 ?_
        obtain ⟨a30, h30, g_50⟩ := bnd g_49
        refine J_getI (pc := 30) (i := 32) clF9 (by decide) rfl fl_RX9_107 h30 dX9_next_30 ?_
        obtain ⟨a33, h33, g_51⟩ := bnd g_50
        refine J_ald2 (pc := 33) h33 dX9_next_33 ?_
        refine J_bipush (pc := 34) (v := (10 : Int32)) (by decide) dX9_next_34 ?_
        refine J_icne (pc := 36) (tgt := 52) (by decide) dX9_next_36 (fun hc36 => ?_) (fun hc36 => ?_)
        · rw [if_pos hc36] at g_51
          exact jX9_next_b52  g_51
        · rw [if_neg hc36] at g_51
          exact jX9_next_b39 hk0 g_51
set_option maxHeartbeats 4000000 in
set_option maxRecDepth 100000 in
theorem tX9_next {ad : Nat → Nat} {ca : Nat → ClassId} {D : va_G} {FU d : Nat} {N : Mem}  {x0 : Nat} {M : Mem}  (h : fX9_next FU  x0 M = some N) : Ct ad ca D yX9_next cX9_next 2 none (d + 2) [vR (some x0)] M (QV N) := by
  refine Ct_of (by decide) (Nat.le_of_ble_eq_true rfl) ?_
  show J ad ca D cX9_next RX9 2 (d + 2) (Gt ad ca D none (QV N)) 0 [(0, vR (some x0))] [] M
  unfold fX9_next at h
  exact jX9_next_L0  FU  _ h
set_option maxHeartbeats 4000000 in
set_option maxRecDepth 100000 in
theorem tX9_isKey {ad : Nat → Nat} {ca : Nat → ClassId} {D : va_G} {FU d : Nat} {r : Int32} {N : Mem}  {x0 : Nat} {x1 : Int32} {M : Mem}  (h : fX9_isKey FU  x0 x1 M = some (r, N)) : Ct ad ca D yX9_isKey cX9_isKey 2 (some .boolean) (d + 0) [vR (some x0), vI x1] M (QI r N) := by
  refine Ct_of (by decide) (Nat.le_of_ble_eq_true rfl) ?_
  show J ad ca D cX9_isKey RX9 2 (d + 0) (Gt ad ca D (some .boolean) (QI r N)) 0 [(0, vR (some x0)), (1, vI x1)] [] M
  unfold fX9_isKey at h
  refine J_aload_n (pc := 0) (q := 0) rfl rfl dX9_isKey_0 ?_
  obtain ⟨a1, h1, g_1⟩ := bnd h
  refine J_getI (pc := 1) (i := 33) clF9 (by decide) rfl fl_RX9_110 h1 dX9_isKey_1 ?_
  refine J_iconst (pc := 4) (v := (3 : Int32)) (by decide) dX9_isKey_4 ?_
  refine J_icne (pc := 5) (tgt := 20) (by decide) dX9_isKey_5 (fun hc5 => ?_) (fun hc5 => ?_)
  · rw [if_pos hc5] at g_1
    refine J_iconst (pc := 20) (v := (0 : Int32)) (by decide) dX9_isKey_20 ?_
    exact J_zret (pc := 21) (Or.inl rfl) (qi_of g_1) dX9_isKey_21
  · rw [if_neg hc5] at g_1
    refine J_aload_n (pc := 8) (q := 0) rfl rfl dX9_isKey_8 ?_
    obtain ⟨a9, h9, g_2⟩ := bnd g_1
    refine J_getI (pc := 9) (i := 34) clF9 (by decide) rfl fl_RX9_113 h9 dX9_isKey_9 ?_
    refine J_iload_n (pc := 12) (q := 1) rfl rfl dX9_isKey_12 ?_
    refine J_icne (pc := 13) (tgt := 20) (by decide) dX9_isKey_13 (fun hc13 => ?_) (fun hc13 => ?_)
    · rw [if_pos hc13] at g_2
      refine J_iconst (pc := 20) (v := (0 : Int32)) (by decide) dX9_isKey_20 ?_
      exact J_zret (pc := 21) (Or.inl rfl) (qi_of g_2) dX9_isKey_21
    · rw [if_neg hc13] at g_2
      refine J_iconst (pc := 16) (v := (1 : Int32)) (by decide) dX9_isKey_16 ?_
      refine J_goto (pc := 17) (tgt := 21) (by decide) dX9_isKey_17 ?_
      exact J_zret (pc := 21) (Or.inr rfl) (qi_of g_2) dX9_isKey_21
set_option maxHeartbeats 4000000 in
set_option maxRecDepth 100000 in
theorem tX9_isSign {ad : Nat → Nat} {ca : Nat → ClassId} {D : va_G} {FU d : Nat} {r : Int32} {N : Mem}  {x0 : Nat} {x1 : Int32} {M : Mem}  (h : fX9_isSign FU  x0 x1 M = some (r, N)) : Ct ad ca D yX9_isSign cX9_isSign 2 (some .boolean) (d + 0) [vR (some x0), vI x1] M (QI r N) := by
  refine Ct_of (by decide) (Nat.le_of_ble_eq_true rfl) ?_
  show J ad ca D cX9_isSign RX9 2 (d + 0) (Gt ad ca D (some .boolean) (QI r N)) 0 [(0, vR (some x0)), (1, vI x1)] [] M
  unfold fX9_isSign at h
  refine J_aload_n (pc := 0) (q := 0) rfl rfl dX9_isSign_0 ?_
  obtain ⟨a1, h1, g_1⟩ := bnd h
  refine J_getI (pc := 1) (i := 33) clF9 (by decide) rfl fl_RX9_110 h1 dX9_isSign_1 ?_
  refine J_iconst (pc := 4) (v := (4 : Int32)) (by decide) dX9_isSign_4 ?_
  refine J_icne (pc := 5) (tgt := 20) (by decide) dX9_isSign_5 (fun hc5 => ?_) (fun hc5 => ?_)
  · rw [if_pos hc5] at g_1
    refine J_iconst (pc := 20) (v := (0 : Int32)) (by decide) dX9_isSign_20 ?_
    exact J_zret (pc := 21) (Or.inl rfl) (qi_of g_1) dX9_isSign_21
  · rw [if_neg hc5] at g_1
    refine J_aload_n (pc := 8) (q := 0) rfl rfl dX9_isSign_8 ?_
    obtain ⟨a9, h9, g_2⟩ := bnd g_1
    refine J_getI (pc := 9) (i := 34) clF9 (by decide) rfl fl_RX9_113 h9 dX9_isSign_9 ?_
    refine J_iload_n (pc := 12) (q := 1) rfl rfl dX9_isSign_12 ?_
    refine J_icne (pc := 13) (tgt := 20) (by decide) dX9_isSign_13 (fun hc13 => ?_) (fun hc13 => ?_)
    · rw [if_pos hc13] at g_2
      refine J_iconst (pc := 20) (v := (0 : Int32)) (by decide) dX9_isSign_20 ?_
      exact J_zret (pc := 21) (Or.inl rfl) (qi_of g_2) dX9_isSign_21
    · rw [if_neg hc13] at g_2
      refine J_iconst (pc := 16) (v := (1 : Int32)) (by decide) dX9_isSign_16 ?_
      refine J_goto (pc := 17) (tgt := 21) (by decide) dX9_isSign_17 ?_
      exact J_zret (pc := 21) (Or.inr rfl) (qi_of g_2) dX9_isSign_21
set_option maxHeartbeats 4000000 in
set_option maxRecDepth 100000 in
theorem tX9_put {ad : Nat → Nat} {ca : Nat → ClassId} {D : va_G} {FU d : Nat} {N : Mem}  {x0 : Nat} {x1 : Int32} {M : Mem}  (h : fX9_put FU  x0 x1 M = some N) : Ct ad ca D yX9_put cX9_put 2 none (d + 0) [vR (some x0), vI x1] M (QV N) := by
  refine Ct_of (by decide) (Nat.le_of_ble_eq_true rfl) ?_
  show J ad ca D cX9_put RX9 2 (d + 0) (Gt ad ca D none (QV N)) 0 [(0, vR (some x0)), (1, vI x1)] [] M
  unfold fX9_put at h
  refine J_aload_n (pc := 0) (q := 0) rfl rfl dX9_put_0 ?_
  obtain ⟨a1, h1, g_1⟩ := bnd h
  refine J_getR (pc := 1) (i := 31) clF9 (by decide) rfl fl_RX9_104 h1 dX9_put_1 ?_
  refine J_bipush (pc := 4) (v := (120 : Int32)) (by decide) dX9_put_4 ?_
  refine J_aload_n (pc := 6) (q := 0) rfl rfl dX9_put_6 ?_
  obtain ⟨a7, h7, g_2⟩ := bnd g_1
  refine J_getI (pc := 7) (i := 41) clF9 (by decide) rfl fl_RX9_134 h7 dX9_put_7 ?_
  refine J_imul (pc := 10) dX9_put_10 ?_
  refine J_aload_n (pc := 11) (q := 0) rfl rfl dX9_put_11 ?_
  obtain ⟨a12, h12, g_3⟩ := bnd g_2
  refine J_getR (pc := 12) (i := 30) clF9 (by decide) rfl fl_RX9_101 h12 dX9_put_12 ?_
  refine J_aload_n (pc := 15) (q := 0) rfl rfl dX9_put_15 ?_
  obtain ⟨a16, h16, g_4⟩ := bnd g_3
  refine J_getI (pc := 16) (i := 41) clF9 (by decide) rfl fl_RX9_134 h16 dX9_put_16 ?_
  obtain ⟨a19, h19, g_5⟩ := bnd g_4
  refine J_ald0 (pc := 19) h19 dX9_put_19 ?_
  refine J_iadd (pc := 20) dX9_put_20 ?_
  refine J_iload_n (pc := 21) (q := 1) rfl rfl dX9_put_21 ?_
  obtain ⟨M22, h22, g_6⟩ := bnd g_5
  refine J_ast0 (pc := 22) h22 dX9_put_22 ?_
  refine J_aload_n (pc := 23) (q := 0) rfl rfl dX9_put_23 ?_
  obtain ⟨a24, h24, g_7⟩ := bnd g_6
  refine J_getR (pc := 24) (i := 30) clF9 (by decide) rfl fl_RX9_101 h24 dX9_put_24 ?_
  refine J_aload_n (pc := 27) (q := 0) rfl rfl dX9_put_27 ?_
  obtain ⟨a28, h28, g_8⟩ := bnd g_7
  refine J_getI (pc := 28) (i := 41) clF9 (by decide) rfl fl_RX9_134 h28 dX9_put_28 ?_
  refine J_dup2 (pc := 31) rfl rfl dX9_put_31 ?_
  obtain ⟨a32, h32, g_9⟩ := bnd g_8
  refine J_ald0 (pc := 32) h32 dX9_put_32 ?_
  refine J_iconst (pc := 33) (v := (1 : Int32)) (by decide) dX9_put_33 ?_
  refine J_iadd (pc := 34) dX9_put_34 ?_
  obtain ⟨M35, h35, g_10⟩ := bnd g_9
  refine J_ast0 (pc := 35) h35 dX9_put_35 ?_
  exact J_vret (pc := 36) (qv_of g_10) dX9_put_36
set_option maxHeartbeats 4000000 in
set_option maxRecDepth 100000 in
theorem jX9_rank_b41 {ad : Nat → Nat} {ca : Nat → ClassId} {D : va_G} {FU d : Nat} {r : Int32} {N : Mem}    {M : Mem}   (h : fX9_rank_b41 FU  M = some (r, N)) : J ad ca D cX9_rank RX9 2 (d + 0) (Gt ad ca D (some .int) (QI r N)) 41 [] [] M := by
  unfold fX9_rank_b41 at h
  refine J_iconst (pc := 41) (v := (4 : Int32)) (by decide) dX9_rank_41 ?_
  refine J_goto (pc := 42) (tgt := 84) (by decide) dX9_rank_42 ?_
  exact J_iret (pc := 84) (qi_of h) dX9_rank_84
set_option maxHeartbeats 4000000 in
set_option maxRecDepth 100000 in
theorem jX9_rank_b57 {ad : Nat → Nat} {ca : Nat → ClassId} {D : va_G} {FU d : Nat} {r : Int32} {N : Mem}    {M : Mem}   (h : fX9_rank_b57 FU  M = some (r, N)) : J ad ca D cX9_rank RX9 2 (d + 0) (Gt ad ca D (some .int) (QI r N)) 57 [] [] M := by
  unfold fX9_rank_b57 at h
  refine J_iconst (pc := 57) (v := (5 : Int32)) (by decide) dX9_rank_57 ?_
  refine J_goto (pc := 58) (tgt := 84) (by decide) dX9_rank_58 ?_
  exact J_iret (pc := 84) (qi_of h) dX9_rank_84
set_option maxHeartbeats 4000000 in
set_option maxRecDepth 100000 in
theorem tX9_rank {ad : Nat → Nat} {ca : Nat → ClassId} {D : va_G} {FU d : Nat} {r : Int32} {N : Mem}  {x0 : Nat} {x1 : Int32} {M : Mem}  (h : fX9_rank FU  x0 x1 M = some (r, N)) : Ct ad ca D yX9_rank cX9_rank 2 (some .int) (d + 0) [vR (some x0), vI x1] M (QI r N) := by
  refine Ct_of (by decide) (Nat.le_of_ble_eq_true rfl) ?_
  show J ad ca D cX9_rank RX9 2 (d + 0) (Gt ad ca D (some .int) (QI r N)) 0 [(0, vR (some x0)), (1, vI x1)] [] M
  unfold fX9_rank at h
  refine J_iload_n (pc := 0) (q := 1) rfl rfl dX9_rank_0 ?_
  refine J_iconst (pc := 1) (v := (-1 : Int32)) (by decide) dX9_rank_1 ?_
  refine J_icne (pc := 2) (tgt := 9) (by decide) dX9_rank_2 (fun hc2 => ?_) (fun hc2 => ?_)
  · rw [if_pos hc2] at h
    refine J_iload_n (pc := 9) (q := 1) rfl rfl dX9_rank_9 ?_
    refine J_bipush (pc := 10) (v := (-2 : Int32)) (by decide) dX9_rank_10 ?_
    refine J_icne (pc := 12) (tgt := 19) (by decide) dX9_rank_12 (fun hc12 => ?_) (fun hc12 => ?_)
    · rw [if_pos hc12] at h
      refine J_iload_n (pc := 19) (q := 1) rfl rfl dX9_rank_19 ?_
      refine J_bipush (pc := 20) (v := (-3 : Int32)) (by decide) dX9_rank_20 ?_
      refine J_icne (pc := 22) (tgt := 29) (by decide) dX9_rank_22 (fun hc22 => ?_) (fun hc22 => ?_)
      · rw [if_pos hc22] at h
        refine J_iload_n (pc := 29) (q := 1) rfl rfl dX9_rank_29 ?_
        refine J_bipush (pc := 30) (v := (-4 : Int32)) (by decide) dX9_rank_30 ?_
        refine J_iceq (pc := 32) (tgt := 41) (by decide) dX9_rank_32 (fun hc32 => ?_) (fun hc32 => ?_)
        · rw [if_pos hc32] at h
          refine J_sub [] (lv' := []) rfl ?_
          exact jX9_rank_b41  h
        · rw [if_neg hc32] at h
          refine J_iload_n (pc := 35) (q := 1) rfl rfl dX9_rank_35 ?_
          refine J_bipush (pc := 36) (v := (-5 : Int32)) (by decide) dX9_rank_36 ?_
          refine J_icne (pc := 38) (tgt := 45) (by decide) dX9_rank_38 (fun hc38 => ?_) (fun hc38 => ?_)
          · rw [if_pos hc38] at h
            refine J_iload_n (pc := 45) (q := 1) rfl rfl dX9_rank_45 ?_
            refine J_bipush (pc := 46) (v := (-6 : Int32)) (by decide) dX9_rank_46 ?_
            refine J_iceq (pc := 48) (tgt := 57) (by decide) dX9_rank_48 (fun hc48 => ?_) (fun hc48 => ?_)
            · rw [if_pos hc48] at h
              refine J_sub [] (lv' := []) rfl ?_
              exact jX9_rank_b57  h
            · rw [if_neg hc48] at h
              refine J_iload_n (pc := 51) (q := 1) rfl rfl dX9_rank_51 ?_
              refine J_bipush (pc := 52) (v := (-7 : Int32)) (by decide) dX9_rank_52 ?_
              refine J_icne (pc := 54) (tgt := 61) (by decide) dX9_rank_54 (fun hc54 => ?_) (fun hc54 => ?_)
              · rw [if_pos hc54] at h
                refine J_iload_n (pc := 61) (q := 1) rfl rfl dX9_rank_61 ?_
                refine J_bipush (pc := 62) (v := (-8 : Int32)) (by decide) dX9_rank_62 ?_
                refine J_icne (pc := 64) (tgt := 72) (by decide) dX9_rank_64 (fun hc64 => ?_) (fun hc64 => ?_)
                · rw [if_pos hc64] at h
                  refine J_iload_n (pc := 72) (q := 1) rfl rfl dX9_rank_72 ?_
                  refine J_bipush (pc := 73) (v := (-9 : Int32)) (by decide) dX9_rank_73 ?_
                  refine J_icne (pc := 75) (tgt := 83) (by decide) dX9_rank_75 (fun hc75 => ?_) (fun hc75 => ?_)
                  · rw [if_pos hc75] at h
                    refine J_iconst (pc := 83) (v := (0 : Int32)) (by decide) dX9_rank_83 ?_
                    exact J_iret (pc := 84) (qi_of h) dX9_rank_84
                  · rw [if_neg hc75] at h
                    refine J_bipush (pc := 78) (v := (7 : Int32)) (by decide) dX9_rank_78 ?_
                    refine J_goto (pc := 80) (tgt := 84) (by decide) dX9_rank_80 ?_
                    exact J_iret (pc := 84) (qi_of h) dX9_rank_84
                · rw [if_neg hc64] at h
                  refine J_bipush (pc := 67) (v := (6 : Int32)) (by decide) dX9_rank_67 ?_
                  refine J_goto (pc := 69) (tgt := 84) (by decide) dX9_rank_69 ?_
                  exact J_iret (pc := 84) (qi_of h) dX9_rank_84
              · rw [if_neg hc54] at h
                refine J_sub [] (lv' := []) rfl ?_
                exact jX9_rank_b57  h
          · rw [if_neg hc38] at h
            refine J_sub [] (lv' := []) rfl ?_
            exact jX9_rank_b41  h
      · rw [if_neg hc22] at h
        refine J_iconst (pc := 25) (v := (3 : Int32)) (by decide) dX9_rank_25 ?_
        refine J_goto (pc := 26) (tgt := 84) (by decide) dX9_rank_26 ?_
        exact J_iret (pc := 84) (qi_of h) dX9_rank_84
    · rw [if_neg hc12] at h
      refine J_iconst (pc := 15) (v := (2 : Int32)) (by decide) dX9_rank_15 ?_
      refine J_goto (pc := 16) (tgt := 84) (by decide) dX9_rank_16 ?_
      exact J_iret (pc := 84) (qi_of h) dX9_rank_84
  · rw [if_neg hc2] at h
    refine J_iconst (pc := 5) (v := (1 : Int32)) (by decide) dX9_rank_5 ?_
    refine J_goto (pc := 6) (tgt := 84) (by decide) dX9_rank_6 ?_
    exact J_iret (pc := 84) (qi_of h) dX9_rank_84
set_option maxHeartbeats 4000000 in
set_option maxRecDepth 100000 in
theorem jX9_settle_b77 {ad : Nat → Nat} {ca : Nat → ClassId} {D : va_G} {FU d : Nat} {N : Mem}  {k0 : Mem → Option (Mem)} {x0 : Nat} {x1 : Int32} {M : Mem}  (hk0 : ∀ (M : Mem), k0  M = some N → J ad ca D cX9_settle RX9 2 (d + 1) (Gt ad ca D none (QV N)) 0 [(0, vR (some x0)), (1, vI x1)] [] M) (h : fX9_settle_b77 FU  k0 x0 x1 M = some N) : J ad ca D cX9_settle RX9 2 (d + 1) (Gt ad ca D none (QV N)) 77 [(0, vR (some x0)), (1, vI x1)] [] M := by
  unfold fX9_settle_b77 at h
  refine J_aload_n (pc := 77) (q := 0) rfl rfl dX9_settle_77 ?_
  refine J_dup (pc := 78) rfl dX9_settle_78 ?_
  obtain ⟨a79, h79, g_1⟩ := bnd h
  refine J_getI (pc := 79) (i := 40) clF9 (by decide) rfl fl_RX9_131 h79 dX9_settle_79 ?_
  refine J_iconst (pc := 82) (v := (1 : Int32)) (by decide) dX9_settle_82 ?_
  refine J_isub (pc := 83) dX9_settle_83 ?_
  obtain ⟨M84, h84, g_2⟩ := bnd g_1
  refine J_putI (pc := 84) (i := 40) clF9 (by decide) rfl fl_RX9_131 rfl rfl h84 dX9_settle_84 ?_
  refine J_goto (pc := 87) (tgt := 0) (by decide) dX9_settle_87 ?_
  exact hk0  _ g_2
set_option maxHeartbeats 4000000 in
set_option maxRecDepth 100000 in
theorem jX9_settle_L0 {ad : Nat → Nat} {ca : Nat → ClassId} {D : va_G} {FU d : Nat} {N : Mem}   {x0 : Nat} {x1 : Int32}   : ∀ (F : Nat)  (M : Mem), fX9_settle_L0 FU  x0 x1 F  M = some N → J ad ca D cX9_settle RX9 2 (d + 1) (Gt ad ca D none (QV N)) 0 [(0, vR (some x0)), (1, vI x1)] [] M := by
  intro F
  induction F with
  | zero =>
    intro  M h
    rw [fX9_settle_L0] at h
    cases h
  | succ F hk0 =>
    intro  M h
    rw [fX9_settle_L0] at h
    refine J_aload_n (pc := 0) (q := 0) rfl rfl dX9_settle_0 ?_
    obtain ⟨a1, h1, g_3⟩ := bnd h
    refine J_getI (pc := 1) (i := 38) clF9 (by decide) rfl fl_RX9_125 h1 dX9_settle_1 ?_
    refine J_ifle (pc := 4) (tgt := 90) (by decide) dX9_settle_4 (fun hc4 => ?_) (fun hc4 => ?_)
    · rw [if_pos hc4] at g_3
      exact J_vret (pc := 90) (qv_of g_3) dX9_settle_90
    · rw [if_neg hc4] at g_3
      refine J_aload_n (pc := 7) (q := 0) rfl rfl dX9_settle_7 ?_
      refine J_aload_n (pc := 8) (q := 0) rfl rfl dX9_settle_8 ?_
      obtain ⟨a9, h9, g_4⟩ := bnd g_3
      refine J_getR (pc := 9) (i := 36) clF9 (by decide) rfl fl_RX9_119 h9 dX9_settle_9 ?_
      refine J_aload_n (pc := 12) (q := 0) rfl rfl dX9_settle_12 ?_
      obtain ⟨a13, h13, g_5⟩ := bnd g_4
      refine J_getI (pc := 13) (i := 38) clF9 (by decide) rfl fl_RX9_125 h13 dX9_settle_13 ?_
      refine J_iconst (pc := 16) (v := (1 : Int32)) (by decide) dX9_settle_16 ?_
      refine J_isub (pc := 17) dX9_settle_17 ?_
      obtain ⟨a18, h18, g_6⟩ := bnd g_5
      refine J_ald0 (pc := 18) h18 dX9_settle_18 ?_
      obtain ⟨b19, hb19, g_7⟩ := bnd g_6
      obtain ⟨r19, M19, h19, g_8⟩ := bnd2 g_7
      refine J_callVI (pc := 19) (as := [vI a18]) (tX9_rank (d := d)  h19) cf_X9_rank cv_X9_rank clF9 hb19 ml_RX9_366 (by omega) (Nat.le_of_ble_eq_true rfl) dX9_settle_19 ?_
      refine J_iload_n (pc := 22) (q := 1) rfl rfl dX9_settle_22 ?_
      refine J_iclt (pc := 23) (tgt := 90) (by decide) dX9_settle_23 (fun hc23 => ?_) (fun hc23 => ?_)
      · rw [if_pos hc23] at g_8
        exact J_vret (pc := 90) (qv_of g_8) dX9_settle_90
      · rw [if_neg hc23] at g_8
        refine J_aload_n (pc := 26) (q := 0) rfl rfl dX9_settle_26 ?_
        refine J_dup (pc := 27) rfl dX9_settle_27 ?_
        obtain ⟨a28, h28, g_9⟩ := bnd g_8
        refine J_getI (pc := 28) (i := 38) clF9 (by decide) rfl fl_RX9_125 h28 dX9_settle_28 ?_
        refine J_iconst (pc := 31) (v := (1 : Int32)) (by decide) dX9_settle_31 ?_
        refine J_isub (pc := 32) dX9_settle_32 ?_
        obtain ⟨M33, h33, g_10⟩ := bnd g_9
        refine J_putI (pc := 33) (i := 38) clF9 (by decide) rfl fl_RX9_125 rfl rfl h33 dX9_settle_33 ?_
        refine J_aload_n (pc := 36) (q := 0) rfl rfl dX9_settle_36 ?_
        refine J_aload_n (pc := 37) (q := 0) rfl rfl dX9_settle_37 ?_
        obtain ⟨a38, h38, g_11⟩ := bnd g_10
        refine J_getR (pc := 38) (i := 36) clF9 (by decide) rfl fl_RX9_119 h38 dX9_settle_38 ?_
        refine J_aload_n (pc := 41) (q := 0) rfl rfl dX9_settle_41 ?_
        obtain ⟨a42, h42, g_12⟩ := bnd g_11
        refine J_getI (pc := 42) (i := 38) clF9 (by decide) rfl fl_RX9_125 h42 dX9_settle_42 ?_
        obtain ⟨a45, h45, g_13⟩ := bnd g_12
        refine J_ald0 (pc := 45) h45 dX9_settle_45 ?_
        obtain ⟨b46, hb46, g_14⟩ := bnd g_13
        obtain ⟨M46, h46, g_15⟩ := bnd g_14
        refine J_callVV (pc := 46) (as := [vI a45]) (tX9_put (d := d)  h46) cf_X9_put cv_X9_put clF9 hb46 ml_RX9_369 (by omega) (Nat.le_of_ble_eq_true rfl) dX9_settle_46 ?_
        refine J_aload_n (pc := 49) (q := 0) rfl rfl dX9_settle_49 ?_
        obtain ⟨a50, h50, g_16⟩ := bnd g_15
        refine J_getR (pc := 50) (i := 36) clF9 (by decide) rfl fl_RX9_119 h50 dX9_settle_50 ?_
        refine J_aload_n (pc := 53) (q := 0) rfl rfl dX9_settle_53 ?_
        obtain ⟨a54, h54, g_17⟩ := bnd g_16
        refine J_getI (pc := 54) (i := 38) clF9 (by decide) rfl fl_RX9_125 h54 dX9_settle_54 ?_
        obtain ⟨a57, h57, g_18⟩ := bnd g_17
        refine J_ald0 (pc := 57) h57 dX9_settle_57 ?_
        refine J_bipush (pc := 58) (v := (-3 : Int32)) (by decide) dX9_settle_58 ?_
        refine J_iceq (pc := 60) (tgt := 77) (by decide) dX9_settle_60 (fun hc60 => ?_) (fun hc60 => ?_)
        · rw [if_pos hc60] at g_18
          exact jX9_settle_b77 hk0 g_18
        · rw [if_neg hc60] at g_18
          refine J_aload_n (pc := 63) (q := 0) rfl rfl dX9_settle_63 ?_
          obtain ⟨a64, h64, g_19⟩ := bnd g_18
          refine J_getR (pc := 64) (i := 36) clF9 (by decide) rfl fl_RX9_119 h64 dX9_settle_64 ?_
          refine J_aload_n (pc := 67) (q := 0) rfl rfl dX9_settle_67 ?_
          obtain ⟨a68, h68, g_20⟩ := bnd g_19
          refine J_getI (pc := 68) (i := 38) clF9 (by decide) rfl fl_RX9_125 h68 dX9_settle_68 ?_
          obtain ⟨a71, h71, g_21⟩ := bnd g_20
          refine J_ald0 (pc := 71) h71 dX9_settle_71 ?_
          refine J_bipush (pc := 72) (v := (-9 : Int32)) (by decide) dX9_settle_72 ?_
          refine J_icne (pc := 74) (tgt := 0) (by decide) dX9_settle_74 (fun hc74 => ?_) (fun hc74 => ?_)
          · rw [if_pos hc74] at g_21
            exact hk0  _ g_21
          · rw [if_neg hc74] at g_21
            exact jX9_settle_b77 hk0 g_21
set_option maxHeartbeats 4000000 in
set_option maxRecDepth 100000 in
theorem tX9_settle {ad : Nat → Nat} {ca : Nat → ClassId} {D : va_G} {FU d : Nat} {N : Mem}  {x0 : Nat} {x1 : Int32} {M : Mem}  (h : fX9_settle FU  x0 x1 M = some N) : Ct ad ca D yX9_settle cX9_settle 2 none (d + 1) [vR (some x0), vI x1] M (QV N) := by
  refine Ct_of (by decide) (Nat.le_of_ble_eq_true rfl) ?_
  show J ad ca D cX9_settle RX9 2 (d + 1) (Gt ad ca D none (QV N)) 0 [(0, vR (some x0)), (1, vI x1)] [] M
  unfold fX9_settle at h
  exact jX9_settle_L0  FU  _ h
set_option maxHeartbeats 4000000 in
set_option maxRecDepth 100000 in
theorem jX9_hold_b38 {ad : Nat → Nat} {ca : Nat → ClassId} {D : va_G} {FU d : Nat} {N : Mem}   {x0 : Nat} {M : Mem}   (h : fX9_hold_b38 FU  x0 M = some N) : J ad ca D cX9_hold RX9 2 (d + 0) (Gt ad ca D none (QV N)) 38 [(0, vR (some x0))] [] M := by
  unfold fX9_hold_b38 at h
  refine J_aload_n (pc := 38) (q := 0) rfl rfl dX9_hold_38 ?_
  refine J_dup (pc := 39) rfl dX9_hold_39 ?_
  obtain ⟨a40, h40, g_1⟩ := bnd h
  refine J_getI (pc := 40) (i := 40) clF9 (by decide) rfl fl_RX9_131 h40 dX9_hold_40 ?_
  refine J_iconst (pc := 43) (v := (1 : Int32)) (by decide) dX9_hold_43 ?_
  refine J_iadd (pc := 44) dX9_hold_44 ?_
  obtain ⟨M45, h45, g_2⟩ := bnd g_1
  refine J_putI (pc := 45) (i := 40) clF9 (by decide) rfl fl_RX9_131 rfl rfl h45 dX9_hold_45 ?_
  exact J_vret (pc := 48) (qv_of g_2) dX9_hold_48
set_option maxHeartbeats 4000000 in
set_option maxRecDepth 100000 in
theorem tX9_hold {ad : Nat → Nat} {ca : Nat → ClassId} {D : va_G} {FU d : Nat} {N : Mem}  {x0 : Nat} {x1 : Int32} {M : Mem}  (h : fX9_hold FU  x0 x1 M = some N) : Ct ad ca D yX9_hold cX9_hold 2 none (d + 0) [vR (some x0), vI x1] M (QV N) := by
  refine Ct_of (by decide) (Nat.le_of_ble_eq_true rfl) ?_
  show J ad ca D cX9_hold RX9 2 (d + 0) (Gt ad ca D none (QV N)) 0 [(0, vR (some x0)), (1, vI x1)] [] M
  unfold fX9_hold at h
  refine J_aload_n (pc := 0) (q := 0) rfl rfl dX9_hold_0 ?_
  obtain ⟨a1, h1, g_3⟩ := bnd h
  refine J_getR (pc := 1) (i := 36) clF9 (by decide) rfl fl_RX9_119 h1 dX9_hold_1 ?_
  refine J_aload_n (pc := 4) (q := 0) rfl rfl dX9_hold_4 ?_
  obtain ⟨a5, h5, g_4⟩ := bnd g_3
  refine J_getI (pc := 5) (i := 38) clF9 (by decide) rfl fl_RX9_125 h5 dX9_hold_5 ?_
  refine J_iload_n (pc := 8) (q := 1) rfl rfl dX9_hold_8 ?_
  obtain ⟨M9, h9, g_5⟩ := bnd g_4
  refine J_ast0 (pc := 9) h9 dX9_hold_9 ?_
  refine J_aload_n (pc := 10) (q := 0) rfl rfl dX9_hold_10 ?_
  refine J_dup (pc := 11) rfl dX9_hold_11 ?_
  obtain ⟨a12, h12, g_6⟩ := bnd g_5
  refine J_getI (pc := 12) (i := 38) clF9 (by decide) rfl fl_RX9_125 h12 dX9_hold_12 ?_
  refine J_iconst (pc := 15) (v := (1 : Int32)) (by decide) dX9_hold_15 ?_
  refine J_iadd (pc := 16) dX9_hold_16 ?_
  obtain ⟨M17, h17, g_7⟩ := bnd g_6
  refine J_putI (pc := 17) (i := 38) clF9 (by decide) rfl fl_RX9_125 rfl rfl h17 dX9_hold_17 ?_
  refine J_iload_n (pc := 20) (q := 1) rfl rfl dX9_hold_20 ?_
  refine J_bipush (pc := 21) (v := (-3 : Int32)) (by decide) dX9_hold_21 ?_
  refine J_iceq (pc := 23) (tgt := 38) (by decide) dX9_hold_23 (fun hc23 => ?_) (fun hc23 => ?_)
  · rw [if_pos hc23] at g_7
    refine J_sub [0] (lv' := [(0, vR (some x0))]) rfl ?_
    exact jX9_hold_b38  g_7
  · rw [if_neg hc23] at g_7
    refine J_iload_n (pc := 26) (q := 1) rfl rfl dX9_hold_26 ?_
    refine J_bipush (pc := 27) (v := (-9 : Int32)) (by decide) dX9_hold_27 ?_
    refine J_iceq (pc := 29) (tgt := 38) (by decide) dX9_hold_29 (fun hc29 => ?_) (fun hc29 => ?_)
    · rw [if_pos hc29] at g_7
      refine J_sub [0] (lv' := [(0, vR (some x0))]) rfl ?_
      exact jX9_hold_b38  g_7
    · rw [if_neg hc29] at g_7
      refine J_iload_n (pc := 32) (q := 1) rfl rfl dX9_hold_32 ?_
      refine J_bipush (pc := 33) (v := (-10 : Int32)) (by decide) dX9_hold_33 ?_
      refine J_icne (pc := 35) (tgt := 48) (by decide) dX9_hold_35 (fun hc35 => ?_) (fun hc35 => ?_)
      · rw [if_pos hc35] at g_7
        exact J_vret (pc := 48) (qv_of g_7) dX9_hold_48
      · rw [if_neg hc35] at g_7
        refine J_sub [0] (lv' := [(0, vR (some x0))]) rfl ?_
        exact jX9_hold_b38  g_7
set_option maxHeartbeats 4000000 in
set_option maxRecDepth 100000 in
theorem jX9_ahead_b56 {ad : Nat → Nat} {ca : Nat → ClassId} {D : va_G} {FU d : Nat} {r : Int32} {N : Mem}    {M : Mem}   (h : fX9_ahead_b56 FU  M = some (r, N)) : J ad ca D cX9_ahead RX9 2 (d + 1) (Gt ad ca D (some .boolean) (QI r N)) 56 [] [] M := by
  unfold fX9_ahead_b56 at h
  refine J_iconst (pc := 56) (v := (1 : Int32)) (by decide) dX9_ahead_56 ?_
  refine J_goto (pc := 57) (tgt := 61) (by decide) dX9_ahead_57 ?_
  exact J_zret (pc := 61) (Or.inr rfl) (qi_of h) dX9_ahead_61
set_option maxHeartbeats 4000000 in
set_option maxRecDepth 100000 in
theorem tX9_ahead {ad : Nat → Nat} {ca : Nat → ClassId} {D : va_G} {FU d : Nat} {r : Int32} {N : Mem}  {x0 : Nat} {x1 : Int32} {M : Mem}  (h : fX9_ahead FU  x0 x1 M = some (r, N)) : Ct ad ca D yX9_ahead cX9_ahead 2 (some .boolean) (d + 1) [vR (some x0), vI x1] M (QI r N) := by
  refine Ct_of (by decide) (Nat.le_of_ble_eq_true rfl) ?_
  show J ad ca D cX9_ahead RX9 2 (d + 1) (Gt ad ca D (some .boolean) (QI r N)) 0 [(0, vR (some x0)), (1, vI x1)] [] M
  unfold fX9_ahead at h
  refine J_aload_n (pc := 0) (q := 0) rfl rfl dX9_ahead_0 ?_
  obtain ⟨a1, h1, g_1⟩ := bnd h
  refine J_getI (pc := 1) (i := 33) clF9 (by decide) rfl fl_RX9_110 h1 dX9_ahead_1 ?_
  refine J_iconst (pc := 4) (v := (1 : Int32)) (by decide) dX9_ahead_4 ?_
  refine J_iceq (pc := 5) (tgt := 16) (by decide) dX9_ahead_5 (fun hc5 => ?_) (fun hc5 => ?_)
  · rw [if_pos hc5] at g_1
    refine J_iconst (pc := 16) (v := (1 : Int32)) (by decide) dX9_ahead_16 ?_
    exact J_zret (pc := 17) (Or.inr rfl) (qi_of g_1) dX9_ahead_17
  · rw [if_neg hc5] at g_1
    refine J_aload_n (pc := 8) (q := 0) rfl rfl dX9_ahead_8 ?_
    obtain ⟨a9, h9, g_2⟩ := bnd g_1
    refine J_getI (pc := 9) (i := 33) clF9 (by decide) rfl fl_RX9_110 h9 dX9_ahead_9 ?_
    refine J_iconst (pc := 12) (v := (2 : Int32)) (by decide) dX9_ahead_12 ?_
    refine J_icne (pc := 13) (tgt := 18) (by decide) dX9_ahead_13 (fun hc13 => ?_) (fun hc13 => ?_)
    · rw [if_pos hc13] at g_2
      refine J_aload_n (pc := 18) (q := 0) rfl rfl dX9_ahead_18 ?_
      obtain ⟨a19, h19, g_3⟩ := bnd g_2
      refine J_getI (pc := 19) (i := 40) clF9 (by decide) rfl fl_RX9_131 h19 dX9_ahead_19 ?_
      refine J_iconst (pc := 22) (v := (5 : Int32)) (by decide) dX9_ahead_22 ?_
      refine J_icne (pc := 23) (tgt := 28) (by decide) dX9_ahead_23 (fun hc23 => ?_) (fun hc23 => ?_)
      · rw [if_pos hc23] at g_3
        refine J_aload_n (pc := 28) (q := 0) rfl rfl dX9_ahead_28 ?_
        refine J_iconst (pc := 29) (v := (4 : Int32)) (by decide) dX9_ahead_29 ?_
        obtain ⟨b30, hb30, g_4⟩ := bnd g_3
        obtain ⟨r30, M30, h30, g_5⟩ := bnd2 g_4
        refine J_callVI (pc := 30) (as := [vI (4 : Int32)]) (tX9_isKey (d := d)  h30) cf_X9_isKey cv_X9_isKey clF9 hb30 ml_RX9_372 (by omega) (Nat.le_of_ble_eq_true rfl) dX9_ahead_30 ?_
        refine J_ifeq (pc := 33) (tgt := 38) (by decide) dX9_ahead_33 (fun hc33 => ?_) (fun hc33 => ?_)
        · rw [if_pos hc33] at g_5
          refine J_aload_n (pc := 38) (q := 0) rfl rfl dX9_ahead_38 ?_
          refine J_bipush (pc := 39) (v := (40 : Int32)) (by decide) dX9_ahead_39 ?_
          obtain ⟨b41, hb41, g_6⟩ := bnd g_5
          obtain ⟨r41, M41, h41, g_7⟩ := bnd2 g_6
          refine J_callVI (pc := 41) (as := [vI (40 : Int32)]) (tX9_isSign (d := d)  h41) cf_X9_isSign cv_X9_isSign clF9 hb41 ml_RX9_375 (by omega) (Nat.le_of_ble_eq_true rfl) dX9_ahead_41 ?_
          refine J_ifne (pc := 44) (tgt := 56) (by decide) dX9_ahead_44 (fun hc44 => ?_) (fun hc44 => ?_)
          · rw [if_pos hc44] at g_7
            refine J_sub [] (lv' := []) rfl ?_
            exact jX9_ahead_b56  g_7
          · rw [if_neg hc44] at g_7
            refine J_aload_n (pc := 47) (q := 0) rfl rfl dX9_ahead_47 ?_
            refine J_bipush (pc := 48) (v := (45 : Int32)) (by decide) dX9_ahead_48 ?_
            obtain ⟨b50, hb50, g_8⟩ := bnd g_7
            obtain ⟨r50, M50, h50, g_9⟩ := bnd2 g_8
            refine J_callVI (pc := 50) (as := [vI (45 : Int32)]) (tX9_isSign (d := d)  h50) cf_X9_isSign cv_X9_isSign clF9 hb50 ml_RX9_375 (by omega) (Nat.le_of_ble_eq_true rfl) dX9_ahead_50 ?_
            refine J_ifeq (pc := 53) (tgt := 60) (by decide) dX9_ahead_53 (fun hc53 => ?_) (fun hc53 => ?_)
            · rw [if_pos hc53] at g_9
              refine J_iconst (pc := 60) (v := (0 : Int32)) (by decide) dX9_ahead_60 ?_
              exact J_zret (pc := 61) (Or.inl rfl) (qi_of g_9) dX9_ahead_61
            · rw [if_neg hc53] at g_9
              refine J_sub [] (lv' := []) rfl ?_
              exact jX9_ahead_b56  g_9
        · rw [if_neg hc33] at g_5
          refine J_iload_n (pc := 36) (q := 1) rfl rfl dX9_ahead_36 ?_
          obtain ⟨hz37, g_10⟩ := grd g_5
          exact J_zret (pc := 37) hz37 (qi_of g_10) dX9_ahead_37
      · rw [if_neg hc23] at g_3
        refine J_iconst (pc := 26) (v := (0 : Int32)) (by decide) dX9_ahead_26 ?_
        exact J_zret (pc := 27) (Or.inl rfl) (qi_of g_3) dX9_ahead_27
    · rw [if_neg hc13] at g_2
      refine J_iconst (pc := 16) (v := (1 : Int32)) (by decide) dX9_ahead_16 ?_
      exact J_zret (pc := 17) (Or.inr rfl) (qi_of g_2) dX9_ahead_17
set_option maxHeartbeats 4000000 in
set_option maxRecDepth 100000 in
theorem tX9_signOf {ad : Nat → Nat} {ca : Nat → ClassId} {D : va_G} {FU d : Nat} {r : Int32} {N : Mem}  {x0 : Nat} {M : Mem}  (h : fX9_signOf FU  x0 M = some (r, N)) : Ct ad ca D yX9_signOf cX9_signOf 1 (some .int) (d + 1) [vR (some x0)] M (QI r N) := by
  refine Ct_of (by decide) (Nat.le_of_ble_eq_true rfl) ?_
  show J ad ca D cX9_signOf RX9 1 (d + 1) (Gt ad ca D (some .int) (QI r N)) 0 [(0, vR (some x0))] [] M
  unfold fX9_signOf at h
  refine J_aload_n (pc := 0) (q := 0) rfl rfl dX9_signOf_0 ?_
  refine J_iconst (pc := 1) (v := (2 : Int32)) (by decide) dX9_signOf_1 ?_
  obtain ⟨b2, hb2, g_1⟩ := bnd h
  obtain ⟨r2, M2, h2, g_2⟩ := bnd2 g_1
  refine J_callVI (pc := 2) (as := [vI (2 : Int32)]) (tX9_isKey (d := d)  h2) cf_X9_isKey cv_X9_isKey clF9 hb2 ml_RX9_372 (by omega) (Nat.le_of_ble_eq_true rfl) dX9_signOf_2 ?_
  refine J_ifeq (pc := 5) (tgt := 12) (by decide) dX9_signOf_5 (fun hc5 => ?_) (fun hc5 => ?_)
  · rw [if_pos hc5] at g_2
    refine J_aload_n (pc := 12) (q := 0) rfl rfl dX9_signOf_12 ?_
    refine J_iconst (pc := 13) (v := (3 : Int32)) (by decide) dX9_signOf_13 ?_
    obtain ⟨b14, hb14, g_3⟩ := bnd g_2
    obtain ⟨r14, M14, h14, g_4⟩ := bnd2 g_3
    refine J_callVI (pc := 14) (as := [vI (3 : Int32)]) (tX9_isKey (d := d)  h14) cf_X9_isKey cv_X9_isKey clF9 hb14 ml_RX9_372 (by omega) (Nat.le_of_ble_eq_true rfl) dX9_signOf_14 ?_
    refine J_ifeq (pc := 17) (tgt := 25) (by decide) dX9_signOf_17 (fun hc17 => ?_) (fun hc17 => ?_)
    · rw [if_pos hc17] at g_4
      refine J_aload_n (pc := 25) (q := 0) rfl rfl dX9_signOf_25 ?_
      refine J_bipush (pc := 26) (v := (60 : Int32)) (by decide) dX9_signOf_26 ?_
      obtain ⟨b28, hb28, g_5⟩ := bnd g_4
      obtain ⟨r28, M28, h28, g_6⟩ := bnd2 g_5
      refine J_callVI (pc := 28) (as := [vI (60 : Int32)]) (tX9_isSign (d := d)  h28) cf_X9_isSign cv_X9_isSign clF9 hb28 ml_RX9_375 (by omega) (Nat.le_of_ble_eq_true rfl) dX9_signOf_28 ?_
      refine J_ifeq (pc := 31) (tgt := 39) (by decide) dX9_signOf_31 (fun hc31 => ?_) (fun hc31 => ?_)
      · rw [if_pos hc31] at g_6
        refine J_aload_n (pc := 39) (q := 0) rfl rfl dX9_signOf_39 ?_
        refine J_bipush (pc := 40) (v := (61 : Int32)) (by decide) dX9_signOf_40 ?_
        obtain ⟨b42, hb42, g_7⟩ := bnd g_6
        obtain ⟨r42, M42, h42, g_8⟩ := bnd2 g_7
        refine J_callVI (pc := 42) (as := [vI (61 : Int32)]) (tX9_isSign (d := d)  h42) cf_X9_isSign cv_X9_isSign clF9 hb42 ml_RX9_375 (by omega) (Nat.le_of_ble_eq_true rfl) dX9_signOf_42 ?_
        refine J_ifeq (pc := 45) (tgt := 53) (by decide) dX9_signOf_45 (fun hc45 => ?_) (fun hc45 => ?_)
        · rw [if_pos hc45] at g_8
          refine J_aload_n (pc := 53) (q := 0) rfl rfl dX9_signOf_53 ?_
          refine J_bipush (pc := 54) (v := (43 : Int32)) (by decide) dX9_signOf_54 ?_
          obtain ⟨b56, hb56, g_9⟩ := bnd g_8
          obtain ⟨r56, M56, h56, g_10⟩ := bnd2 g_9
          refine J_callVI (pc := 56) (as := [vI (43 : Int32)]) (tX9_isSign (d := d)  h56) cf_X9_isSign cv_X9_isSign clF9 hb56 ml_RX9_375 (by omega) (Nat.le_of_ble_eq_true rfl) dX9_signOf_56 ?_
          refine J_ifeq (pc := 59) (tgt := 67) (by decide) dX9_signOf_59 (fun hc59 => ?_) (fun hc59 => ?_)
          · rw [if_pos hc59] at g_10
            refine J_aload_n (pc := 67) (q := 0) rfl rfl dX9_signOf_67 ?_
            refine J_bipush (pc := 68) (v := (45 : Int32)) (by decide) dX9_signOf_68 ?_
            obtain ⟨b70, hb70, g_11⟩ := bnd g_10
            obtain ⟨r70, M70, h70, g_12⟩ := bnd2 g_11
            refine J_callVI (pc := 70) (as := [vI (45 : Int32)]) (tX9_isSign (d := d)  h70) cf_X9_isSign cv_X9_isSign clF9 hb70 ml_RX9_375 (by omega) (Nat.le_of_ble_eq_true rfl) dX9_signOf_70 ?_
            refine J_ifeq (pc := 73) (tgt := 81) (by decide) dX9_signOf_73 (fun hc73 => ?_) (fun hc73 => ?_)
            · rw [if_pos hc73] at g_12
              refine J_aload_n (pc := 81) (q := 0) rfl rfl dX9_signOf_81 ?_
              refine J_bipush (pc := 82) (v := (42 : Int32)) (by decide) dX9_signOf_82 ?_
              obtain ⟨b84, hb84, g_13⟩ := bnd g_12
              obtain ⟨r84, M84, h84, g_14⟩ := bnd2 g_13
              refine J_callVI (pc := 84) (as := [vI (42 : Int32)]) (tX9_isSign (d := d)  h84) cf_X9_isSign cv_X9_isSign clF9 hb84 ml_RX9_375 (by omega) (Nat.le_of_ble_eq_true rfl) dX9_signOf_84 ?_
              refine J_ifeq (pc := 87) (tgt := 95) (by decide) dX9_signOf_87 (fun hc87 => ?_) (fun hc87 => ?_)
              · rw [if_pos hc87] at g_14
                refine J_iconst (pc := 95) (v := (0 : Int32)) (by decide) dX9_signOf_95 ?_
                exact J_iret (pc := 96) (qi_of g_14) dX9_signOf_96
              · rw [if_neg hc87] at g_14
                refine J_bipush (pc := 90) (v := (-8 : Int32)) (by decide) dX9_signOf_90 ?_
                refine J_goto (pc := 92) (tgt := 96) (by decide) dX9_signOf_92 ?_
                exact J_iret (pc := 96) (qi_of g_14) dX9_signOf_96
            · rw [if_neg hc73] at g_12
              refine J_bipush (pc := 76) (v := (-7 : Int32)) (by decide) dX9_signOf_76 ?_
              refine J_goto (pc := 78) (tgt := 96) (by decide) dX9_signOf_78 ?_
              exact J_iret (pc := 96) (qi_of g_12) dX9_signOf_96
          · rw [if_neg hc59] at g_10
            refine J_bipush (pc := 62) (v := (-6 : Int32)) (by decide) dX9_signOf_62 ?_
            refine J_goto (pc := 64) (tgt := 96) (by decide) dX9_signOf_64 ?_
            exact J_iret (pc := 96) (qi_of g_10) dX9_signOf_96
        · rw [if_neg hc45] at g_8
          refine J_bipush (pc := 48) (v := (-5 : Int32)) (by decide) dX9_signOf_48 ?_
          refine J_goto (pc := 50) (tgt := 96) (by decide) dX9_signOf_50 ?_
          exact J_iret (pc := 96) (qi_of g_8) dX9_signOf_96
      · rw [if_neg hc31] at g_6
        refine J_bipush (pc := 34) (v := (-4 : Int32)) (by decide) dX9_signOf_34 ?_
        refine J_goto (pc := 36) (tgt := 96) (by decide) dX9_signOf_36 ?_
        exact J_iret (pc := 96) (qi_of g_6) dX9_signOf_96
    · rw [if_neg hc17] at g_4
      refine J_bipush (pc := 20) (v := (-2 : Int32)) (by decide) dX9_signOf_20 ?_
      refine J_goto (pc := 22) (tgt := 96) (by decide) dX9_signOf_22 ?_
      exact J_iret (pc := 96) (qi_of g_4) dX9_signOf_96
  · rw [if_neg hc5] at g_2
    refine J_iconst (pc := 8) (v := (-1 : Int32)) (by decide) dX9_signOf_8 ?_
    refine J_goto (pc := 9) (tgt := 96) (by decide) dX9_signOf_9 ?_
    exact J_iret (pc := 96) (qi_of g_2) dX9_signOf_96
set_option maxHeartbeats 4000000 in
set_option maxRecDepth 100000 in
theorem jX9_part_b162 {ad : Nat → Nat} {ca : Nat → ClassId} {D : va_G} {FU d : Nat} {r : Int32} {N : Mem}  {k36 : Int32 → Int32 → Mem → Option (Int32 × Mem)} {x0 : Nat} {x1 : Int32} {x2 : Int32} {M : Mem}  (hk36 : ∀ (y1 : Int32) (y2 : Int32) (M : Mem), k36 y1 y2 M = some (r, N) → J ad ca D cX9_part RX9 4 (d + 3) (Gt ad ca D (some .boolean) (QI r N)) 36 [(0, vR (some x0)), (1, vI y1), (2, vI y2)] [] M) (h : fX9_part_b162 FU  k36 x0 x1 x2 M = some (r, N)) : J ad ca D cX9_part RX9 4 (d + 3) (Gt ad ca D (some .boolean) (QI r N)) 162 [(0, vR (some x0)), (1, vI x1), (2, vI x2)] [] M := by
  unfold fX9_part_b162 at h
  refine J_aload_n (pc := 162) (q := 0) rfl rfl dX9_part_162 ?_
  obtain ⟨b163, hb163, g_1⟩ := bnd h
  obtain ⟨M163, h163, g_2⟩ := bnd g_1
  refine J_callVV (pc := 163) (as := []) (tX9_next (d := d)  h163) cf_X9_next cv_X9_next clF9 hb163 ml_RX9_387 (by omega) (Nat.le_of_ble_eq_true rfl) dX9_part_163 ?_
  refine J_goto (pc := 166) (tgt := 36) (by decide) dX9_part_166 ?_
  exact hk36 _ _ _ g_2
set_option maxHeartbeats 4000000 in
set_option maxRecDepth 100000 in
theorem jX9_part_b151 {ad : Nat → Nat} {ca : Nat → ClassId} {D : va_G} {FU d : Nat} {r : Int32} {N : Mem}  {k36 : Int32 → Int32 → Mem → Option (Int32 × Mem)} {x0 : Nat} {x2 : Int32} {s0 : Option Nat} {s1 : Int32} {M : Mem}  (hk36 : ∀ (y1 : Int32) (y2 : Int32) (M : Mem), k36 y1 y2 M = some (r, N) → J ad ca D cX9_part RX9 4 (d + 3) (Gt ad ca D (some .boolean) (QI r N)) 36 [(0, vR (some x0)), (1, vI y1), (2, vI y2)] [] M) (h : fX9_part_b151 FU  k36 x0 x2 s0 s1 M = some (r, N)) : J ad ca D cX9_part RX9 4 (d + 3) (Gt ad ca D (some .boolean) (QI r N)) 151 [(0, vR (some x0)), (2, vI x2)] [vI s1, vR s0] M := by
  unfold fX9_part_b151 at h
  obtain ⟨b151, hb151, g_3⟩ := bnd h
  obtain ⟨M151, h151, g_4⟩ := bnd g_3
  refine J_callVV (pc := 151) (as := [vI s1]) (tX9_put (d := d)  h151) cf_X9_put cv_X9_put clF9 hb151 ml_RX9_369 (by omega) (Nat.le_of_ble_eq_true rfl) dX9_part_151 ?_
  refine J_aload_n (pc := 154) (q := 0) rfl rfl dX9_part_154 ?_
  refine J_bipush (pc := 155) (v := (7 : Int32)) (by decide) dX9_part_155 ?_
  obtain ⟨b157, hb157, g_5⟩ := bnd g_4
  obtain ⟨M157, h157, g_6⟩ := bnd g_5
  refine J_callVV (pc := 157) (as := [vI (7 : Int32)]) (tX9_settle (d := d)  h157) cf_X9_settle cv_X9_settle clF9 hb157 ml_RX9_384 (by omega) (Nat.le_of_ble_eq_true rfl) dX9_part_157 ?_
  refine J_iconst (pc := 160) (v := (0 : Int32)) (by decide) dX9_part_160 ?_
  refine J_istore_n (pc := 161) rfl (by decide) (lv' := [(0, vR (some x0)), (2, vI x2), (1, vI (0 : Int32))]) rfl dX9_part_161 ?_
  refine J_sub [0, 2, 1] (lv' := [(0, vR (some x0)), (1, vI (0 : Int32)), (2, vI x2)]) rfl ?_
  exact jX9_part_b162 hk36 g_6
set_option maxHeartbeats 4000000 in
set_option maxRecDepth 100000 in
theorem jX9_part_b368 {ad : Nat → Nat} {ca : Nat → ClassId} {D : va_G} {FU d : Nat} {r : Int32} {N : Mem}  {k36 : Int32 → Int32 → Mem → Option (Int32 × Mem)} {x0 : Nat} {x1 : Int32} {s0 : Int32} {M : Mem}  (hk36 : ∀ (y1 : Int32) (y2 : Int32) (M : Mem), k36 y1 y2 M = some (r, N) → J ad ca D cX9_part RX9 4 (d + 3) (Gt ad ca D (some .boolean) (QI r N)) 36 [(0, vR (some x0)), (1, vI y1), (2, vI y2)] [] M) (h : fX9_part_b368 FU  k36 x0 x1 s0 M = some (r, N)) : J ad ca D cX9_part RX9 4 (d + 3) (Gt ad ca D (some .boolean) (QI r N)) 368 [(0, vR (some x0)), (1, vI x1)] [vI s0] M := by
  unfold fX9_part_b368 at h
  refine J_istore_n (pc := 368) rfl (by decide) (lv' := [(0, vR (some x0)), (1, vI x1), (2, vI s0)]) rfl dX9_part_368 ?_
  refine J_aload_n (pc := 369) (q := 0) rfl rfl dX9_part_369 ?_
  obtain ⟨b370, hb370, g_7⟩ := bnd h
  obtain ⟨M370, h370, g_8⟩ := bnd g_7
  refine J_callVV (pc := 370) (as := []) (tX9_next (d := d)  h370) cf_X9_next cv_X9_next clF9 hb370 ml_RX9_387 (by omega) (Nat.le_of_ble_eq_true rfl) dX9_part_370 ?_
  refine J_goto (pc := 373) (tgt := 36) (by decide) dX9_part_373 ?_
  exact hk36 _ _ _ g_8
set_option maxHeartbeats 4000000 in
set_option maxRecDepth 100000 in
theorem jX9_part_b337 {ad : Nat → Nat} {ca : Nat → ClassId} {D : va_G} {FU d : Nat} {r : Int32} {N : Mem}  {k36 : Int32 → Int32 → Mem → Option (Int32 × Mem)} {x0 : Nat} {x3 : Int32} {s0 : Option Nat} {s1 : Int32} {s2 : Int32} {M : Mem}  (hk36 : ∀ (y1 : Int32) (y2 : Int32) (M : Mem), k36 y1 y2 M = some (r, N) → J ad ca D cX9_part RX9 4 (d + 3) (Gt ad ca D (some .boolean) (QI r N)) 36 [(0, vR (some x0)), (1, vI y1), (2, vI y2)] [] M) (h : fX9_part_b337 FU  k36 x0 x3 s0 s1 s2 M = some (r, N)) : J ad ca D cX9_part RX9 4 (d + 3) (Gt ad ca D (some .boolean) (QI r N)) 337 [(0, vR (some x0)), (3, vI x3)] [vI s2, vI s1, vR s0] M := by
  unfold fX9_part_b337 at h
  obtain ⟨M337, h337, g_9⟩ := bnd h
  refine J_ast1 (pc := 337) h337 dX9_part_337 ?_
  refine J_aload_n (pc := 338) (q := 0) rfl rfl dX9_part_338 ?_
  refine J_aload_n (pc := 339) (q := 0) rfl rfl dX9_part_339 ?_
  refine J_iload_n (pc := 340) (q := 1) rfl rfl dX9_part_340 ?_
  obtain ⟨b341, hb341, g_10⟩ := bnd g_9
  obtain ⟨r341, M341, h341, g_11⟩ := bnd2 g_10
  refine J_callVI (pc := 341) (as := [vI x3]) (tX9_rank (d := d)  h341) cf_X9_rank cv_X9_rank clF9 hb341 ml_RX9_366 (by omega) (Nat.le_of_ble_eq_true rfl) dX9_part_341 ?_
  obtain ⟨b344, hb344, g_12⟩ := bnd g_11
  obtain ⟨M344, h344, g_13⟩ := bnd g_12
  refine J_callVV (pc := 344) (as := [vI r341]) (tX9_settle (d := d)  h344) cf_X9_settle cv_X9_settle clF9 hb344 ml_RX9_384 (by omega) (Nat.le_of_ble_eq_true rfl) dX9_part_344 ?_
  refine J_aload_n (pc := 347) (q := 0) rfl rfl dX9_part_347 ?_
  refine J_iload_n (pc := 348) (q := 1) rfl rfl dX9_part_348 ?_
  obtain ⟨b349, hb349, g_14⟩ := bnd g_13
  obtain ⟨M349, h349, g_15⟩ := bnd g_14
  refine J_callVV (pc := 349) (as := [vI x3]) (tX9_hold (d := d)  h349) cf_X9_hold cv_X9_hold clF9 hb349 ml_RX9_381 (by omega) (Nat.le_of_ble_eq_true rfl) dX9_part_349 ?_
  refine J_iconst (pc := 352) (v := (1 : Int32)) (by decide) dX9_part_352 ?_
  refine J_istore_n (pc := 353) rfl (by decide) (lv' := [(0, vR (some x0)), (3, vI x3), (1, vI (1 : Int32))]) rfl dX9_part_353 ?_
  refine J_aload_n (pc := 354) (q := 0) rfl rfl dX9_part_354 ?_
  refine J_iload_n (pc := 355) (q := 1) rfl rfl dX9_part_355 ?_
  obtain ⟨b356, hb356, g_16⟩ := bnd g_15
  obtain ⟨r356, M356, h356, g_17⟩ := bnd2 g_16
  refine J_callVI (pc := 356) (as := [vI x3]) (tX9_rank (d := d)  h356) cf_X9_rank cv_X9_rank clF9 hb356 ml_RX9_366 (by omega) (Nat.le_of_ble_eq_true rfl) dX9_part_356 ?_
  refine J_iconst (pc := 359) (v := (3 : Int32)) (by decide) dX9_part_359 ?_
  refine J_icge (pc := 360) (tgt := 367) (by decide) dX9_part_360 (fun hc360 => ?_) (fun hc360 => ?_)
  · rw [if_pos hc360] at g_17
    refine J_iconst (pc := 367) (v := (0 : Int32)) (by decide) dX9_part_367 ?_
    refine J_sub [0, 2] (lv' := [(0, vR (some x0)), (1, vI (1 : Int32))]) rfl ?_
    exact jX9_part_b368 hk36 g_17
  · rw [if_neg hc360] at g_17
    refine J_iconst (pc := 363) (v := (1 : Int32)) (by decide) dX9_part_363 ?_
    refine J_goto (pc := 364) (tgt := 368) (by decide) dX9_part_364 ?_
    refine J_sub [0, 2] (lv' := [(0, vR (some x0)), (1, vI (1 : Int32))]) rfl ?_
    exact jX9_part_b368 hk36 g_17
set_option maxHeartbeats 4000000 in
set_option maxRecDepth 100000 in
theorem jX9_part_b332 {ad : Nat → Nat} {ca : Nat → ClassId} {D : va_G} {FU d : Nat} {r : Int32} {N : Mem}  {k36 : Int32 → Int32 → Mem → Option (Int32 × Mem)} {x0 : Nat} {x3 : Int32} {s0 : Option Nat} {s1 : Int32} {M : Mem}  (hk36 : ∀ (y1 : Int32) (y2 : Int32) (M : Mem), k36 y1 y2 M = some (r, N) → J ad ca D cX9_part RX9 4 (d + 3) (Gt ad ca D (some .boolean) (QI r N)) 36 [(0, vR (some x0)), (1, vI y1), (2, vI y2)] [] M) (h : fX9_part_b332 FU  k36 x0 x3 s0 s1 M = some (r, N)) : J ad ca D cX9_part RX9 4 (d + 3) (Gt ad ca D (some .boolean) (QI r N)) 332 [(0, vR (some x0)), (3, vI x3)] [vI s1, vR s0] M := by
  unfold fX9_part_b332 at h
  refine J_iconst (pc := 332) (v := (1 : Int32)) (by decide) dX9_part_332 ?_
  refine J_goto (pc := 333) (tgt := 337) (by decide) dX9_part_333 ?_
  exact jX9_part_b337 hk36 h
set_option maxHeartbeats 4000000 in
set_option maxRecDepth 100000 in
theorem jX9_part_b336 {ad : Nat → Nat} {ca : Nat → ClassId} {D : va_G} {FU d : Nat} {r : Int32} {N : Mem}  {k36 : Int32 → Int32 → Mem → Option (Int32 × Mem)} {x0 : Nat} {x3 : Int32} {s0 : Option Nat} {s1 : Int32} {M : Mem}  (hk36 : ∀ (y1 : Int32) (y2 : Int32) (M : Mem), k36 y1 y2 M = some (r, N) → J ad ca D cX9_part RX9 4 (d + 3) (Gt ad ca D (some .boolean) (QI r N)) 36 [(0, vR (some x0)), (1, vI y1), (2, vI y2)] [] M) (h : fX9_part_b336 FU  k36 x0 x3 s0 s1 M = some (r, N)) : J ad ca D cX9_part RX9 4 (d + 3) (Gt ad ca D (some .boolean) (QI r N)) 336 [(0, vR (some x0)), (3, vI x3)] [vI s1, vR s0] M := by
  unfold fX9_part_b336 at h
  refine J_iconst (pc := 336) (v := (0 : Int32)) (by decide) dX9_part_336 ?_
  exact jX9_part_b337 hk36 h
set_option maxHeartbeats 4000000 in
set_option maxRecDepth 100000 in
theorem jX9_part_b294 {ad : Nat → Nat} {ca : Nat → ClassId} {D : va_G} {FU d : Nat} {r : Int32} {N : Mem}  {k36 : Int32 → Int32 → Mem → Option (Int32 × Mem)} {x0 : Nat} {x3 : Int32} {M : Mem}  (hk36 : ∀ (y1 : Int32) (y2 : Int32) (M : Mem), k36 y1 y2 M = some (r, N) → J ad ca D cX9_part RX9 4 (d + 3) (Gt ad ca D (some .boolean) (QI r N)) 36 [(0, vR (some x0)), (1, vI y1), (2, vI y2)] [] M) (h : fX9_part_b294 FU  k36 x0 x3 M = some (r, N)) : J ad ca D cX9_part RX9 4 (d + 3) (Gt ad ca D (some .boolean) (QI r N)) 294 [(0, vR (some x0)), (3, vI x3)] [] M := by
  unfold fX9_part_b294 at h
  refine J_aload_n (pc := 294) (q := 0) rfl rfl dX9_part_294 ?_
  obtain ⟨a295, h295, g_18⟩ := bnd h
  refine J_getR (pc := 295) (i := 37) clF9 (by decide) rfl fl_RX9_122 h295 dX9_part_295 ?_
  refine J_aload_n (pc := 298) (q := 0) rfl rfl dX9_part_298 ?_
  obtain ⟨a299, h299, g_19⟩ := bnd g_18
  refine J_getI (pc := 299) (i := 39) clF9 (by decide) rfl fl_RX9_128 h299 dX9_part_299 ?_
  refine J_aload_n (pc := 302) (q := 0) rfl rfl dX9_part_302 ?_
  refine J_iload_n (pc := 303) (q := 1) rfl rfl dX9_part_303 ?_
  obtain ⟨b304, hb304, g_20⟩ := bnd g_19
  obtain ⟨r304, M304, h304, g_21⟩ := bnd2 g_20
  refine J_callVI (pc := 304) (as := [vI x3]) (tX9_rank (d := d)  h304) cf_X9_rank cv_X9_rank clF9 hb304 ml_RX9_366 (by omega) (Nat.le_of_ble_eq_true rfl) dX9_part_304 ?_
  refine J_iconst (pc := 307) (v := (4 : Int32)) (by decide) dX9_part_307 ?_
  refine J_iceq (pc := 308) (tgt := 332) (by decide) dX9_part_308 (fun hc308 => ?_) (fun hc308 => ?_)
  · rw [if_pos hc308] at g_21
    exact jX9_part_b332 hk36 g_21
  · rw [if_neg hc308] at g_21
    refine J_aload_n (pc := 311) (q := 0) rfl rfl dX9_part_311 ?_
    refine J_iload_n (pc := 312) (q := 1) rfl rfl dX9_part_312 ?_
    obtain ⟨b313, hb313, g_22⟩ := bnd g_21
    obtain ⟨r313, M313, h313, g_23⟩ := bnd2 g_22
    refine J_callVI (pc := 313) (as := [vI x3]) (tX9_rank (d := d)  h313) cf_X9_rank cv_X9_rank clF9 hb313 ml_RX9_366 (by omega) (Nat.le_of_ble_eq_true rfl) dX9_part_313 ?_
    refine J_iconst (pc := 316) (v := (2 : Int32)) (by decide) dX9_part_316 ?_
    refine J_icle (pc := 317) (tgt := 336) (by decide) dX9_part_317 (fun hc317 => ?_) (fun hc317 => ?_)
    · rw [if_pos hc317] at g_23
      exact jX9_part_b336 hk36 g_23
    · rw [if_neg hc317] at g_23
      refine J_aload_n (pc := 320) (q := 0) rfl rfl dX9_part_320 ?_
      obtain ⟨a321, h321, g_24⟩ := bnd g_23
      refine J_getR (pc := 321) (i := 37) clF9 (by decide) rfl fl_RX9_122 h321 dX9_part_321 ?_
      refine J_aload_n (pc := 324) (q := 0) rfl rfl dX9_part_324 ?_
      obtain ⟨a325, h325, g_25⟩ := bnd g_24
      refine J_getI (pc := 325) (i := 39) clF9 (by decide) rfl fl_RX9_128 h325 dX9_part_325 ?_
      obtain ⟨a328, h328, g_26⟩ := bnd g_25
      refine J_ald1 (pc := 328) h328 dX9_part_328 ?_
      refine J_ifeq (pc := 329) (tgt := 336) (by decide) dX9_part_329 (fun hc329 => ?_) (fun hc329 => ?_)
      · rw [if_pos hc329] at g_26
        exact jX9_part_b336 hk36 g_26
      · rw [if_neg hc329] at g_26
        exact jX9_part_b332 hk36 g_26
set_option maxHeartbeats 4000000 in
set_option maxRecDepth 100000 in
theorem jX9_part_L36 {ad : Nat → Nat} {ca : Nat → ClassId} {D : va_G} {FU d : Nat} {r : Int32} {N : Mem}   {x0 : Nat}   : ∀ (F : Nat) (x1 : Int32) (x2 : Int32) (M : Mem), fX9_part_L36 FU  x0 F x1 x2 M = some (r, N) → J ad ca D cX9_part RX9 4 (d + 3) (Gt ad ca D (some .boolean) (QI r N)) 36 [(0, vR (some x0)), (1, vI x1), (2, vI x2)] [] M := by
  intro F
  induction F with
  | zero =>
    intro x1 x2 M h
    rw [fX9_part_L36] at h
    cases h
  | succ F hk36 =>
    intro x1 x2 M h
    rw [fX9_part_L36] at h
    refine J_iload_n (pc := 36) (q := 1) rfl rfl dX9_part_36 ?_
    refine J_ifeq (pc := 37) (tgt := 169) (by decide) dX9_part_37 (fun hc37 => ?_) (fun hc37 => ?_)
    · rw [if_pos hc37] at h
      refine J_aload_n (pc := 169) (q := 0) rfl rfl dX9_part_169 ?_
      refine J_bipush (pc := 170) (v := (59 : Int32)) (by decide) dX9_part_170 ?_
      obtain ⟨b172, hb172, g_27⟩ := bnd h
      obtain ⟨r172, M172, h172, g_28⟩ := bnd2 g_27
      refine J_callVI (pc := 172) (as := [vI (59 : Int32)]) (tX9_isSign (d := d)  h172) cf_X9_isSign cv_X9_isSign clF9 hb172 ml_RX9_375 (by omega) (Nat.le_of_ble_eq_true rfl) dX9_part_172 ?_
      refine J_ifeq (pc := 175) (tgt := 196) (by decide) dX9_part_175 (fun hc175 => ?_) (fun hc175 => ?_)
      · rw [if_pos hc175] at g_28
        refine J_aload_n (pc := 196) (q := 0) rfl rfl dX9_part_196 ?_
        refine J_bipush (pc := 197) (v := (41 : Int32)) (by decide) dX9_part_197 ?_
        obtain ⟨b199, hb199, g_29⟩ := bnd g_28
        obtain ⟨r199, M199, h199, g_30⟩ := bnd2 g_29
        refine J_callVI (pc := 199) (as := [vI (41 : Int32)]) (tX9_isSign (d := d)  h199) cf_X9_isSign cv_X9_isSign clF9 hb199 ml_RX9_375 (by omega) (Nat.le_of_ble_eq_true rfl) dX9_part_199 ?_
        refine J_ifeq (pc := 202) (tgt := 262) (by decide) dX9_part_202 (fun hc202 => ?_) (fun hc202 => ?_)
        · rw [if_pos hc202] at g_30
          refine J_aload_n (pc := 262) (q := 0) rfl rfl dX9_part_262 ?_
          obtain ⟨b263, hb263, g_31⟩ := bnd g_30
          obtain ⟨r263, M263, h263, g_32⟩ := bnd2 g_31
          refine J_callVI (pc := 263) (as := []) (tX9_signOf (d := d)  h263) cf_X9_signOf cv_X9_signOf clF9 hb263 ml_RX9_390 (by omega) (Nat.le_of_ble_eq_true rfl) dX9_part_263 ?_
          refine J_istore_n (pc := 266) rfl (by decide) (lv' := [(0, vR (some x0)), (1, vI x1), (2, vI x2), (3, vI r263)]) rfl dX9_part_266 ?_
          refine J_iload_n (pc := 267) (q := 3) rfl rfl dX9_part_267 ?_
          refine J_ifeq (pc := 268) (tgt := 292) (by decide) dX9_part_268 (fun hc268 => ?_) (fun hc268 => ?_)
          · rw [if_pos hc268] at g_32
            refine J_iconst (pc := 292) (v := (0 : Int32)) (by decide) dX9_part_292 ?_
            exact J_zret (pc := 293) (Or.inl rfl) (qi_of g_32) dX9_part_293
          · rw [if_neg hc268] at g_32
            refine J_aload_n (pc := 271) (q := 0) rfl rfl dX9_part_271 ?_
            refine J_iload_n (pc := 272) (q := 3) rfl rfl dX9_part_272 ?_
            obtain ⟨b273, hb273, g_33⟩ := bnd g_32
            obtain ⟨r273, M273, h273, g_34⟩ := bnd2 g_33
            refine J_callVI (pc := 273) (as := [vI r263]) (tX9_rank (d := d)  h273) cf_X9_rank cv_X9_rank clF9 hb273 ml_RX9_366 (by omega) (Nat.le_of_ble_eq_true rfl) dX9_part_273 ?_
            refine J_iconst (pc := 276) (v := (4 : Int32)) (by decide) dX9_part_276 ?_
            refine J_icne (pc := 277) (tgt := 294) (by decide) dX9_part_277 (fun hc277 => ?_) (fun hc277 => ?_)
            · rw [if_pos hc277] at g_34
              refine J_sub [0, 3] (lv' := [(0, vR (some x0)), (3, vI r263)]) rfl ?_
              exact jX9_part_b294 hk36 g_34
            · rw [if_neg hc277] at g_34
              refine J_aload_n (pc := 280) (q := 0) rfl rfl dX9_part_280 ?_
              obtain ⟨a281, h281, g_35⟩ := bnd g_34
              refine J_getR (pc := 281) (i := 37) clF9 (by decide) rfl fl_RX9_122 h281 dX9_part_281 ?_
              refine J_aload_n (pc := 284) (q := 0) rfl rfl dX9_part_284 ?_
              obtain ⟨a285, h285, g_36⟩ := bnd g_35
              refine J_getI (pc := 285) (i := 39) clF9 (by decide) rfl fl_RX9_128 h285 dX9_part_285 ?_
              obtain ⟨a288, h288, g_37⟩ := bnd g_36
              refine J_ald1 (pc := 288) h288 dX9_part_288 ?_
              refine J_ifeq (pc := 289) (tgt := 294) (by decide) dX9_part_289 (fun hc289 => ?_) (fun hc289 => ?_)
              · rw [if_pos hc289] at g_37
                refine J_sub [0, 3] (lv' := [(0, vR (some x0)), (3, vI r263)]) rfl ?_
                exact jX9_part_b294 hk36 g_37
              · rw [if_neg hc289] at g_37
                refine J_iconst (pc := 292) (v := (0 : Int32)) (by decide) dX9_part_292 ?_
                exact J_zret (pc := 293) (Or.inl rfl) (qi_of g_37) dX9_part_293
        · rw [if_neg hc202] at g_30
          refine J_aload_n (pc := 205) (q := 0) rfl rfl dX9_part_205 ?_
          obtain ⟨a206, h206, g_38⟩ := bnd g_30
          refine J_getI (pc := 206) (i := 39) clF9 (by decide) rfl fl_RX9_128 h206 dX9_part_206 ?_
          refine J_ifne (pc := 209) (tgt := 214) (by decide) dX9_part_209 (fun hc209 => ?_) (fun hc209 => ?_)
          · rw [if_pos hc209] at g_38
            refine J_aload_n (pc := 214) (q := 0) rfl rfl dX9_part_214 ?_
            refine J_iconst (pc := 215) (v := (1 : Int32)) (by decide) dX9_part_215 ?_
            obtain ⟨b216, hb216, g_39⟩ := bnd g_38
            obtain ⟨M216, h216, g_40⟩ := bnd g_39
            refine J_callVV (pc := 216) (as := [vI (1 : Int32)]) (tX9_settle (d := d)  h216) cf_X9_settle cv_X9_settle clF9 hb216 ml_RX9_384 (by omega) (Nat.le_of_ble_eq_true rfl) dX9_part_216 ?_
            refine J_aload_n (pc := 219) (q := 0) rfl rfl dX9_part_219 ?_
            refine J_dup (pc := 220) rfl dX9_part_220 ?_
            obtain ⟨a221, h221, g_41⟩ := bnd g_40
            refine J_getI (pc := 221) (i := 38) clF9 (by decide) rfl fl_RX9_125 h221 dX9_part_221 ?_
            refine J_iconst (pc := 224) (v := (1 : Int32)) (by decide) dX9_part_224 ?_
            refine J_isub (pc := 225) dX9_part_225 ?_
            obtain ⟨M226, h226, g_42⟩ := bnd g_41
            refine J_putI (pc := 226) (i := 38) clF9 (by decide) rfl fl_RX9_125 rfl rfl h226 dX9_part_226 ?_
            refine J_aload_n (pc := 229) (q := 0) rfl rfl dX9_part_229 ?_
            refine J_dup (pc := 230) rfl dX9_part_230 ?_
            obtain ⟨a231, h231, g_43⟩ := bnd g_42
            refine J_getI (pc := 231) (i := 40) clF9 (by decide) rfl fl_RX9_131 h231 dX9_part_231 ?_
            refine J_iconst (pc := 234) (v := (1 : Int32)) (by decide) dX9_part_234 ?_
            refine J_isub (pc := 235) dX9_part_235 ?_
            obtain ⟨M236, h236, g_44⟩ := bnd g_43
            refine J_putI (pc := 236) (i := 40) clF9 (by decide) rfl fl_RX9_131 rfl rfl h236 dX9_part_236 ?_
            refine J_aload_n (pc := 239) (q := 0) rfl rfl dX9_part_239 ?_
            refine J_dup (pc := 240) rfl dX9_part_240 ?_
            obtain ⟨a241, h241, g_45⟩ := bnd g_44
            refine J_getI (pc := 241) (i := 39) clF9 (by decide) rfl fl_RX9_128 h241 dX9_part_241 ?_
            refine J_iconst (pc := 244) (v := (1 : Int32)) (by decide) dX9_part_244 ?_
            refine J_isub (pc := 245) dX9_part_245 ?_
            obtain ⟨M246, h246, g_46⟩ := bnd g_45
            refine J_putI (pc := 246) (i := 39) clF9 (by decide) rfl fl_RX9_128 rfl rfl h246 dX9_part_246 ?_
            refine J_aload_n (pc := 249) (q := 0) rfl rfl dX9_part_249 ?_
            refine J_bipush (pc := 250) (v := (7 : Int32)) (by decide) dX9_part_250 ?_
            obtain ⟨b252, hb252, g_47⟩ := bnd g_46
            obtain ⟨M252, h252, g_48⟩ := bnd g_47
            refine J_callVV (pc := 252) (as := [vI (7 : Int32)]) (tX9_settle (d := d)  h252) cf_X9_settle cv_X9_settle clF9 hb252 ml_RX9_384 (by omega) (Nat.le_of_ble_eq_true rfl) dX9_part_252 ?_
            refine J_aload_n (pc := 255) (q := 0) rfl rfl dX9_part_255 ?_
            obtain ⟨b256, hb256, g_49⟩ := bnd g_48
            obtain ⟨M256, h256, g_50⟩ := bnd g_49
            refine J_callVV (pc := 256) (as := []) (tX9_next (d := d)  h256) cf_X9_next cv_X9_next clF9 hb256 ml_RX9_387 (by omega) (Nat.le_of_ble_eq_true rfl) dX9_part_256 ?_
            refine J_goto (pc := 259) (tgt := 36) (by decide) dX9_part_259 ?_
            exact hk36 _ _ _ g_50
          · rw [if_neg hc209] at g_38
            refine J_iconst (pc := 212) (v := (0 : Int32)) (by decide) dX9_part_212 ?_
            exact J_zret (pc := 213) (Or.inl rfl) (qi_of g_38) dX9_part_213
      · rw [if_neg hc175] at g_28
        refine J_aload_n (pc := 178) (q := 0) rfl rfl dX9_part_178 ?_
        refine J_iconst (pc := 179) (v := (1 : Int32)) (by decide) dX9_part_179 ?_
        obtain ⟨b180, hb180, g_51⟩ := bnd g_28
        obtain ⟨M180, h180, g_52⟩ := bnd g_51
        refine J_callVV (pc := 180) (as := [vI (1 : Int32)]) (tX9_settle (d := d)  h180) cf_X9_settle cv_X9_settle clF9 hb180 ml_RX9_384 (by omega) (Nat.le_of_ble_eq_true rfl) dX9_part_180 ?_
        refine J_aload_n (pc := 183) (q := 0) rfl rfl dX9_part_183 ?_
        obtain ⟨a184, h184, g_53⟩ := bnd g_52
        refine J_getI (pc := 184) (i := 39) clF9 (by decide) rfl fl_RX9_128 h184 dX9_part_184 ?_
        refine J_ifne (pc := 187) (tgt := 194) (by decide) dX9_part_187 (fun hc187 => ?_) (fun hc187 => ?_)
        · rw [if_pos hc187] at g_53
          refine J_iconst (pc := 194) (v := (0 : Int32)) (by decide) dX9_part_194 ?_
          exact J_zret (pc := 195) (Or.inl rfl) (qi_of g_53) dX9_part_195
        · rw [if_neg hc187] at g_53
          refine J_iconst (pc := 190) (v := (1 : Int32)) (by decide) dX9_part_190 ?_
          refine J_goto (pc := 191) (tgt := 195) (by decide) dX9_part_191 ?_
          exact J_zret (pc := 195) (Or.inr rfl) (qi_of g_53) dX9_part_195
    · rw [if_neg hc37] at h
      refine J_aload_n (pc := 40) (q := 0) rfl rfl dX9_part_40 ?_
      refine J_iload_n (pc := 41) (q := 2) rfl rfl dX9_part_41 ?_
      obtain ⟨b42, hb42, g_54⟩ := bnd h
      obtain ⟨r42, M42, h42, g_55⟩ := bnd2 g_54
      refine J_callVI (pc := 42) (as := [vI x2]) (tX9_ahead (d := d)  h42) cf_X9_ahead cv_X9_ahead clF9 hb42 ml_RX9_378 (by omega) (Nat.le_of_ble_eq_true rfl) dX9_part_42 ?_
      refine J_ifne (pc := 45) (tgt := 50) (by decide) dX9_part_45 (fun hc45 => ?_) (fun hc45 => ?_)
      · rw [if_pos hc45] at g_55
        refine J_aload_n (pc := 50) (q := 0) rfl rfl dX9_part_50 ?_
        refine J_iconst (pc := 51) (v := (4 : Int32)) (by decide) dX9_part_51 ?_
        obtain ⟨b52, hb52, g_56⟩ := bnd g_55
        obtain ⟨r52, M52, h52, g_57⟩ := bnd2 g_56
        refine J_callVI (pc := 52) (as := [vI (4 : Int32)]) (tX9_isKey (d := d)  h52) cf_X9_isKey cv_X9_isKey clF9 hb52 ml_RX9_372 (by omega) (Nat.le_of_ble_eq_true rfl) dX9_part_52 ?_
        refine J_ifeq (pc := 55) (tgt := 67) (by decide) dX9_part_55 (fun hc55 => ?_) (fun hc55 => ?_)
        · rw [if_pos hc55] at g_57
          refine J_aload_n (pc := 67) (q := 0) rfl rfl dX9_part_67 ?_
          refine J_bipush (pc := 68) (v := (45 : Int32)) (by decide) dX9_part_68 ?_
          obtain ⟨b70, hb70, g_58⟩ := bnd g_57
          obtain ⟨r70, M70, h70, g_59⟩ := bnd2 g_58
          refine J_callVI (pc := 70) (as := [vI (45 : Int32)]) (tX9_isSign (d := d)  h70) cf_X9_isSign cv_X9_isSign clF9 hb70 ml_RX9_375 (by omega) (Nat.le_of_ble_eq_true rfl) dX9_part_70 ?_
          refine J_ifeq (pc := 73) (tgt := 87) (by decide) dX9_part_73 (fun hc73 => ?_) (fun hc73 => ?_)
          · rw [if_pos hc73] at g_59
            refine J_aload_n (pc := 87) (q := 0) rfl rfl dX9_part_87 ?_
            refine J_bipush (pc := 88) (v := (40 : Int32)) (by decide) dX9_part_88 ?_
            obtain ⟨b90, hb90, g_60⟩ := bnd g_59
            obtain ⟨r90, M90, h90, g_61⟩ := bnd2 g_60
            refine J_callVI (pc := 90) (as := [vI (40 : Int32)]) (tX9_isSign (d := d)  h90) cf_X9_isSign cv_X9_isSign clF9 hb90 ml_RX9_375 (by omega) (Nat.le_of_ble_eq_true rfl) dX9_part_90 ?_
            refine J_ifeq (pc := 93) (tgt := 127) (by decide) dX9_part_93 (fun hc93 => ?_) (fun hc93 => ?_)
            · rw [if_pos hc93] at g_61
              refine J_aload_n (pc := 127) (q := 0) rfl rfl dX9_part_127 ?_
              refine J_aload_n (pc := 128) (q := 0) rfl rfl dX9_part_128 ?_
              obtain ⟨a129, h129, g_62⟩ := bnd g_61
              refine J_getI (pc := 129) (i := 33) clF9 (by decide) rfl fl_RX9_110 h129 dX9_part_129 ?_
              refine J_iconst (pc := 132) (v := (1 : Int32)) (by decide) dX9_part_132 ?_
              refine J_icne (pc := 133) (tgt := 143) (by decide) dX9_part_133 (fun hc133 => ?_) (fun hc133 => ?_)
              · rw [if_pos hc133] at g_62
                refine J_sipush (pc := 143) (v := (10000 : Int32)) (by decide) dX9_part_143 ?_
                refine J_aload_n (pc := 146) (q := 0) rfl rfl dX9_part_146 ?_
                obtain ⟨a147, h147, g_63⟩ := bnd g_62
                refine J_getI (pc := 147) (i := 34) clF9 (by decide) rfl fl_RX9_113 h147 dX9_part_147 ?_
                refine J_iadd (pc := 150) dX9_part_150 ?_
                refine J_sub [0, 2] (lv' := [(0, vR (some x0)), (2, vI x2)]) rfl ?_
                exact jX9_part_b151 hk36 g_63
              · rw [if_neg hc133] at g_62
                refine J_aload_n (pc := 136) (q := 0) rfl rfl dX9_part_136 ?_
                obtain ⟨a137, h137, g_64⟩ := bnd g_62
                refine J_getI (pc := 137) (i := 34) clF9 (by decide) rfl fl_RX9_113 h137 dX9_part_137 ?_
                refine J_goto (pc := 140) (tgt := 151) (by decide) dX9_part_140 ?_
                refine J_sub [0, 2] (lv' := [(0, vR (some x0)), (2, vI x2)]) rfl ?_
                exact jX9_part_b151 hk36 g_64
            · rw [if_neg hc93] at g_61
              refine J_aload_n (pc := 96) (q := 0) rfl rfl dX9_part_96 ?_
              refine J_bipush (pc := 97) (v := (-10 : Int32)) (by decide) dX9_part_97 ?_
              obtain ⟨b99, hb99, g_65⟩ := bnd g_61
              obtain ⟨M99, h99, g_66⟩ := bnd g_65
              refine J_callVV (pc := 99) (as := [vI (-10 : Int32)]) (tX9_hold (d := d)  h99) cf_X9_hold cv_X9_hold clF9 hb99 ml_RX9_381 (by omega) (Nat.le_of_ble_eq_true rfl) dX9_part_99 ?_
              refine J_aload_n (pc := 102) (q := 0) rfl rfl dX9_part_102 ?_
              refine J_dup (pc := 103) rfl dX9_part_103 ?_
              obtain ⟨a104, h104, g_67⟩ := bnd g_66
              refine J_getI (pc := 104) (i := 39) clF9 (by decide) rfl fl_RX9_128 h104 dX9_part_104 ?_
              refine J_iconst (pc := 107) (v := (1 : Int32)) (by decide) dX9_part_107 ?_
              refine J_iadd (pc := 108) dX9_part_108 ?_
              obtain ⟨M109, h109, g_68⟩ := bnd g_67
              refine J_putI (pc := 109) (i := 39) clF9 (by decide) rfl fl_RX9_128 rfl rfl h109 dX9_part_109 ?_
              refine J_aload_n (pc := 112) (q := 0) rfl rfl dX9_part_112 ?_
              obtain ⟨a113, h113, g_69⟩ := bnd g_68
              refine J_getR (pc := 113) (i := 37) clF9 (by decide) rfl fl_RX9_122 h113 dX9_part_113 ?_
              refine J_aload_n (pc := 116) (q := 0) rfl rfl dX9_part_116 ?_
              obtain ⟨a117, h117, g_70⟩ := bnd g_69
              refine J_getI (pc := 117) (i := 39) clF9 (by decide) rfl fl_RX9_128 h117 dX9_part_117 ?_
              refine J_iconst (pc := 120) (v := (0 : Int32)) (by decide) dX9_part_120 ?_
              obtain ⟨M121, h121, g_71⟩ := bnd g_70
              refine J_ast1 (pc := 121) h121 dX9_part_121 ?_
              refine J_iconst (pc := 122) (v := (1 : Int32)) (by decide) dX9_part_122 ?_
              refine J_istore_n (pc := 123) rfl (by decide) (lv' := [(0, vR (some x0)), (1, vI x1), (2, vI (1 : Int32))]) rfl dX9_part_123 ?_
              refine J_goto (pc := 124) (tgt := 162) (by decide) dX9_part_124 ?_
              exact jX9_part_b162 hk36 g_71
          · rw [if_neg hc73] at g_59
            refine J_aload_n (pc := 76) (q := 0) rfl rfl dX9_part_76 ?_
            refine J_bipush (pc := 77) (v := (-9 : Int32)) (by decide) dX9_part_77 ?_
            obtain ⟨b79, hb79, g_72⟩ := bnd g_59
            obtain ⟨M79, h79, g_73⟩ := bnd g_72
            refine J_callVV (pc := 79) (as := [vI (-9 : Int32)]) (tX9_hold (d := d)  h79) cf_X9_hold cv_X9_hold clF9 hb79 ml_RX9_381 (by omega) (Nat.le_of_ble_eq_true rfl) dX9_part_79 ?_
            refine J_iconst (pc := 82) (v := (0 : Int32)) (by decide) dX9_part_82 ?_
            refine J_istore_n (pc := 83) rfl (by decide) (lv' := [(0, vR (some x0)), (1, vI x1), (2, vI (0 : Int32))]) rfl dX9_part_83 ?_
            refine J_goto (pc := 84) (tgt := 162) (by decide) dX9_part_84 ?_
            exact jX9_part_b162 hk36 g_73
        · rw [if_neg hc55] at g_57
          refine J_aload_n (pc := 58) (q := 0) rfl rfl dX9_part_58 ?_
          refine J_bipush (pc := 59) (v := (-3 : Int32)) (by decide) dX9_part_59 ?_
          obtain ⟨b61, hb61, g_74⟩ := bnd g_57
          obtain ⟨M61, h61, g_75⟩ := bnd g_74
          refine J_callVV (pc := 61) (as := [vI (-3 : Int32)]) (tX9_hold (d := d)  h61) cf_X9_hold cv_X9_hold clF9 hb61 ml_RX9_381 (by omega) (Nat.le_of_ble_eq_true rfl) dX9_part_61 ?_
          refine J_goto (pc := 64) (tgt := 162) (by decide) dX9_part_64 ?_
          exact jX9_part_b162 hk36 g_75
      · rw [if_neg hc45] at g_55
        refine J_iconst (pc := 48) (v := (0 : Int32)) (by decide) dX9_part_48 ?_
        exact J_zret (pc := 49) (Or.inl rfl) (qi_of g_55) dX9_part_49
set_option maxHeartbeats 4000000 in
set_option maxRecDepth 100000 in
theorem tX9_part {ad : Nat → Nat} {ca : Nat → ClassId} {D : va_G} {FU d : Nat} {r : Int32} {N : Mem}  {x0 : Nat} {M : Mem}  (h : fX9_part FU  x0 M = some (r, N)) : Ct ad ca D yX9_part cX9_part 4 (some .boolean) (d + 3) [vR (some x0)] M (QI r N) := by
  refine Ct_of (by decide) (Nat.le_of_ble_eq_true rfl) ?_
  show J ad ca D cX9_part RX9 4 (d + 3) (Gt ad ca D (some .boolean) (QI r N)) 0 [(0, vR (some x0))] [] M
  unfold fX9_part at h
  refine J_aload_n (pc := 0) (q := 0) rfl rfl dX9_part_0 ?_
  refine J_iconst (pc := 1) (v := (0 : Int32)) (by decide) dX9_part_1 ?_
  obtain ⟨M2, h2, g_76⟩ := bnd h
  refine J_putI (pc := 2) (i := 38) clF9 (by decide) rfl fl_RX9_125 rfl rfl h2 dX9_part_2 ?_
  refine J_aload_n (pc := 5) (q := 0) rfl rfl dX9_part_5 ?_
  refine J_iconst (pc := 6) (v := (0 : Int32)) (by decide) dX9_part_6 ?_
  obtain ⟨M7, h7, g_77⟩ := bnd g_76
  refine J_putI (pc := 7) (i := 39) clF9 (by decide) rfl fl_RX9_128 rfl rfl h7 dX9_part_7 ?_
  refine J_aload_n (pc := 10) (q := 0) rfl rfl dX9_part_10 ?_
  refine J_iconst (pc := 11) (v := (0 : Int32)) (by decide) dX9_part_11 ?_
  obtain ⟨M12, h12, g_78⟩ := bnd g_77
  refine J_putI (pc := 12) (i := 40) clF9 (by decide) rfl fl_RX9_131 rfl rfl h12 dX9_part_12 ?_
  refine J_aload_n (pc := 15) (q := 0) rfl rfl dX9_part_15 ?_
  obtain ⟨a16, h16, g_79⟩ := bnd g_78
  refine J_getR (pc := 16) (i := 30) clF9 (by decide) rfl fl_RX9_101 h16 dX9_part_16 ?_
  refine J_aload_n (pc := 19) (q := 0) rfl rfl dX9_part_19 ?_
  obtain ⟨a20, h20, g_80⟩ := bnd g_79
  refine J_getI (pc := 20) (i := 41) clF9 (by decide) rfl fl_RX9_134 h20 dX9_part_20 ?_
  refine J_iconst (pc := 23) (v := (0 : Int32)) (by decide) dX9_part_23 ?_
  obtain ⟨M24, h24, g_81⟩ := bnd g_80
  refine J_ast0 (pc := 24) h24 dX9_part_24 ?_
  refine J_aload_n (pc := 25) (q := 0) rfl rfl dX9_part_25 ?_
  obtain ⟨a26, h26, g_82⟩ := bnd g_81
  refine J_getR (pc := 26) (i := 37) clF9 (by decide) rfl fl_RX9_122 h26 dX9_part_26 ?_
  refine J_iconst (pc := 29) (v := (0 : Int32)) (by decide) dX9_part_29 ?_
  refine J_iconst (pc := 30) (v := (0 : Int32)) (by decide) dX9_part_30 ?_
  obtain ⟨M31, h31, g_83⟩ := bnd g_82
  refine J_ast1 (pc := 31) h31 dX9_part_31 ?_
  refine J_iconst (pc := 32) (v := (1 : Int32)) (by decide) dX9_part_32 ?_
  refine J_istore_n (pc := 33) rfl (by decide) (lv' := [(0, vR (some x0)), (1, vI (1 : Int32))]) rfl dX9_part_33 ?_
  refine J_iconst (pc := 34) (v := (1 : Int32)) (by decide) dX9_part_34 ?_
  refine J_istore_n (pc := 35) rfl (by decide) (lv' := [(0, vR (some x0)), (1, vI (1 : Int32)), (2, vI (1 : Int32))]) rfl dX9_part_35 ?_
  exact jX9_part_L36  FU _ _ _ g_83
