set_option maxHeartbeats 4000000 in
set_option maxRecDepth 100000 in
theorem jX8_solvedStandings_b31 {ad : Nat → Nat} {ca : Nat → ClassId} {D : va_G} {FU d : Nat} {r : Option Nat} {N : Mem}   {x0 : Nat} {M : Mem}   (h : fX8_solvedStandings_b31 FU  x0 M = some (r, N)) : J ad ca D cX8_solvedStandings RX8 1 (d + 5) (Gt ad ca D (some (.object "WolfVillage$Standings")) (QR r N)) 31 [(0, vR (some x0))] [] M := by
  unfold fX8_solvedStandings_b31 at h
  refine J_aload_n (pc := 31) (q := 0) rfl rfl dX8_solvedStandings_31 ?_
  obtain ⟨a32, h32, g_1⟩ := bnd h
  refine J_getR (pc := 32) (i := 2) clF8 (by decide) rfl fl_RX8_12 h32 dX8_solvedStandings_32 ?_
  refine J_aload_n (pc := 35) (q := 0) rfl rfl dX8_solvedStandings_35 ?_
  obtain ⟨a36, h36, g_2⟩ := bnd g_1
  refine J_getR (pc := 36) (i := 0) clF8 (by decide) rfl fl_RX8_68 h36 dX8_solvedStandings_36 ?_
  obtain ⟨b39, hb39, g_3⟩ := bnd g_2
  obtain ⟨M39, h39, g_4⟩ := bnd g_3
  refine J_callVV (pc := 39) (as := [vR a36]) (tX6_solve (d := d)  h39) cf_X6_solve cv_X6_solve clF6 hb39 ml_RX8_163 (by omega) (Nat.le_of_ble_eq_true rfl) dX8_solvedStandings_39 ?_
  refine J_aload_n (pc := 42) (q := 0) rfl rfl dX8_solvedStandings_42 ?_
  obtain ⟨a43, h43, g_5⟩ := bnd g_4
  refine J_getR (pc := 43) (i := 2) clF8 (by decide) rfl fl_RX8_12 h43 dX8_solvedStandings_43 ?_
  exact J_aret (pc := 46) (qr_of g_5) dX8_solvedStandings_46
set_option maxHeartbeats 4000000 in
set_option maxRecDepth 100000 in
theorem tX8_solvedStandings {ad : Nat → Nat} {ca : Nat → ClassId} {D : va_G} {FU d : Nat} {r : Option Nat} {N : Mem}  {x0 : Nat} {M : Mem}  (h : fX8_solvedStandings FU  x0 M = some (r, N)) : Ct ad ca D yX8_solvedStandings cX8_solvedStandings 1 (some (.object "WolfVillage$Standings")) (d + 5) [vR (some x0)] M (QR r N) := by
  refine Ct_of (by decide) (Nat.le_of_ble_eq_true rfl) ?_
  show J ad ca D cX8_solvedStandings RX8 1 (d + 5) (Gt ad ca D (some (.object "WolfVillage$Standings")) (QR r N)) 0 [(0, vR (some x0))] [] M
  unfold fX8_solvedStandings at h
  refine J_aload_n (pc := 0) (q := 0) rfl rfl dX8_solvedStandings_0 ?_
  obtain ⟨a1, h1, g_6⟩ := bnd h
  refine J_getR (pc := 1) (i := 2) clF8 (by decide) rfl fl_RX8_12 h1 dX8_solvedStandings_1 ?_
  obtain ⟨a4, h4, g_7⟩ := bnd g_6
  refine J_getR (pc := 4) (i := 0) clF6 (by decide) rfl fl_RX8_161 h4 dX8_solvedStandings_4 ?_
  refine J_aload_n (pc := 7) (q := 0) rfl rfl dX8_solvedStandings_7 ?_
  obtain ⟨a8, h8, g_8⟩ := bnd g_7
  refine J_getR (pc := 8) (i := 0) clF8 (by decide) rfl fl_RX8_68 h8 dX8_solvedStandings_8 ?_
  obtain ⟨ho11, g_9⟩ := grd g_8
  refine J_acne (pc := 11) ho11.1 ho11.2 (tgt := 31) (by decide) dX8_solvedStandings_11 (fun hc11 => ?_) (fun hc11 => ?_)
  · rw [if_pos hc11] at g_9
    exact jX8_solvedStandings_b31  g_9
  · rw [if_neg hc11] at g_9
    refine J_aload_n (pc := 14) (q := 0) rfl rfl dX8_solvedStandings_14 ?_
    obtain ⟨a15, h15, g_10⟩ := bnd g_9
    refine J_getR (pc := 15) (i := 2) clF8 (by decide) rfl fl_RX8_12 h15 dX8_solvedStandings_15 ?_
    obtain ⟨a18, h18, g_11⟩ := bnd g_10
    refine J_getI (pc := 18) (i := 1) clF6 (by decide) rfl fl_RX8_162 h18 dX8_solvedStandings_18 ?_
    refine J_aload_n (pc := 21) (q := 0) rfl rfl dX8_solvedStandings_21 ?_
    obtain ⟨a22, h22, g_12⟩ := bnd g_11
    refine J_getR (pc := 22) (i := 0) clF8 (by decide) rfl fl_RX8_68 h22 dX8_solvedStandings_22 ?_
    obtain ⟨a25, h25, g_13⟩ := bnd g_12
    refine J_getI (pc := 25) (i := 12) clF3 (by decide) rfl fl_RX8_125 h25 dX8_solvedStandings_25 ?_
    refine J_iceq (pc := 28) (tgt := 42) (by decide) dX8_solvedStandings_28 (fun hc28 => ?_) (fun hc28 => ?_)
    · rw [if_pos hc28] at g_13
      refine J_aload_n (pc := 42) (q := 0) rfl rfl dX8_solvedStandings_42 ?_
      obtain ⟨a43, h43, g_14⟩ := bnd g_13
      refine J_getR (pc := 43) (i := 2) clF8 (by decide) rfl fl_RX8_12 h43 dX8_solvedStandings_43 ?_
      exact J_aret (pc := 46) (qr_of g_14) dX8_solvedStandings_46
    · rw [if_neg hc28] at g_13
      exact jX8_solvedStandings_b31  g_13
set_option maxHeartbeats 4000000 in
set_option maxRecDepth 100000 in
theorem tX8_length {ad : Nat → Nat} {ca : Nat → ClassId} {D : va_G} {FU d : Nat} {r : Int32} {N : Mem}  {x0 : Nat} {x1 : Int32} {x2 : Int32} {x3 : Int32} {x4 : Int32} {x5 : Int32} {M : Mem}  (h : fX8_length FU  x0 x1 x2 x3 x4 x5 M = some (r, N)) : Ct ad ca D yX8_length cX8_length 7 (some .int) (d + 6) [vR (some x0), vI x1, vI x2, vI x3, vI x4, vI x5] M (QI r N) := by
  refine Ct_of (by decide) (Nat.le_of_ble_eq_true rfl) ?_
  show J ad ca D cX8_length RX8 7 (d + 6) (Gt ad ca D (some .int) (QI r N)) 0 [(0, vR (some x0)), (1, vI x1), (2, vI x2), (3, vI x3), (4, vI x4), (5, vI x5)] [] M
  unfold fX8_length at h
  refine J_aload_n (pc := 0) (q := 0) rfl rfl dX8_length_0 ?_
  refine J_iload_n (pc := 1) (q := 1) rfl rfl dX8_length_1 ?_
  refine J_iload_n (pc := 2) (q := 2) rfl rfl dX8_length_2 ?_
  refine J_iload_n (pc := 3) (q := 3) rfl rfl dX8_length_3 ?_
  refine J_iload (pc := 4) (q := 4) rfl dX8_length_4 ?_
  refine J_iload (pc := 6) (q := 5) rfl dX8_length_6 ?_
  obtain ⟨b8, hb8, g_1⟩ := bnd h
  obtain ⟨r8, M8, h8, g_2⟩ := bnd2 g_1
  refine J_callVI (pc := 8) (as := [vI x1, vI x2, vI x3, vI x4, vI x5]) (tX8_standingOf (d := d)  h8) cf_X8_standingOf cv_X8_standingOf clF8 hb8 ml_RX8_128 (by omega) (Nat.le_of_ble_eq_true rfl) dX8_length_8 ?_
  refine J_istore (pc := 11) (by decide) (lv' := [(0, vR (some x0)), (1, vI x1), (2, vI x2), (3, vI x3), (4, vI x4), (5, vI x5), (6, vI r8)]) rfl dX8_length_11 ?_
  refine J_iload (pc := 13) (q := 6) rfl dX8_length_13 ?_
  refine J_ifge (pc := 15) (tgt := 23) (by decide) dX8_length_15 (fun hc15 => ?_) (fun hc15 => ?_)
  · rw [if_pos hc15] at g_2
    refine J_aload_n (pc := 23) (q := 0) rfl rfl dX8_length_23 ?_
    obtain ⟨b24, hb24, g_3⟩ := bnd g_2
    obtain ⟨r24, M24, h24, g_4⟩ := bnd2 g_3
    refine J_callVR (pc := 24) (as := []) (tX8_solvedStandings (d := d)  h24) cf_X8_solvedStandings cv_X8_solvedStandings clF8 hb24 ml_RX8_132 (by omega) (Nat.le_of_ble_eq_true rfl) dX8_length_24 ?_
    obtain ⟨a27, h27, g_5⟩ := bnd g_4
    refine J_getR (pc := 27) (i := 5) clF6 (by decide) rfl fl_RX8_136 h27 dX8_length_27 ?_
    refine J_iload (pc := 30) (q := 6) rfl dX8_length_30 ?_
    obtain ⟨a32, h32, g_6⟩ := bnd g_5
    refine J_ald0 (pc := 32) h32 dX8_length_32 ?_
    exact J_iret (pc := 33) (qi_of g_6) dX8_length_33
  · rw [if_neg hc15] at g_2
    refine J_bipush (pc := 18) (v := (-2 : Int32)) (by decide) dX8_length_18 ?_
    refine J_goto (pc := 20) (tgt := 33) (by decide) dX8_length_20 ?_
    exact J_iret (pc := 33) (qi_of g_2) dX8_length_33
set_option maxHeartbeats 4000000 in
set_option maxRecDepth 100000 in
theorem tX8_best {ad : Nat → Nat} {ca : Nat → ClassId} {D : va_G} {FU d : Nat} {r : Int32} {N : Mem}  {x0 : Nat} {x1 : Int32} {x2 : Int32} {x3 : Int32} {x4 : Int32} {x5 : Int32} {M : Mem}  (h : fX8_best FU  x0 x1 x2 x3 x4 x5 M = some (r, N)) : Ct ad ca D yX8_best cX8_best 7 (some .int) (d + 6) [vR (some x0), vI x1, vI x2, vI x3, vI x4, vI x5] M (QI r N) := by
  refine Ct_of (by decide) (Nat.le_of_ble_eq_true rfl) ?_
  show J ad ca D cX8_best RX8 7 (d + 6) (Gt ad ca D (some .int) (QI r N)) 0 [(0, vR (some x0)), (1, vI x1), (2, vI x2), (3, vI x3), (4, vI x4), (5, vI x5)] [] M
  unfold fX8_best at h
  refine J_aload_n (pc := 0) (q := 0) rfl rfl dX8_best_0 ?_
  refine J_iload_n (pc := 1) (q := 1) rfl rfl dX8_best_1 ?_
  refine J_iload_n (pc := 2) (q := 2) rfl rfl dX8_best_2 ?_
  refine J_iload_n (pc := 3) (q := 3) rfl rfl dX8_best_3 ?_
  refine J_iload (pc := 4) (q := 4) rfl dX8_best_4 ?_
  refine J_iload (pc := 6) (q := 5) rfl dX8_best_6 ?_
  obtain ⟨b8, hb8, g_1⟩ := bnd h
  obtain ⟨r8, M8, h8, g_2⟩ := bnd2 g_1
  refine J_callVI (pc := 8) (as := [vI x1, vI x2, vI x3, vI x4, vI x5]) (tX8_standingOf (d := d)  h8) cf_X8_standingOf cv_X8_standingOf clF8 hb8 ml_RX8_128 (by omega) (Nat.le_of_ble_eq_true rfl) dX8_best_8 ?_
  refine J_istore (pc := 11) (by decide) (lv' := [(0, vR (some x0)), (1, vI x1), (2, vI x2), (3, vI x3), (4, vI x4), (5, vI x5), (6, vI r8)]) rfl dX8_best_11 ?_
  refine J_iload (pc := 13) (q := 6) rfl dX8_best_13 ?_
  refine J_ifge (pc := 15) (tgt := 23) (by decide) dX8_best_15 (fun hc15 => ?_) (fun hc15 => ?_)
  · rw [if_pos hc15] at g_2
    refine J_aload_n (pc := 23) (q := 0) rfl rfl dX8_best_23 ?_
    obtain ⟨b24, hb24, g_3⟩ := bnd g_2
    obtain ⟨r24, M24, h24, g_4⟩ := bnd2 g_3
    refine J_callVR (pc := 24) (as := []) (tX8_solvedStandings (d := d)  h24) cf_X8_solvedStandings cv_X8_solvedStandings clF8 hb24 ml_RX8_132 (by omega) (Nat.le_of_ble_eq_true rfl) dX8_best_24 ?_
    refine J_iload (pc := 27) (q := 6) rfl dX8_best_27 ?_
    obtain ⟨b29, hb29, g_5⟩ := bnd g_4
    obtain ⟨r29, M29, h29, g_6⟩ := bnd2 g_5
    refine J_callVI (pc := 29) (as := [vI r8]) (tX6_bestMove (d := d)  h29) cf_X6_bestMove cv_X6_bestMove clF6 hb29 ml_RX8_139 (by omega) (Nat.le_of_ble_eq_true rfl) dX8_best_29 ?_
    exact J_iret (pc := 32) (qi_of g_6) dX8_best_32
  · rw [if_neg hc15] at g_2
    refine J_bipush (pc := 18) (v := (-2 : Int32)) (by decide) dX8_best_18 ?_
    refine J_goto (pc := 20) (tgt := 32) (by decide) dX8_best_20 ?_
    exact J_iret (pc := 32) (qi_of g_2) dX8_best_32
set_option maxHeartbeats 4000000 in
set_option maxRecDepth 100000 in
theorem tX8_moves {ad : Nat → Nat} {ca : Nat → ClassId} {D : va_G} {FU d : Nat} {r : Int32} {N : Mem}  {x0 : Nat} {x1 : Int32} {x2 : Int32} {x3 : Int32} {x4 : Int32} {x5 : Int32} {M : Mem}  (h : fX8_moves FU  x0 x1 x2 x3 x4 x5 M = some (r, N)) : Ct ad ca D yX8_moves cX8_moves 7 (some .int) (d + 6) [vR (some x0), vI x1, vI x2, vI x3, vI x4, vI x5] M (QI r N) := by
  refine Ct_of (by decide) (Nat.le_of_ble_eq_true rfl) ?_
  show J ad ca D cX8_moves RX8 7 (d + 6) (Gt ad ca D (some .int) (QI r N)) 0 [(0, vR (some x0)), (1, vI x1), (2, vI x2), (3, vI x3), (4, vI x4), (5, vI x5)] [] M
  unfold fX8_moves at h
  refine J_aload_n (pc := 0) (q := 0) rfl rfl dX8_moves_0 ?_
  refine J_iload_n (pc := 1) (q := 1) rfl rfl dX8_moves_1 ?_
  refine J_iload_n (pc := 2) (q := 2) rfl rfl dX8_moves_2 ?_
  refine J_iload_n (pc := 3) (q := 3) rfl rfl dX8_moves_3 ?_
  refine J_iload (pc := 4) (q := 4) rfl dX8_moves_4 ?_
  refine J_iload (pc := 6) (q := 5) rfl dX8_moves_6 ?_
  obtain ⟨b8, hb8, g_1⟩ := bnd h
  obtain ⟨r8, M8, h8, g_2⟩ := bnd2 g_1
  refine J_callVI (pc := 8) (as := [vI x1, vI x2, vI x3, vI x4, vI x5]) (tX8_standingOf (d := d)  h8) cf_X8_standingOf cv_X8_standingOf clF8 hb8 ml_RX8_128 (by omega) (Nat.le_of_ble_eq_true rfl) dX8_moves_8 ?_
  refine J_istore (pc := 11) (by decide) (lv' := [(0, vR (some x0)), (1, vI x1), (2, vI x2), (3, vI x3), (4, vI x4), (5, vI x5), (6, vI r8)]) rfl dX8_moves_11 ?_
  refine J_iload (pc := 13) (q := 6) rfl dX8_moves_13 ?_
  refine J_ifge (pc := 15) (tgt := 23) (by decide) dX8_moves_15 (fun hc15 => ?_) (fun hc15 => ?_)
  · rw [if_pos hc15] at g_2
    refine J_aload_n (pc := 23) (q := 0) rfl rfl dX8_moves_23 ?_
    obtain ⟨b24, hb24, g_3⟩ := bnd g_2
    obtain ⟨r24, M24, h24, g_4⟩ := bnd2 g_3
    refine J_callVR (pc := 24) (as := []) (tX8_solvedStandings (d := d)  h24) cf_X8_solvedStandings cv_X8_solvedStandings clF8 hb24 ml_RX8_132 (by omega) (Nat.le_of_ble_eq_true rfl) dX8_moves_24 ?_
    refine J_iload (pc := 27) (q := 6) rfl dX8_moves_27 ?_
    obtain ⟨b29, hb29, g_5⟩ := bnd g_4
    obtain ⟨r29, M29, h29, g_6⟩ := bnd2 g_5
    refine J_callVI (pc := 29) (as := [vI r8]) (tX6_moveCount (d := d)  h29) cf_X6_moveCount cv_X6_moveCount clF6 hb29 ml_RX8_143 (by omega) (Nat.le_of_ble_eq_true rfl) dX8_moves_29 ?_
    exact J_iret (pc := 32) (qi_of g_6) dX8_moves_32
  · rw [if_neg hc15] at g_2
    refine J_bipush (pc := 18) (v := (-2 : Int32)) (by decide) dX8_moves_18 ?_
    refine J_goto (pc := 20) (tgt := 32) (by decide) dX8_moves_20 ?_
    exact J_iret (pc := 32) (qi_of g_2) dX8_moves_32
set_option maxHeartbeats 4000000 in
set_option maxRecDepth 100000 in
theorem tX8_solved {ad : Nat → Nat} {ca : Nat → ClassId} {D : va_G} {FU d : Nat} {r : Int32} {N : Mem}  {x0 : Nat} {x1 : Int32} {M : Mem}  (h : fX8_solved FU  x0 x1 M = some (r, N)) : Ct ad ca D yX8_solved cX8_solved 2 (some .int) (d + 6) [vR (some x0), vI x1] M (QI r N) := by
  refine Ct_of (by decide) (Nat.le_of_ble_eq_true rfl) ?_
  show J ad ca D cX8_solved RX8 2 (d + 6) (Gt ad ca D (some .int) (QI r N)) 0 [(0, vR (some x0)), (1, vI x1)] [] M
  unfold fX8_solved at h
  refine J_iload_n (pc := 0) (q := 1) rfl rfl dX8_solved_0 ?_
  by_cases hc1_0 : x1 = (0 : Int32)
  · rw [if_pos hc1_0] at h
    refine J_tin (pc := 1) (tgt := 28) (off := (27)) (by rw [hc1_0]; decide) (by rw [hc1_0]; decide) (by rw [hc1_0]; decide) (by decide) dX8_solved_1 ?_
    refine J_aload_n (pc := 28) (q := 0) rfl rfl dX8_solved_28 ?_
    obtain ⟨b29, hb29, g_1⟩ := bnd h
    obtain ⟨r29, M29, h29, g_2⟩ := bnd2 g_1
    refine J_callVR (pc := 29) (as := []) (tX8_solvedStandings (d := d)  h29) cf_X8_solvedStandings cv_X8_solvedStandings clF8 hb29 ml_RX8_132 (by omega) (Nat.le_of_ble_eq_true rfl) dX8_solved_29 ?_
    obtain ⟨a32, h32, g_3⟩ := bnd g_2
    refine J_getI (pc := 32) (i := 2) clF6 (by decide) rfl fl_RX8_146 h32 dX8_solved_32 ?_
    exact J_iret (pc := 35) (qi_of g_3) dX8_solved_35
  rw [if_neg hc1_0] at h
  by_cases hc1_1 : x1 = (1 : Int32)
  · rw [if_pos hc1_1] at h
    refine J_tin (pc := 1) (tgt := 36) (off := (35)) (by rw [hc1_1]; decide) (by rw [hc1_1]; decide) (by rw [hc1_1]; decide) (by decide) dX8_solved_1 ?_
    refine J_aload_n (pc := 36) (q := 0) rfl rfl dX8_solved_36 ?_
    obtain ⟨b37, hb37, g_4⟩ := bnd h
    obtain ⟨r37, M37, h37, g_5⟩ := bnd2 g_4
    refine J_callVR (pc := 37) (as := []) (tX8_solvedStandings (d := d)  h37) cf_X8_solvedStandings cv_X8_solvedStandings clF8 hb37 ml_RX8_132 (by omega) (Nat.le_of_ble_eq_true rfl) dX8_solved_37 ?_
    obtain ⟨a40, h40, g_6⟩ := bnd g_5
    refine J_getI (pc := 40) (i := 3) clF6 (by decide) rfl fl_RX8_149 h40 dX8_solved_40 ?_
    exact J_iret (pc := 43) (qi_of g_6) dX8_solved_43
  rw [if_neg hc1_1] at h
  by_cases hc1_2 : x1 = (2 : Int32)
  · rw [if_pos hc1_2] at h
    refine J_tin (pc := 1) (tgt := 44) (off := (43)) (by rw [hc1_2]; decide) (by rw [hc1_2]; decide) (by rw [hc1_2]; decide) (by decide) dX8_solved_1 ?_
    refine J_aload_n (pc := 44) (q := 0) rfl rfl dX8_solved_44 ?_
    obtain ⟨b45, hb45, g_7⟩ := bnd h
    obtain ⟨r45, M45, h45, g_8⟩ := bnd2 g_7
    refine J_callVR (pc := 45) (as := []) (tX8_solvedStandings (d := d)  h45) cf_X8_solvedStandings cv_X8_solvedStandings clF8 hb45 ml_RX8_132 (by omega) (Nat.le_of_ble_eq_true rfl) dX8_solved_45 ?_
    obtain ⟨a48, h48, g_9⟩ := bnd g_8
    refine J_getI (pc := 48) (i := 4) clF6 (by decide) rfl fl_RX8_152 h48 dX8_solved_48 ?_
    exact J_iret (pc := 51) (qi_of g_9) dX8_solved_51
  rw [if_neg hc1_2] at h
  refine J_tout (pc := 1) (tgt := 52) (by decide) (by have hn0 := i32ne hc1_0 (z := 0) (by decide); have hn1 := i32ne hc1_1 (z := 1) (by decide); have hn2 := i32ne hc1_2 (z := 2) (by decide); omega) dX8_solved_1 ?_
  refine J_bipush (pc := 52) (v := (-2 : Int32)) (by decide) dX8_solved_52 ?_
  exact J_iret (pc := 54) (qi_of h) dX8_solved_54
set_option maxHeartbeats 4000000 in
set_option maxRecDepth 100000 in
theorem tX8_puzzle {ad : Nat → Nat} {ca : Nat → ClassId} {D : va_G} {FU d : Nat} {r : Int32} {N : Mem}  {x0 : Nat} {x1 : Int32} {x2 : Int32} {M : Mem}  (h : fX8_puzzle FU  x0 x1 x2 M = some (r, N)) : Ct ad ca D yX8_puzzle cX8_puzzle 3 (some .int) (d + 7) [vR (some x0), vI x1, vI x2] M (QI r N) := by
  refine Ct_of (by decide) (Nat.le_of_ble_eq_true rfl) ?_
  show J ad ca D cX8_puzzle RX8 3 (d + 7) (Gt ad ca D (some .int) (QI r N)) 0 [(0, vR (some x0)), (1, vI x1), (2, vI x2)] [] M
  unfold fX8_puzzle at h
  refine J_iload_n (pc := 0) (q := 1) rfl rfl dX8_puzzle_0 ?_
  refine J_iconst (pc := 1) (v := (1 : Int32)) (by decide) dX8_puzzle_1 ?_
  refine J_iclt (pc := 2) (tgt := 12) (by decide) dX8_puzzle_2 (fun hc2 => ?_) (fun hc2 => ?_)
  · rw [if_pos hc2] at h
    refine J_bipush (pc := 12) (v := (-2 : Int32)) (by decide) dX8_puzzle_12 ?_
    exact J_iret (pc := 14) (qi_of h) dX8_puzzle_14
  · rw [if_neg hc2] at h
    refine J_iload_n (pc := 5) (q := 1) rfl rfl dX8_puzzle_5 ?_
    refine J_sipush (pc := 6) (v := (999 : Int32)) (by decide) dX8_puzzle_6 ?_
    refine J_icle (pc := 9) (tgt := 15) (by decide) dX8_puzzle_9 (fun hc9 => ?_) (fun hc9 => ?_)
    · rw [if_pos hc9] at h
      refine J_iload_n (pc := 15) (q := 2) rfl rfl dX8_puzzle_15 ?_
      refine J_iconst (pc := 16) (v := (-1 : Int32)) (by decide) dX8_puzzle_16 ?_
      refine J_icge (pc := 17) (tgt := 22) (by decide) dX8_puzzle_17 (fun hc17 => ?_) (fun hc17 => ?_)
      · rw [if_pos hc17] at h
        refine J_iload_n (pc := 22) (q := 2) rfl rfl dX8_puzzle_22 ?_
        refine J_iconst (pc := 23) (v := (-1 : Int32)) (by decide) dX8_puzzle_23 ?_
        refine J_icne (pc := 24) (tgt := 38) (by decide) dX8_puzzle_24 (fun hc24 => ?_) (fun hc24 => ?_)
        · rw [if_pos hc24] at h
          refine J_aload_n (pc := 38) (q := 0) rfl rfl dX8_puzzle_38 ?_
          obtain ⟨b39, hb39, g_1⟩ := bnd h
          obtain ⟨r39, M39, h39, g_2⟩ := bnd2 g_1
          refine J_callVR (pc := 39) (as := []) (tX8_solvedStandings (d := d)  h39) cf_X8_solvedStandings cv_X8_solvedStandings clF8 hb39 ml_RX8_132 (by omega) (Nat.le_of_ble_eq_true rfl) dX8_puzzle_39 ?_
          refine J_iload_n (pc := 42) (q := 1) rfl rfl dX8_puzzle_42 ?_
          refine J_iload_n (pc := 43) (q := 2) rfl rfl dX8_puzzle_43 ?_
          obtain ⟨b44, hb44, g_3⟩ := bnd g_2
          obtain ⟨r44, M44, h44, g_4⟩ := bnd2 g_3
          refine J_callVI (pc := 44) (as := [vI x1, vI x2]) (tX6_puzzleAt (d := d)  h44) cf_X6_puzzleAt cv_X6_puzzleAt clF6 hb44 ml_RX8_158 (by omega) (Nat.le_of_ble_eq_true rfl) dX8_puzzle_44 ?_
          exact J_iret (pc := 47) (qi_of g_4) dX8_puzzle_47
        · rw [if_neg hc24] at h
          refine J_aload_n (pc := 27) (q := 0) rfl rfl dX8_puzzle_27 ?_
          obtain ⟨b28, hb28, g_5⟩ := bnd h
          obtain ⟨r28, M28, h28, g_6⟩ := bnd2 g_5
          refine J_callVR (pc := 28) (as := []) (tX8_solvedStandings (d := d)  h28) cf_X8_solvedStandings cv_X8_solvedStandings clF8 hb28 ml_RX8_132 (by omega) (Nat.le_of_ble_eq_true rfl) dX8_puzzle_28 ?_
          refine J_iload_n (pc := 31) (q := 1) rfl rfl dX8_puzzle_31 ?_
          obtain ⟨b32, hb32, g_7⟩ := bnd g_6
          obtain ⟨r32, M32, h32, g_8⟩ := bnd2 g_7
          refine J_callVI (pc := 32) (as := [vI x1]) (tX6_puzzleCount (d := d)  h32) cf_X6_puzzleCount cv_X6_puzzleCount clF6 hb32 ml_RX8_155 (by omega) (Nat.le_of_ble_eq_true rfl) dX8_puzzle_32 ?_
          refine J_goto (pc := 35) (tgt := 47) (by decide) dX8_puzzle_35 ?_
          exact J_iret (pc := 47) (qi_of g_8) dX8_puzzle_47
      · rw [if_neg hc17] at h
        refine J_iconst (pc := 20) (v := (-1 : Int32)) (by decide) dX8_puzzle_20 ?_
        exact J_iret (pc := 21) (qi_of h) dX8_puzzle_21
    · rw [if_neg hc9] at h
      refine J_bipush (pc := 12) (v := (-2 : Int32)) (by decide) dX8_puzzle_12 ?_
      exact J_iret (pc := 14) (qi_of h) dX8_puzzle_14
set_option maxHeartbeats 4000000 in
set_option maxRecDepth 100000 in
theorem tX8_turnings {ad : Nat → Nat} {ca : Nat → ClassId} {D : va_G} {FU d : Nat} {r : Int32} {N : Mem}  {x0 : Nat} {M : Mem}  (h : fX8_turnings FU  x0 M = some (r, N)) : Ct ad ca D yX8_turnings cX8_turnings 1 (some .int) (d + 12) [vR (some x0)] M (QI r N) := by
  refine Ct_of (by decide) (Nat.le_of_ble_eq_true rfl) ?_
  show J ad ca D cX8_turnings RX8 1 (d + 12) (Gt ad ca D (some .int) (QI r N)) 0 [(0, vR (some x0))] [] M
  unfold fX8_turnings at h
  refine J_aload_n (pc := 0) (q := 0) rfl rfl dX8_turnings_0 ?_
  obtain ⟨a1, h1, g_1⟩ := bnd h
  refine J_getR (pc := 1) (i := 3) clF8 (by decide) rfl fl_RX8_19 h1 dX8_turnings_1 ?_
  refine J_aload_n (pc := 4) (q := 0) rfl rfl dX8_turnings_4 ?_
  obtain ⟨a5, h5, g_2⟩ := bnd g_1
  refine J_getR (pc := 5) (i := 0) clF8 (by decide) rfl fl_RX8_68 h5 dX8_turnings_5 ?_
  obtain ⟨b8, hb8, g_3⟩ := bnd g_2
  obtain ⟨r8, M8, h8, g_4⟩ := bnd2 g_3
  refine J_callVI (pc := 8) (as := [vR a5]) (tX2_countOf (d := d)  h8) cf_X2_countOf cv_X2_countOf clF2 hb8 ml_RX8_174 (by omega) (Nat.le_of_ble_eq_true rfl) dX8_turnings_8 ?_
  exact J_iret (pc := 11) (qi_of g_4) dX8_turnings_11
set_option maxHeartbeats 4000000 in
set_option maxRecDepth 100000 in
theorem tX8_alike {ad : Nat → Nat} {ca : Nat → ClassId} {D : va_G} {FU d : Nat} {r : Int32} {N : Mem}  {x0 : Nat} {x1 : Int32} {x2 : Int32} {x3 : Int32} {M : Mem}  (h : fX8_alike FU  x0 x1 x2 x3 M = some (r, N)) : Ct ad ca D yX8_alike cX8_alike 5 (some .int) (d + 13) [vR (some x0), vI x1, vI x2, vI x3] M (QI r N) := by
  refine Ct_of (by decide) (Nat.le_of_ble_eq_true rfl) ?_
  show J ad ca D cX8_alike RX8 5 (d + 13) (Gt ad ca D (some .int) (QI r N)) 0 [(0, vR (some x0)), (1, vI x1), (2, vI x2), (3, vI x3)] [] M
  unfold fX8_alike at h
  refine J_aload_n (pc := 0) (q := 0) rfl rfl dX8_alike_0 ?_
  obtain ⟨a1, h1, g_1⟩ := bnd h
  refine J_getR (pc := 1) (i := 0) clF8 (by decide) rfl fl_RX8_68 h1 dX8_alike_1 ?_
  refine J_iload_n (pc := 4) (q := 1) rfl rfl dX8_alike_4 ?_
  refine J_iload_n (pc := 5) (q := 2) rfl rfl dX8_alike_5 ?_
  obtain ⟨b6, hb6, g_2⟩ := bnd g_1
  obtain ⟨r6, M6, h6, g_3⟩ := bnd2 g_2
  refine J_callVI (pc := 6) (as := [vI x1, vI x2]) (tX3_pairOf (d := d)  h6) cf_X3_pairOf cv_X3_pairOf clF3 hb6 ml_RX8_167 (by omega) (Nat.le_of_ble_eq_true rfl) dX8_alike_6 ?_
  refine J_istore (pc := 9) (by decide) (lv' := [(0, vR (some x0)), (1, vI x1), (2, vI x2), (3, vI x3), (4, vI r6)]) rfl dX8_alike_9 ?_
  refine J_iload (pc := 11) (q := 4) rfl dX8_alike_11 ?_
  refine J_iflt (pc := 13) (tgt := 27) (by decide) dX8_alike_13 (fun hc13 => ?_) (fun hc13 => ?_)
  · rw [if_pos hc13] at g_3
    refine J_bipush (pc := 27) (v := (-2 : Int32)) (by decide) dX8_alike_27 ?_
    exact J_iret (pc := 29) (qi_of g_3) dX8_alike_29
  · rw [if_neg hc13] at g_3
    refine J_aload_n (pc := 16) (q := 0) rfl rfl dX8_alike_16 ?_
    obtain ⟨a17, h17, g_4⟩ := bnd g_3
    refine J_getR (pc := 17) (i := 0) clF8 (by decide) rfl fl_RX8_68 h17 dX8_alike_17 ?_
    refine J_iload_n (pc := 20) (q := 3) rfl rfl dX8_alike_20 ?_
    obtain ⟨b21, hb21, g_5⟩ := bnd g_4
    obtain ⟨r21, M21, h21, g_6⟩ := bnd2 g_5
    refine J_callVI (pc := 21) (as := [vI x3]) (tX3_has (d := d)  h21) cf_X3_has cv_X3_has clF3 hb21 ml_RX8_109 (by omega) (Nat.le_of_ble_eq_true rfl) dX8_alike_21 ?_
    refine J_ifne (pc := 24) (tgt := 30) (by decide) dX8_alike_24 (fun hc24 => ?_) (fun hc24 => ?_)
    · rw [if_pos hc24] at g_6
      refine J_aload_n (pc := 30) (q := 0) rfl rfl dX8_alike_30 ?_
      obtain ⟨a31, h31, g_7⟩ := bnd g_6
      refine J_getR (pc := 31) (i := 3) clF8 (by decide) rfl fl_RX8_19 h31 dX8_alike_31 ?_
      refine J_aload_n (pc := 34) (q := 0) rfl rfl dX8_alike_34 ?_
      obtain ⟨a35, h35, g_8⟩ := bnd g_7
      refine J_getR (pc := 35) (i := 0) clF8 (by decide) rfl fl_RX8_68 h35 dX8_alike_35 ?_
      refine J_iload (pc := 38) (q := 4) rfl dX8_alike_38 ?_
      refine J_iload_n (pc := 40) (q := 3) rfl rfl dX8_alike_40 ?_
      obtain ⟨b41, hb41, g_9⟩ := bnd g_8
      obtain ⟨r41, M41, h41, g_10⟩ := bnd2 g_9
      refine J_callVI (pc := 41) (as := [vR a35, vI r6, vI x3]) (tX2_leastRow (d := d)  h41) cf_X2_leastRow cv_X2_leastRow clF2 hb41 ml_RX8_178 (by omega) (Nat.le_of_ble_eq_true rfl) dX8_alike_41 ?_
      exact J_iret (pc := 44) (qi_of g_10) dX8_alike_44
    · rw [if_neg hc24] at g_6
      refine J_bipush (pc := 27) (v := (-2 : Int32)) (by decide) dX8_alike_27 ?_
      exact J_iret (pc := 29) (qi_of g_6) dX8_alike_29
set_option maxHeartbeats 4000000 in
set_option maxRecDepth 100000 in
theorem jX8_fairestChange_b64 {ad : Nat → Nat} {ca : Nat → ClassId} {D : va_G} {FU d : Nat} {r : Int32} {N : Mem}  {k7 : Int32 → Int32 → Int32 → Mem → Option (Int32 × Mem)} {x0 : Nat} {x1 : Int32} {x2 : Int32} {x3 : Int32} {M : Mem}  (hk7 : ∀ (y1 : Int32) (y2 : Int32) (y3 : Int32) (M : Mem), k7 y1 y2 y3 M = some (r, N) → J ad ca D cX8_fairestChange RX8 6 (d + 5) (Gt ad ca D (some .int) (QI r N)) 7 [(0, vR (some x0)), (1, vI y1), (2, vI y2), (3, vI y3)] [] M) (h : fX8_fairestChange_b64 FU  k7 x0 x1 x2 x3 M = some (r, N)) : J ad ca D cX8_fairestChange RX8 6 (d + 5) (Gt ad ca D (some .int) (QI r N)) 64 [(0, vR (some x0)), (1, vI x1), (2, vI x2), (3, vI x3)] [] M := by
  unfold fX8_fairestChange_b64 at h
  refine J_iinc (pc := 64) (q := 3) rfl (v := x3 + (1 : Int32)) rfl (by decide) (lv' := [(0, vR (some x0)), (1, vI x1), (2, vI x2), (3, vI (x3 + (1 : Int32)))]) rfl dX8_fairestChange_64 ?_
  refine J_goto (pc := 67) (tgt := 7) (by decide) dX8_fairestChange_67 ?_
  exact hk7 _ _ _ _ h
set_option maxHeartbeats 4000000 in
set_option maxRecDepth 100000 in
theorem jX8_fairestChange_b197 {ad : Nat → Nat} {ca : Nat → ClassId} {D : va_G} {FU d : Nat} {r : Int32} {N : Mem}  {k72 : Int32 → Int32 → Int32 → Mem → Option (Int32 × Mem)} {k100 : Int32 → Int32 → Int32 → Mem → Option (Int32 × Mem)} {x0 : Nat} {x1 : Int32} {x2 : Int32} {x3 : Int32} {x4 : Int32} {M : Mem}  (hk72 : ∀ (y1 : Int32) (y2 : Int32) (y3 : Int32) (M : Mem), k72 y1 y2 y3 M = some (r, N) → J ad ca D cX8_fairestChange RX8 6 (d + 5) (Gt ad ca D (some .int) (QI r N)) 72 [(0, vR (some x0)), (1, vI y1), (2, vI y2), (3, vI y3)] [] M) (hk100 : ∀ (y1 : Int32) (y2 : Int32) (y4 : Int32) (M : Mem), k100 y1 y2 y4 M = some (r, N) → J ad ca D cX8_fairestChange RX8 6 (d + 5) (Gt ad ca D (some .int) (QI r N)) 100 [(0, vR (some x0)), (1, vI y1), (2, vI y2), (3, vI x3), (4, vI y4)] [] M) (h : fX8_fairestChange_b197 FU  k72 k100 x0 x1 x2 x3 x4 M = some (r, N)) : J ad ca D cX8_fairestChange RX8 6 (d + 5) (Gt ad ca D (some .int) (QI r N)) 197 [(0, vR (some x0)), (1, vI x1), (2, vI x2), (3, vI x3), (4, vI x4)] [] M := by
  unfold fX8_fairestChange_b197 at h
  refine J_iinc (pc := 197) (q := 4) rfl (v := x4 + (1 : Int32)) rfl (by decide) (lv' := [(0, vR (some x0)), (1, vI x1), (2, vI x2), (3, vI x3), (4, vI (x4 + (1 : Int32)))]) rfl dX8_fairestChange_197 ?_
  refine J_goto (pc := 200) (tgt := 100) (by decide) dX8_fairestChange_200 ?_
  exact hk100 _ _ _ _ h
set_option maxHeartbeats 4000000 in
set_option maxRecDepth 100000 in
theorem jX8_fairestChange_L100 {ad : Nat → Nat} {ca : Nat → ClassId} {D : va_G} {FU d : Nat} {r : Int32} {N : Mem}  {k72 : Int32 → Int32 → Int32 → Mem → Option (Int32 × Mem)} {x0 : Nat} {x3 : Int32}  (hk72 : ∀ (y1 : Int32) (y2 : Int32) (y3 : Int32) (M : Mem), k72 y1 y2 y3 M = some (r, N) → J ad ca D cX8_fairestChange RX8 6 (d + 5) (Gt ad ca D (some .int) (QI r N)) 72 [(0, vR (some x0)), (1, vI y1), (2, vI y2), (3, vI y3)] [] M) : ∀ (F : Nat) (x1 : Int32) (x2 : Int32) (x4 : Int32) (M : Mem), fX8_fairestChange_L100 FU  k72 x0 x3 F x1 x2 x4 M = some (r, N) → J ad ca D cX8_fairestChange RX8 6 (d + 5) (Gt ad ca D (some .int) (QI r N)) 100 [(0, vR (some x0)), (1, vI x1), (2, vI x2), (3, vI x3), (4, vI x4)] [] M := by
  intro F
  induction F with
  | zero =>
    intro x1 x2 x4 M h
    rw [fX8_fairestChange_L100] at h
    cases h
  | succ F hk100 =>
    intro x1 x2 x4 M h
    rw [fX8_fairestChange_L100] at h
    refine J_iload (pc := 100) (q := 4) rfl dX8_fairestChange_100 ?_
    refine J_aload_n (pc := 102) (q := 0) rfl rfl dX8_fairestChange_102 ?_
    obtain ⟨a103, h103, g_1⟩ := bnd h
    refine J_getR (pc := 103) (i := 0) clF8 (by decide) rfl fl_RX8_68 h103 dX8_fairestChange_103 ?_
    obtain ⟨a106, h106, g_2⟩ := bnd g_1
    refine J_getI (pc := 106) (i := 0) clF3 (by decide) rfl fl_RX8_196 h106 dX8_fairestChange_106 ?_
    refine J_icge (pc := 109) (tgt := 203) (by decide) dX8_fairestChange_109 (fun hc109 => ?_) (fun hc109 => ?_)
    · rw [if_pos hc109] at g_2
      refine J_iinc (pc := 203) (q := 3) rfl (v := x3 + (1 : Int32)) rfl (by decide) (lv' := [(0, vR (some x0)), (1, vI x1), (2, vI x2), (4, vI x4), (3, vI (x3 + (1 : Int32)))]) rfl dX8_fairestChange_203 ?_
      refine J_goto (pc := 206) (tgt := 72) (by decide) dX8_fairestChange_206 ?_
      refine J_sub [0, 1, 2, 4] (lv' := [(0, vR (some x0)), (1, vI x1), (2, vI x2), (3, vI (x3 + (1 : Int32)))]) rfl ?_
      exact hk72 _ _ _ _ g_2
    · rw [if_neg hc109] at g_2
      refine J_aload_n (pc := 112) (q := 0) rfl rfl dX8_fairestChange_112 ?_
      obtain ⟨a113, h113, g_3⟩ := bnd g_2
      refine J_getR (pc := 113) (i := 0) clF8 (by decide) rfl fl_RX8_68 h113 dX8_fairestChange_113 ?_
      obtain ⟨a116, h116, g_4⟩ := bnd g_3
      refine J_getR (pc := 116) (i := 7) clF3 (by decide) rfl fl_RX8_199 h116 dX8_fairestChange_116 ?_
      refine J_iload_n (pc := 119) (q := 3) rfl rfl dX8_fairestChange_119 ?_
      obtain ⟨a120, h120, g_5⟩ := bnd g_4
      refine J_ald0 (pc := 120) h120 dX8_fairestChange_120 ?_
      refine J_iload (pc := 121) (q := 4) rfl dX8_fairestChange_121 ?_
      refine J_ishr (pc := 123) dX8_fairestChange_123 ?_
      refine J_iconst (pc := 124) (v := (1 : Int32)) (by decide) dX8_fairestChange_124 ?_
      refine J_iand (pc := 125) dX8_fairestChange_125 ?_
      refine J_ifeq (pc := 126) (tgt := 132) (by decide) dX8_fairestChange_126 (fun hc126 => ?_) (fun hc126 => ?_)
      · rw [if_pos hc126] at g_5
        refine J_aload_n (pc := 132) (q := 0) rfl rfl dX8_fairestChange_132 ?_
        obtain ⟨a133, h133, g_6⟩ := bnd g_5
        refine J_getR (pc := 133) (i := 1) clF8 (by decide) rfl fl_RX8_72 h133 dX8_fairestChange_133 ?_
        refine J_aload_n (pc := 136) (q := 0) rfl rfl dX8_fairestChange_136 ?_
        obtain ⟨a137, h137, g_7⟩ := bnd g_6
        refine J_getR (pc := 137) (i := 0) clF8 (by decide) rfl fl_RX8_68 h137 dX8_fairestChange_137 ?_
        refine J_iconst (pc := 140) (v := (-1 : Int32)) (by decide) dX8_fairestChange_140 ?_
        obtain ⟨b141, hb141, g_8⟩ := bnd g_7
        obtain ⟨M141, h141, g_9⟩ := bnd g_8
        refine J_callVV (pc := 141) (as := [vR a137, vI (-1 : Int32)]) (tX3_becomes (d := d)  h141) cf_X3_becomes cv_X3_becomes clF3 hb141 ml_RX8_189 (by omega) (Nat.le_of_ble_eq_true rfl) dX8_fairestChange_141 ?_
        refine J_aload_n (pc := 144) (q := 0) rfl rfl dX8_fairestChange_144 ?_
        obtain ⟨a145, h145, g_10⟩ := bnd g_9
        refine J_getR (pc := 145) (i := 1) clF8 (by decide) rfl fl_RX8_72 h145 dX8_fairestChange_145 ?_
        refine J_iconst (pc := 148) (v := (0 : Int32)) (by decide) dX8_fairestChange_148 ?_
        refine J_iload_n (pc := 149) (q := 3) rfl rfl dX8_fairestChange_149 ?_
        refine J_iload (pc := 150) (q := 4) rfl dX8_fairestChange_150 ?_
        obtain ⟨b152, hb152, g_11⟩ := bnd g_10
        obtain ⟨r152, M152, h152, g_12⟩ := bnd2 g_11
        refine J_callVI (pc := 152) (as := [vI (0 : Int32), vI x3, vI x4]) (tX3_put (d := d)  h152) cf_X3_put cv_X3_put clF3 hb152 ml_RX8_84 (by omega) (Nat.le_of_ble_eq_true rfl) dX8_fairestChange_152 ?_
        refine J_pop (pc := 155) rfl dX8_fairestChange_155 ?_
        refine J_aload_n (pc := 156) (q := 0) rfl rfl dX8_fairestChange_156 ?_
        obtain ⟨a157, h157, g_13⟩ := bnd g_12
        refine J_getR (pc := 157) (i := 2) clF8 (by decide) rfl fl_RX8_12 h157 dX8_fairestChange_157 ?_
        refine J_aload_n (pc := 160) (q := 0) rfl rfl dX8_fairestChange_160 ?_
        obtain ⟨a161, h161, g_14⟩ := bnd g_13
        refine J_getR (pc := 161) (i := 1) clF8 (by decide) rfl fl_RX8_72 h161 dX8_fairestChange_161 ?_
        obtain ⟨b164, hb164, g_15⟩ := bnd g_14
        obtain ⟨M164, h164, g_16⟩ := bnd g_15
        refine J_callVV (pc := 164) (as := [vR a161]) (tX6_solve (d := d)  h164) cf_X6_solve cv_X6_solve clF6 hb164 ml_RX8_163 (by omega) (Nat.le_of_ble_eq_true rfl) dX8_fairestChange_164 ?_
        refine J_aload_n (pc := 167) (q := 0) rfl rfl dX8_fairestChange_167 ?_
        obtain ⟨a168, h168, g_17⟩ := bnd g_16
        refine J_getR (pc := 168) (i := 2) clF8 (by decide) rfl fl_RX8_12 h168 dX8_fairestChange_168 ?_
        obtain ⟨b171, hb171, g_18⟩ := bnd g_17
        obtain ⟨r171, M171, h171, g_19⟩ := bnd2 g_18
        refine J_callVI (pc := 171) (as := []) (tX6_unfairness (d := d)  h171) cf_X6_unfairness cv_X6_unfairness clF6 hb171 ml_RX8_193 (by omega) (Nat.le_of_ble_eq_true rfl) dX8_fairestChange_171 ?_
        refine J_istore (pc := 174) (by decide) (lv' := [(0, vR (some x0)), (1, vI x1), (2, vI x2), (3, vI x3), (4, vI x4), (5, vI r171)]) rfl dX8_fairestChange_174 ?_
        refine J_iload (pc := 176) (q := 5) rfl dX8_fairestChange_176 ?_
        refine J_iload_n (pc := 178) (q := 2) rfl rfl dX8_fairestChange_178 ?_
        refine J_icge (pc := 179) (tgt := 197) (by decide) dX8_fairestChange_179 (fun hc179 => ?_) (fun hc179 => ?_)
        · rw [if_pos hc179] at g_19
          refine J_sub [0, 1, 2, 3, 4] (lv' := [(0, vR (some x0)), (1, vI x1), (2, vI x2), (3, vI x3), (4, vI x4)]) rfl ?_
          exact jX8_fairestChange_b197 hk72 hk100 g_19
        · rw [if_neg hc179] at g_19
          refine J_iload (pc := 182) (q := 5) rfl dX8_fairestChange_182 ?_
          refine J_istore_n (pc := 184) rfl (by decide) (lv' := [(0, vR (some x0)), (1, vI x1), (3, vI x3), (4, vI x4), (5, vI r171), (2, vI r171)]) rfl dX8_fairestChange_184 ?_
          refine J_sipush (pc := 185) (v := (200 : Int32)) (by decide) dX8_fairestChange_185 ?_
          refine J_bipush (pc := 188) (v := (10 : Int32)) (by decide) dX8_fairestChange_188 ?_
          refine J_iload_n (pc := 190) (q := 2) rfl rfl dX8_fairestChange_190 ?_
          refine J_imul (pc := 191) dX8_fairestChange_191 ?_
          refine J_iadd (pc := 192) dX8_fairestChange_192 ?_
          refine J_iload (pc := 193) (q := 3) rfl dX8_fairestChange_193 ?_
          refine J_iadd (pc := 195) dX8_fairestChange_195 ?_
          refine J_istore_n (pc := 196) rfl (by decide) (lv' := [(0, vR (some x0)), (3, vI x3), (4, vI x4), (5, vI r171), (2, vI r171), (1, vI (((200 : Int32) + ((10 : Int32) * x3)) + x4))]) rfl dX8_fairestChange_196 ?_
          refine J_sub [0, 5, 4, 1, 2] (lv' := [(0, vR (some x0)), (1, vI (((200 : Int32) + ((10 : Int32) * x3)) + x4)), (2, vI r171), (3, vI x3), (4, vI x4)]) rfl ?_
          exact jX8_fairestChange_b197 hk72 hk100 g_19
      · rw [if_neg hc126] at g_5
        refine J_goto (pc := 129) (tgt := 197) (by decide) dX8_fairestChange_129 ?_
        exact jX8_fairestChange_b197 hk72 hk100 g_5
set_option maxHeartbeats 4000000 in
set_option maxRecDepth 100000 in
theorem jX8_fairestChange_L72 {ad : Nat → Nat} {ca : Nat → ClassId} {D : va_G} {FU d : Nat} {r : Int32} {N : Mem}   {x0 : Nat}   : ∀ (F : Nat) (x1 : Int32) (x2 : Int32) (x3 : Int32) (M : Mem), fX8_fairestChange_L72 FU  x0 F x1 x2 x3 M = some (r, N) → J ad ca D cX8_fairestChange RX8 6 (d + 5) (Gt ad ca D (some .int) (QI r N)) 72 [(0, vR (some x0)), (1, vI x1), (2, vI x2), (3, vI x3)] [] M := by
  intro F
  induction F with
  | zero =>
    intro x1 x2 x3 M h
    rw [fX8_fairestChange_L72] at h
    cases h
  | succ F hk72 =>
    intro x1 x2 x3 M h
    rw [fX8_fairestChange_L72] at h
    refine J_iload_n (pc := 72) (q := 3) rfl rfl dX8_fairestChange_72 ?_
    refine J_aload_n (pc := 73) (q := 0) rfl rfl dX8_fairestChange_73 ?_
    obtain ⟨a74, h74, g_20⟩ := bnd h
    refine J_getR (pc := 74) (i := 0) clF8 (by decide) rfl fl_RX8_68 h74 dX8_fairestChange_74 ?_
    obtain ⟨a77, h77, g_21⟩ := bnd g_20
    refine J_getI (pc := 77) (i := 0) clF3 (by decide) rfl fl_RX8_196 h77 dX8_fairestChange_77 ?_
    refine J_icge (pc := 80) (tgt := 209) (by decide) dX8_fairestChange_80 (fun hc80 => ?_) (fun hc80 => ?_)
    · rw [if_pos hc80] at g_21
      refine J_iload_n (pc := 209) (q := 1) rfl rfl dX8_fairestChange_209 ?_
      exact J_iret (pc := 210) (qi_of g_21) dX8_fairestChange_210
    · rw [if_neg hc80] at g_21
      refine J_aload_n (pc := 83) (q := 0) rfl rfl dX8_fairestChange_83 ?_
      obtain ⟨a84, h84, g_22⟩ := bnd g_21
      refine J_getR (pc := 84) (i := 0) clF8 (by decide) rfl fl_RX8_68 h84 dX8_fairestChange_84 ?_
      obtain ⟨a87, h87, g_23⟩ := bnd g_22
      refine J_getI (pc := 87) (i := 8) clF3 (by decide) rfl fl_RX8_87 h87 dX8_fairestChange_87 ?_
      refine J_bipush (pc := 90) (v := (16 : Int32)) (by decide) dX8_fairestChange_90 ?_
      refine J_icge (pc := 92) (tgt := 209) (by decide) dX8_fairestChange_92 (fun hc92 => ?_) (fun hc92 => ?_)
      · rw [if_pos hc92] at g_23
        refine J_iload_n (pc := 209) (q := 1) rfl rfl dX8_fairestChange_209 ?_
        exact J_iret (pc := 210) (qi_of g_23) dX8_fairestChange_210
      · rw [if_neg hc92] at g_23
        refine J_iload_n (pc := 95) (q := 3) rfl rfl dX8_fairestChange_95 ?_
        refine J_iconst (pc := 96) (v := (1 : Int32)) (by decide) dX8_fairestChange_96 ?_
        refine J_iadd (pc := 97) dX8_fairestChange_97 ?_
        refine J_istore (pc := 98) (by decide) (lv' := [(0, vR (some x0)), (1, vI x1), (2, vI x2), (3, vI x3), (4, vI (x3 + (1 : Int32)))]) rfl dX8_fairestChange_98 ?_
        exact jX8_fairestChange_L100 hk72 FU _ _ _ _ g_23
set_option maxHeartbeats 4000000 in
set_option maxRecDepth 100000 in
theorem jX8_fairestChange_L7 {ad : Nat → Nat} {ca : Nat → ClassId} {D : va_G} {FU d : Nat} {r : Int32} {N : Mem}   {x0 : Nat}   : ∀ (F : Nat) (x1 : Int32) (x2 : Int32) (x3 : Int32) (M : Mem), fX8_fairestChange_L7 FU  x0 F x1 x2 x3 M = some (r, N) → J ad ca D cX8_fairestChange RX8 6 (d + 5) (Gt ad ca D (some .int) (QI r N)) 7 [(0, vR (some x0)), (1, vI x1), (2, vI x2), (3, vI x3)] [] M := by
  intro F
  induction F with
  | zero =>
    intro x1 x2 x3 M h
    rw [fX8_fairestChange_L7] at h
    cases h
  | succ F hk7 =>
    intro x1 x2 x3 M h
    rw [fX8_fairestChange_L7] at h
    refine J_iload_n (pc := 7) (q := 3) rfl rfl dX8_fairestChange_7 ?_
    refine J_aload_n (pc := 8) (q := 0) rfl rfl dX8_fairestChange_8 ?_
    obtain ⟨a9, h9, g_24⟩ := bnd h
    refine J_getR (pc := 9) (i := 0) clF8 (by decide) rfl fl_RX8_68 h9 dX8_fairestChange_9 ?_
    obtain ⟨a12, h12, g_25⟩ := bnd g_24
    refine J_getI (pc := 12) (i := 8) clF3 (by decide) rfl fl_RX8_87 h12 dX8_fairestChange_12 ?_
    refine J_icge (pc := 15) (tgt := 70) (by decide) dX8_fairestChange_15 (fun hc15 => ?_) (fun hc15 => ?_)
    · rw [if_pos hc15] at g_25
      refine J_iconst (pc := 70) (v := (0 : Int32)) (by decide) dX8_fairestChange_70 ?_
      refine J_istore_n (pc := 71) rfl (by decide) (lv' := [(0, vR (some x0)), (1, vI x1), (2, vI x2), (3, vI (0 : Int32))]) rfl dX8_fairestChange_71 ?_
      exact jX8_fairestChange_L72  FU _ _ _ _ g_25
    · rw [if_neg hc15] at g_25
      refine J_aload_n (pc := 18) (q := 0) rfl rfl dX8_fairestChange_18 ?_
      obtain ⟨a19, h19, g_26⟩ := bnd g_25
      refine J_getR (pc := 19) (i := 1) clF8 (by decide) rfl fl_RX8_72 h19 dX8_fairestChange_19 ?_
      refine J_aload_n (pc := 22) (q := 0) rfl rfl dX8_fairestChange_22 ?_
      obtain ⟨a23, h23, g_27⟩ := bnd g_26
      refine J_getR (pc := 23) (i := 0) clF8 (by decide) rfl fl_RX8_68 h23 dX8_fairestChange_23 ?_
      refine J_iload_n (pc := 26) (q := 3) rfl rfl dX8_fairestChange_26 ?_
      obtain ⟨b27, hb27, g_28⟩ := bnd g_27
      obtain ⟨M27, h27, g_29⟩ := bnd g_28
      refine J_callVV (pc := 27) (as := [vR a23, vI x3]) (tX3_becomes (d := d)  h27) cf_X3_becomes cv_X3_becomes clF3 hb27 ml_RX8_189 (by omega) (Nat.le_of_ble_eq_true rfl) dX8_fairestChange_27 ?_
      refine J_aload_n (pc := 30) (q := 0) rfl rfl dX8_fairestChange_30 ?_
      obtain ⟨a31, h31, g_30⟩ := bnd g_29
      refine J_getR (pc := 31) (i := 2) clF8 (by decide) rfl fl_RX8_12 h31 dX8_fairestChange_31 ?_
      refine J_aload_n (pc := 34) (q := 0) rfl rfl dX8_fairestChange_34 ?_
      obtain ⟨a35, h35, g_31⟩ := bnd g_30
      refine J_getR (pc := 35) (i := 1) clF8 (by decide) rfl fl_RX8_72 h35 dX8_fairestChange_35 ?_
      obtain ⟨b38, hb38, g_32⟩ := bnd g_31
      obtain ⟨M38, h38, g_33⟩ := bnd g_32
      refine J_callVV (pc := 38) (as := [vR a35]) (tX6_solve (d := d)  h38) cf_X6_solve cv_X6_solve clF6 hb38 ml_RX8_163 (by omega) (Nat.le_of_ble_eq_true rfl) dX8_fairestChange_38 ?_
      refine J_aload_n (pc := 41) (q := 0) rfl rfl dX8_fairestChange_41 ?_
      obtain ⟨a42, h42, g_34⟩ := bnd g_33
      refine J_getR (pc := 42) (i := 2) clF8 (by decide) rfl fl_RX8_12 h42 dX8_fairestChange_42 ?_
      obtain ⟨b45, hb45, g_35⟩ := bnd g_34
      obtain ⟨r45, M45, h45, g_36⟩ := bnd2 g_35
      refine J_callVI (pc := 45) (as := []) (tX6_unfairness (d := d)  h45) cf_X6_unfairness cv_X6_unfairness clF6 hb45 ml_RX8_193 (by omega) (Nat.le_of_ble_eq_true rfl) dX8_fairestChange_45 ?_
      refine J_istore (pc := 48) (by decide) (lv' := [(0, vR (some x0)), (1, vI x1), (2, vI x2), (3, vI x3), (4, vI r45)]) rfl dX8_fairestChange_48 ?_
      refine J_iload (pc := 50) (q := 4) rfl dX8_fairestChange_50 ?_
      refine J_iload_n (pc := 52) (q := 2) rfl rfl dX8_fairestChange_52 ?_
      refine J_icge (pc := 53) (tgt := 64) (by decide) dX8_fairestChange_53 (fun hc53 => ?_) (fun hc53 => ?_)
      · rw [if_pos hc53] at g_36
        refine J_sub [0, 1, 2, 3] (lv' := [(0, vR (some x0)), (1, vI x1), (2, vI x2), (3, vI x3)]) rfl ?_
        exact jX8_fairestChange_b64 hk7 g_36
      · rw [if_neg hc53] at g_36
        refine J_iload (pc := 56) (q := 4) rfl dX8_fairestChange_56 ?_
        refine J_istore_n (pc := 58) rfl (by decide) (lv' := [(0, vR (some x0)), (1, vI x1), (3, vI x3), (4, vI r45), (2, vI r45)]) rfl dX8_fairestChange_58 ?_
        refine J_bipush (pc := 59) (v := (100 : Int32)) (by decide) dX8_fairestChange_59 ?_
        refine J_iload_n (pc := 61) (q := 2) rfl rfl dX8_fairestChange_61 ?_
        refine J_iadd (pc := 62) dX8_fairestChange_62 ?_
        refine J_istore_n (pc := 63) rfl (by decide) (lv' := [(0, vR (some x0)), (3, vI x3), (4, vI r45), (2, vI r45), (1, vI ((100 : Int32) + x3))]) rfl dX8_fairestChange_63 ?_
        refine J_sub [0, 4, 3, 1] (lv' := [(0, vR (some x0)), (1, vI ((100 : Int32) + x3)), (2, vI r45), (3, vI x3)]) rfl ?_
        exact jX8_fairestChange_b64 hk7 g_36
set_option maxHeartbeats 4000000 in
set_option maxRecDepth 100000 in
theorem tX8_fairestChange {ad : Nat → Nat} {ca : Nat → ClassId} {D : va_G} {FU d : Nat} {r : Int32} {N : Mem}  {x0 : Nat} {M : Mem}  (h : fX8_fairestChange FU  x0 M = some (r, N)) : Ct ad ca D yX8_fairestChange cX8_fairestChange 6 (some .int) (d + 5) [vR (some x0)] M (QI r N) := by
  refine Ct_of (by decide) (Nat.le_of_ble_eq_true rfl) ?_
  show J ad ca D cX8_fairestChange RX8 6 (d + 5) (Gt ad ca D (some .int) (QI r N)) 0 [(0, vR (some x0))] [] M
  unfold fX8_fairestChange at h
  refine J_iconst (pc := 0) (v := (-1 : Int32)) (by decide) dX8_fairestChange_0 ?_
  refine J_istore_n (pc := 1) rfl (by decide) (lv' := [(0, vR (some x0)), (1, vI (-1 : Int32))]) rfl dX8_fairestChange_1 ?_
  refine J_ldc (pc := 2) cn_RX8_188 dX8_fairestChange_2 ?_
  refine J_istore_n (pc := 4) rfl (by decide) (lv' := [(0, vR (some x0)), (1, vI (-1 : Int32)), (2, vI (1073741824 : Int32))]) rfl dX8_fairestChange_4 ?_
  refine J_iconst (pc := 5) (v := (0 : Int32)) (by decide) dX8_fairestChange_5 ?_
  refine J_istore_n (pc := 6) rfl (by decide) (lv' := [(0, vR (some x0)), (1, vI (-1 : Int32)), (2, vI (1073741824 : Int32)), (3, vI (0 : Int32))]) rfl dX8_fairestChange_6 ?_
  exact jX8_fairestChange_L7  FU _ _ _ _ h
set_option maxHeartbeats 4000000 in
set_option maxRecDepth 100000 in
theorem tX8_fairer {ad : Nat → Nat} {ca : Nat → ClassId} {D : va_G} {FU d : Nat} {r : Int32} {N : Mem}  {x0 : Nat} {M : Mem}  (h : fX8_fairer FU  x0 M = some (r, N)) : Ct ad ca D yX8_fairer cX8_fairer 1 (some .int) (d + 6) [vR (some x0)] M (QI r N) := by
  refine Ct_of (by decide) (Nat.le_of_ble_eq_true rfl) ?_
  show J ad ca D cX8_fairer RX8 1 (d + 6) (Gt ad ca D (some .int) (QI r N)) 0 [(0, vR (some x0))] [] M
  unfold fX8_fairer at h
  refine J_aload_n (pc := 0) (q := 0) rfl rfl dX8_fairer_0 ?_
  obtain ⟨a1, h1, g_1⟩ := bnd h
  refine J_getR (pc := 1) (i := 0) clF8 (by decide) rfl fl_RX8_68 h1 dX8_fairer_1 ?_
  obtain ⟨a4, h4, g_2⟩ := bnd g_1
  refine J_getI (pc := 4) (i := 9) clF3 (by decide) rfl fl_RX8_182 h4 dX8_fairer_4 ?_
  refine J_ifle (pc := 7) (tgt := 13) (by decide) dX8_fairer_7 (fun hc7 => ?_) (fun hc7 => ?_)
  · rw [if_pos hc7] at g_2
    refine J_aload_n (pc := 13) (q := 0) rfl rfl dX8_fairer_13 ?_
    obtain ⟨a14, h14, g_3⟩ := bnd g_2
    refine J_getI (pc := 14) (i := 9) clF8 (by decide) rfl fl_RX8_54 h14 dX8_fairer_14 ?_
    refine J_aload_n (pc := 17) (q := 0) rfl rfl dX8_fairer_17 ?_
    obtain ⟨a18, h18, g_4⟩ := bnd g_3
    refine J_getR (pc := 18) (i := 0) clF8 (by decide) rfl fl_RX8_68 h18 dX8_fairer_18 ?_
    obtain ⟨a21, h21, g_5⟩ := bnd g_4
    refine J_getI (pc := 21) (i := 12) clF3 (by decide) rfl fl_RX8_125 h21 dX8_fairer_21 ?_
    refine J_iceq (pc := 24) (tgt := 46) (by decide) dX8_fairer_24 (fun hc24 => ?_) (fun hc24 => ?_)
    · rw [if_pos hc24] at g_5
      refine J_aload_n (pc := 46) (q := 0) rfl rfl dX8_fairer_46 ?_
      obtain ⟨a47, h47, g_6⟩ := bnd g_5
      refine J_getI (pc := 47) (i := 8) clF8 (by decide) rfl fl_RX8_50 h47 dX8_fairer_47 ?_
      exact J_iret (pc := 50) (qi_of g_6) dX8_fairer_50
    · rw [if_neg hc24] at g_5
      refine J_aload_n (pc := 27) (q := 0) rfl rfl dX8_fairer_27 ?_
      refine J_aload_n (pc := 28) (q := 0) rfl rfl dX8_fairer_28 ?_
      obtain ⟨b29, hb29, g_7⟩ := bnd g_5
      obtain ⟨r29, M29, h29, g_8⟩ := bnd2 g_7
      refine J_callVI (pc := 29) (as := []) (tX8_fairestChange (d := d)  h29) cf_X8_fairestChange cv_X8_fairestChange clF8 hb29 ml_RX8_185 (by omega) (Nat.le_of_ble_eq_true rfl) dX8_fairer_29 ?_
      obtain ⟨M32, h32, g_9⟩ := bnd g_8
      refine J_putI (pc := 32) (i := 8) clF8 (by decide) rfl fl_RX8_50 rfl rfl h32 dX8_fairer_32 ?_
      refine J_aload_n (pc := 35) (q := 0) rfl rfl dX8_fairer_35 ?_
      refine J_aload_n (pc := 36) (q := 0) rfl rfl dX8_fairer_36 ?_
      obtain ⟨a37, h37, g_10⟩ := bnd g_9
      refine J_getR (pc := 37) (i := 0) clF8 (by decide) rfl fl_RX8_68 h37 dX8_fairer_37 ?_
      obtain ⟨a40, h40, g_11⟩ := bnd g_10
      refine J_getI (pc := 40) (i := 12) clF3 (by decide) rfl fl_RX8_125 h40 dX8_fairer_40 ?_
      obtain ⟨M43, h43, g_12⟩ := bnd g_11
      refine J_putI (pc := 43) (i := 9) clF8 (by decide) rfl fl_RX8_54 rfl rfl h43 dX8_fairer_43 ?_
      refine J_aload_n (pc := 46) (q := 0) rfl rfl dX8_fairer_46 ?_
      obtain ⟨a47, h47, g_13⟩ := bnd g_12
      refine J_getI (pc := 47) (i := 8) clF8 (by decide) rfl fl_RX8_50 h47 dX8_fairer_47 ?_
      exact J_iret (pc := 50) (qi_of g_13) dX8_fairer_50
  · rw [if_neg hc7] at g_2
    refine J_bipush (pc := 10) (v := (-3 : Int32)) (by decide) dX8_fairer_10 ?_
    exact J_iret (pc := 12) (qi_of g_2) dX8_fairer_12
set_option maxHeartbeats 4000000 in
set_option maxRecDepth 100000 in
theorem tX8_sees {ad : Nat → Nat} {ca : Nat → ClassId} {D : va_G} {FU d : Nat} {r : Int32} {N : Mem}  {x0 : Nat} {x1 : Int32} {x2 : Int32} {M : Mem}  (h : fX8_sees FU  x0 x1 x2 M = some (r, N)) : Ct ad ca D yX8_sees cX8_sees 4 (some .int) (d + 3) [vR (some x0), vI x1, vI x2] M (QI r N) := by
  refine Ct_of (by decide) (Nat.le_of_ble_eq_true rfl) ?_
  show J ad ca D cX8_sees RX8 4 (d + 3) (Gt ad ca D (some .int) (QI r N)) 0 [(0, vR (some x0)), (1, vI x1), (2, vI x2)] [] M
  unfold fX8_sees at h
  refine J_aload_n (pc := 0) (q := 0) rfl rfl dX8_sees_0 ?_
  obtain ⟨a1, h1, g_1⟩ := bnd h
  refine J_getR (pc := 1) (i := 0) clF8 (by decide) rfl fl_RX8_68 h1 dX8_sees_1 ?_
  refine J_iload_n (pc := 4) (q := 1) rfl rfl dX8_sees_4 ?_
  refine J_iload_n (pc := 5) (q := 2) rfl rfl dX8_sees_5 ?_
  obtain ⟨b6, hb6, g_2⟩ := bnd g_1
  obtain ⟨r6, M6, h6, g_3⟩ := bnd2 g_2
  refine J_callVI (pc := 6) (as := [vI x1, vI x2]) (tX3_pairOf (d := d)  h6) cf_X3_pairOf cv_X3_pairOf clF3 hb6 ml_RX8_167 (by omega) (Nat.le_of_ble_eq_true rfl) dX8_sees_6 ?_
  refine J_istore_n (pc := 9) rfl (by decide) (lv' := [(0, vR (some x0)), (1, vI x1), (2, vI x2), (3, vI r6)]) rfl dX8_sees_9 ?_
  refine J_iload_n (pc := 10) (q := 3) rfl rfl dX8_sees_10 ?_
  refine J_ifge (pc := 11) (tgt := 19) (by decide) dX8_sees_11 (fun hc11 => ?_) (fun hc11 => ?_)
  · rw [if_pos hc11] at g_3
    refine J_aload_n (pc := 19) (q := 0) rfl rfl dX8_sees_19 ?_
    obtain ⟨a20, h20, g_4⟩ := bnd g_3
    refine J_getR (pc := 20) (i := 0) clF8 (by decide) rfl fl_RX8_68 h20 dX8_sees_20 ?_
    refine J_iload_n (pc := 23) (q := 3) rfl rfl dX8_sees_23 ?_
    obtain ⟨b24, hb24, g_5⟩ := bnd g_4
    obtain ⟨r24, M24, h24, g_6⟩ := bnd2 g_5
    refine J_callVI (pc := 24) (as := [vI r6]) (tX3_seenFrom (d := d)  h24) cf_X3_seenFrom cv_X3_seenFrom clF3 hb24 ml_RX8_202 (by omega) (Nat.le_of_ble_eq_true rfl) dX8_sees_24 ?_
    exact J_iret (pc := 27) (qi_of g_6) dX8_sees_27
  · rw [if_neg hc11] at g_3
    refine J_bipush (pc := 14) (v := (-2 : Int32)) (by decide) dX8_sees_14 ?_
    refine J_goto (pc := 16) (tgt := 27) (by decide) dX8_sees_16 ?_
    exact J_iret (pc := 27) (qi_of g_3) dX8_sees_27
set_option maxHeartbeats 4000000 in
set_option maxRecDepth 100000 in
theorem jX8_hiddenRefusal_b52 {ad : Nat → Nat} {ca : Nat → ClassId} {D : va_G} {FU d : Nat} {r : Int32} {N : Mem}    {M : Mem}   (h : fX8_hiddenRefusal_b52 FU  M = some (r, N)) : J ad ca D cX8_hiddenRefusal RX8 4 (d + 3) (Gt ad ca D (some .int) (QI r N)) 52 [] [] M := by
  unfold fX8_hiddenRefusal_b52 at h
  refine J_bipush (pc := 52) (v := (-3 : Int32)) (by decide) dX8_hiddenRefusal_52 ?_
  refine J_goto (pc := 54) (tgt := 58) (by decide) dX8_hiddenRefusal_54 ?_
  exact J_iret (pc := 58) (qi_of h) dX8_hiddenRefusal_58
set_option maxHeartbeats 4000000 in
set_option maxRecDepth 100000 in
theorem tX8_hiddenRefusal {ad : Nat → Nat} {ca : Nat → ClassId} {D : va_G} {FU d : Nat} {r : Int32} {N : Mem}  {x0 : Nat} {x1 : Int32} {x2 : Int32} {x3 : Int32} {M : Mem}  (h : fX8_hiddenRefusal FU  x0 x1 x2 x3 M = some (r, N)) : Ct ad ca D yX8_hiddenRefusal cX8_hiddenRefusal 4 (some .int) (d + 3) [vR (some x0), vI x1, vI x2, vI x3] M (QI r N) := by
  refine Ct_of (by decide) (Nat.le_of_ble_eq_true rfl) ?_
  show J ad ca D cX8_hiddenRefusal RX8 4 (d + 3) (Gt ad ca D (some .int) (QI r N)) 0 [(0, vR (some x0)), (1, vI x1), (2, vI x2), (3, vI x3)] [] M
  unfold fX8_hiddenRefusal at h
  refine J_aload_n (pc := 0) (q := 0) rfl rfl dX8_hiddenRefusal_0 ?_
  obtain ⟨a1, h1, g_1⟩ := bnd h
  refine J_getR (pc := 1) (i := 0) clF8 (by decide) rfl fl_RX8_68 h1 dX8_hiddenRefusal_1 ?_
  refine J_iload_n (pc := 4) (q := 1) rfl rfl dX8_hiddenRefusal_4 ?_
  refine J_iload_n (pc := 5) (q := 2) rfl rfl dX8_hiddenRefusal_5 ?_
  obtain ⟨b6, hb6, g_2⟩ := bnd g_1
  obtain ⟨r6, M6, h6, g_3⟩ := bnd2 g_2
  refine J_callVI (pc := 6) (as := [vI x1, vI x2]) (tX3_pairOf (d := d)  h6) cf_X3_pairOf cv_X3_pairOf clF3 hb6 ml_RX8_167 (by omega) (Nat.le_of_ble_eq_true rfl) dX8_hiddenRefusal_6 ?_
  refine J_iflt (pc := 9) (tgt := 27) (by decide) dX8_hiddenRefusal_9 (fun hc9 => ?_) (fun hc9 => ?_)
  · rw [if_pos hc9] at g_3
    refine J_bipush (pc := 27) (v := (-2 : Int32)) (by decide) dX8_hiddenRefusal_27 ?_
    exact J_iret (pc := 29) (qi_of g_3) dX8_hiddenRefusal_29
  · rw [if_neg hc9] at g_3
    refine J_iload_n (pc := 12) (q := 3) rfl rfl dX8_hiddenRefusal_12 ?_
    refine J_iflt (pc := 13) (tgt := 27) (by decide) dX8_hiddenRefusal_13 (fun hc13 => ?_) (fun hc13 => ?_)
    · rw [if_pos hc13] at g_3
      refine J_bipush (pc := 27) (v := (-2 : Int32)) (by decide) dX8_hiddenRefusal_27 ?_
      exact J_iret (pc := 29) (qi_of g_3) dX8_hiddenRefusal_29
    · rw [if_neg hc13] at g_3
      refine J_iload_n (pc := 16) (q := 3) rfl rfl dX8_hiddenRefusal_16 ?_
      refine J_aload_n (pc := 17) (q := 0) rfl rfl dX8_hiddenRefusal_17 ?_
      obtain ⟨a18, h18, g_4⟩ := bnd g_3
      refine J_getR (pc := 18) (i := 0) clF8 (by decide) rfl fl_RX8_68 h18 dX8_hiddenRefusal_18 ?_
      obtain ⟨b21, hb21, g_5⟩ := bnd g_4
      obtain ⟨r21, M21, h21, g_6⟩ := bnd2 g_5
      refine J_callVI (pc := 21) (as := []) (tX3_allPlaces (d := d)  h21) cf_X3_allPlaces cv_X3_allPlaces clF3 hb21 ml_RX8_218 (by omega) (Nat.le_of_ble_eq_true rfl) dX8_hiddenRefusal_21 ?_
      refine J_icle (pc := 24) (tgt := 30) (by decide) dX8_hiddenRefusal_24 (fun hc24 => ?_) (fun hc24 => ?_)
      · rw [if_pos hc24] at g_6
        refine J_aload_n (pc := 30) (q := 0) rfl rfl dX8_hiddenRefusal_30 ?_
        obtain ⟨a31, h31, g_7⟩ := bnd g_6
        refine J_getR (pc := 31) (i := 0) clF8 (by decide) rfl fl_RX8_68 h31 dX8_hiddenRefusal_31 ?_
        obtain ⟨a34, h34, g_8⟩ := bnd g_7
        refine J_getI (pc := 34) (i := 9) clF3 (by decide) rfl fl_RX8_182 h34 dX8_hiddenRefusal_34 ?_
        refine J_ifgt (pc := 37) (tgt := 52) (by decide) dX8_hiddenRefusal_37 (fun hc37 => ?_) (fun hc37 => ?_)
        · rw [if_pos hc37] at g_8
          refine J_sub [] (lv' := []) rfl ?_
          exact jX8_hiddenRefusal_b52  g_8
        · rw [if_neg hc37] at g_8
          refine J_aload_n (pc := 40) (q := 0) rfl rfl dX8_hiddenRefusal_40 ?_
          obtain ⟨a41, h41, g_9⟩ := bnd g_8
          refine J_getR (pc := 41) (i := 0) clF8 (by decide) rfl fl_RX8_68 h41 dX8_hiddenRefusal_41 ?_
          obtain ⟨a44, h44, g_10⟩ := bnd g_9
          refine J_getI (pc := 44) (i := 0) clF3 (by decide) rfl fl_RX8_196 h44 dX8_hiddenRefusal_44 ?_
          refine J_bipush (pc := 47) (v := (6 : Int32)) (by decide) dX8_hiddenRefusal_47 ?_
          refine J_icle (pc := 49) (tgt := 57) (by decide) dX8_hiddenRefusal_49 (fun hc49 => ?_) (fun hc49 => ?_)
          · rw [if_pos hc49] at g_10
            refine J_iconst (pc := 57) (v := (0 : Int32)) (by decide) dX8_hiddenRefusal_57 ?_
            exact J_iret (pc := 58) (qi_of g_10) dX8_hiddenRefusal_58
          · rw [if_neg hc49] at g_10
            refine J_sub [] (lv' := []) rfl ?_
            exact jX8_hiddenRefusal_b52  g_10
      · rw [if_neg hc24] at g_6
        refine J_bipush (pc := 27) (v := (-2 : Int32)) (by decide) dX8_hiddenRefusal_27 ?_
        exact J_iret (pc := 29) (qi_of g_6) dX8_hiddenRefusal_29
set_option maxHeartbeats 4000000 in
set_option maxRecDepth 100000 in
theorem tX8_solvedHidden {ad : Nat → Nat} {ca : Nat → ClassId} {D : va_G} {FU d : Nat} {r : Option Nat} {N : Mem}  {x0 : Nat} {M : Mem}  (h : fX8_solvedHidden FU  x0 M = some (r, N)) : Ct ad ca D yX8_solvedHidden cX8_solvedHidden 1 (some (.object "WolfVillage$Hidden")) (d + 6) [vR (some x0)] M (QR r N) := by
  refine Ct_of (by decide) (Nat.le_of_ble_eq_true rfl) ?_
  show J ad ca D cX8_solvedHidden RX8 1 (d + 6) (Gt ad ca D (some (.object "WolfVillage$Hidden")) (QR r N)) 0 [(0, vR (some x0))] [] M
  unfold fX8_solvedHidden at h
  refine J_aload_n (pc := 0) (q := 0) rfl rfl dX8_solvedHidden_0 ?_
  obtain ⟨a1, h1, g_1⟩ := bnd h
  refine J_getR (pc := 1) (i := 4) clF8 (by decide) rfl fl_RX8_26 h1 dX8_solvedHidden_1 ?_
  obtain ⟨a4, h4, g_2⟩ := bnd g_1
  refine J_getI (pc := 4) (i := 0) clF1 (by decide) rfl fl_RX8_221 h4 dX8_solvedHidden_4 ?_
  refine J_aload_n (pc := 7) (q := 0) rfl rfl dX8_solvedHidden_7 ?_
  obtain ⟨a8, h8, g_3⟩ := bnd g_2
  refine J_getR (pc := 8) (i := 0) clF8 (by decide) rfl fl_RX8_68 h8 dX8_solvedHidden_8 ?_
  obtain ⟨a11, h11, g_4⟩ := bnd g_3
  refine J_getI (pc := 11) (i := 12) clF3 (by decide) rfl fl_RX8_125 h11 dX8_solvedHidden_11 ?_
  refine J_iceq (pc := 14) (tgt := 28) (by decide) dX8_solvedHidden_14 (fun hc14 => ?_) (fun hc14 => ?_)
  · rw [if_pos hc14] at g_4
    refine J_aload_n (pc := 28) (q := 0) rfl rfl dX8_solvedHidden_28 ?_
    obtain ⟨a29, h29, g_5⟩ := bnd g_4
    refine J_getR (pc := 29) (i := 4) clF8 (by decide) rfl fl_RX8_26 h29 dX8_solvedHidden_29 ?_
    exact J_aret (pc := 32) (qr_of g_5) dX8_solvedHidden_32
  · rw [if_neg hc14] at g_4
    refine J_aload_n (pc := 17) (q := 0) rfl rfl dX8_solvedHidden_17 ?_
    obtain ⟨a18, h18, g_6⟩ := bnd g_4
    refine J_getR (pc := 18) (i := 4) clF8 (by decide) rfl fl_RX8_26 h18 dX8_solvedHidden_18 ?_
    refine J_aload_n (pc := 21) (q := 0) rfl rfl dX8_solvedHidden_21 ?_
    obtain ⟨a22, h22, g_7⟩ := bnd g_6
    refine J_getR (pc := 22) (i := 0) clF8 (by decide) rfl fl_RX8_68 h22 dX8_solvedHidden_22 ?_
    obtain ⟨b25, hb25, g_8⟩ := bnd g_7
    obtain ⟨M25, h25, g_9⟩ := bnd g_8
    refine J_callVV (pc := 25) (as := [vR a22]) (tX1_solve (d := d)  h25) cf_X1_solve cv_X1_solve clF1 hb25 ml_RX8_222 (by omega) (Nat.le_of_ble_eq_true rfl) dX8_solvedHidden_25 ?_
    refine J_aload_n (pc := 28) (q := 0) rfl rfl dX8_solvedHidden_28 ?_
    obtain ⟨a29, h29, g_10⟩ := bnd g_9
    refine J_getR (pc := 29) (i := 4) clF8 (by decide) rfl fl_RX8_26 h29 dX8_solvedHidden_29 ?_
    exact J_aret (pc := 32) (qr_of g_10) dX8_solvedHidden_32
set_option maxHeartbeats 4000000 in
set_option maxRecDepth 100000 in
theorem tX8_sure {ad : Nat → Nat} {ca : Nat → ClassId} {D : va_G} {FU d : Nat} {r : Int32} {N : Mem}  {x0 : Nat} {x1 : Int32} {x2 : Int32} {x3 : Int32} {M : Mem}  (h : fX8_sure FU  x0 x1 x2 x3 M = some (r, N)) : Ct ad ca D yX8_sure cX8_sure 5 (some .int) (d + 7) [vR (some x0), vI x1, vI x2, vI x3] M (QI r N) := by
  refine Ct_of (by decide) (Nat.le_of_ble_eq_true rfl) ?_
  show J ad ca D cX8_sure RX8 5 (d + 7) (Gt ad ca D (some .int) (QI r N)) 0 [(0, vR (some x0)), (1, vI x1), (2, vI x2), (3, vI x3)] [] M
  unfold fX8_sure at h
  refine J_aload_n (pc := 0) (q := 0) rfl rfl dX8_sure_0 ?_
  refine J_iload_n (pc := 1) (q := 1) rfl rfl dX8_sure_1 ?_
  refine J_iload_n (pc := 2) (q := 2) rfl rfl dX8_sure_2 ?_
  refine J_iload_n (pc := 3) (q := 3) rfl rfl dX8_sure_3 ?_
  obtain ⟨b4, hb4, g_1⟩ := bnd h
  obtain ⟨r4, M4, h4, g_2⟩ := bnd2 g_1
  refine J_callVI (pc := 4) (as := [vI x1, vI x2, vI x3]) (tX8_hiddenRefusal (d := d)  h4) cf_X8_hiddenRefusal cv_X8_hiddenRefusal clF8 hb4 ml_RX8_205 (by omega) (Nat.le_of_ble_eq_true rfl) dX8_sure_4 ?_
  refine J_istore (pc := 7) (by decide) (lv' := [(0, vR (some x0)), (1, vI x1), (2, vI x2), (3, vI x3), (4, vI r4)]) rfl dX8_sure_7 ?_
  refine J_iload (pc := 9) (q := 4) rfl dX8_sure_9 ?_
  refine J_ifeq (pc := 11) (tgt := 17) (by decide) dX8_sure_11 (fun hc11 => ?_) (fun hc11 => ?_)
  · rw [if_pos hc11] at g_2
    refine J_aload_n (pc := 17) (q := 0) rfl rfl dX8_sure_17 ?_
    obtain ⟨b18, hb18, g_3⟩ := bnd g_2
    obtain ⟨r18, M18, h18, g_4⟩ := bnd2 g_3
    refine J_callVR (pc := 18) (as := []) (tX8_solvedHidden (d := d)  h18) cf_X8_solvedHidden cv_X8_solvedHidden clF8 hb18 ml_RX8_208 (by omega) (Nat.le_of_ble_eq_true rfl) dX8_sure_18 ?_
    refine J_aload_n (pc := 21) (q := 0) rfl rfl dX8_sure_21 ?_
    obtain ⟨a22, h22, g_5⟩ := bnd g_4
    refine J_getR (pc := 22) (i := 0) clF8 (by decide) rfl fl_RX8_68 h22 dX8_sure_22 ?_
    refine J_iload_n (pc := 25) (q := 1) rfl rfl dX8_sure_25 ?_
    refine J_iload_n (pc := 26) (q := 2) rfl rfl dX8_sure_26 ?_
    obtain ⟨b27, hb27, g_6⟩ := bnd g_5
    obtain ⟨r27, M27, h27, g_7⟩ := bnd2 g_6
    refine J_callVI (pc := 27) (as := [vI x1, vI x2]) (tX3_pairOf (d := d)  h27) cf_X3_pairOf cv_X3_pairOf clF3 hb27 ml_RX8_167 (by omega) (Nat.le_of_ble_eq_true rfl) dX8_sure_27 ?_
    refine J_iload_n (pc := 30) (q := 3) rfl rfl dX8_sure_30 ?_
    obtain ⟨b31, hb31, g_8⟩ := bnd g_7
    obtain ⟨r31, M31, h31, g_9⟩ := bnd2 g_8
    refine J_callVI (pc := 31) (as := [vI r27, vI x3]) (tX1_leastRounds (d := d)  h31) cf_X1_leastRounds cv_X1_leastRounds clF1 hb31 ml_RX8_212 (by omega) (Nat.le_of_ble_eq_true rfl) dX8_sure_31 ?_
    exact J_iret (pc := 34) (qi_of g_9) dX8_sure_34
  · rw [if_neg hc11] at g_2
    refine J_iload (pc := 14) (q := 4) rfl dX8_sure_14 ?_
    exact J_iret (pc := 16) (qi_of g_2) dX8_sure_16
set_option maxHeartbeats 4000000 in
set_option maxRecDepth 100000 in
theorem tX8_first {ad : Nat → Nat} {ca : Nat → ClassId} {D : va_G} {FU d : Nat} {r : Int32} {N : Mem}  {x0 : Nat} {x1 : Int32} {x2 : Int32} {x3 : Int32} {M : Mem}  (h : fX8_first FU  x0 x1 x2 x3 M = some (r, N)) : Ct ad ca D yX8_first cX8_first 5 (some .int) (d + 7) [vR (some x0), vI x1, vI x2, vI x3] M (QI r N) := by
  refine Ct_of (by decide) (Nat.le_of_ble_eq_true rfl) ?_
  show J ad ca D cX8_first RX8 5 (d + 7) (Gt ad ca D (some .int) (QI r N)) 0 [(0, vR (some x0)), (1, vI x1), (2, vI x2), (3, vI x3)] [] M
  unfold fX8_first at h
  refine J_aload_n (pc := 0) (q := 0) rfl rfl dX8_first_0 ?_
  refine J_iload_n (pc := 1) (q := 1) rfl rfl dX8_first_1 ?_
  refine J_iload_n (pc := 2) (q := 2) rfl rfl dX8_first_2 ?_
  refine J_iload_n (pc := 3) (q := 3) rfl rfl dX8_first_3 ?_
  obtain ⟨b4, hb4, g_1⟩ := bnd h
  obtain ⟨r4, M4, h4, g_2⟩ := bnd2 g_1
  refine J_callVI (pc := 4) (as := [vI x1, vI x2, vI x3]) (tX8_hiddenRefusal (d := d)  h4) cf_X8_hiddenRefusal cv_X8_hiddenRefusal clF8 hb4 ml_RX8_205 (by omega) (Nat.le_of_ble_eq_true rfl) dX8_first_4 ?_
  refine J_istore (pc := 7) (by decide) (lv' := [(0, vR (some x0)), (1, vI x1), (2, vI x2), (3, vI x3), (4, vI r4)]) rfl dX8_first_7 ?_
  refine J_iload (pc := 9) (q := 4) rfl dX8_first_9 ?_
  refine J_ifeq (pc := 11) (tgt := 17) (by decide) dX8_first_11 (fun hc11 => ?_) (fun hc11 => ?_)
  · rw [if_pos hc11] at g_2
    refine J_aload_n (pc := 17) (q := 0) rfl rfl dX8_first_17 ?_
    obtain ⟨b18, hb18, g_3⟩ := bnd g_2
    obtain ⟨r18, M18, h18, g_4⟩ := bnd2 g_3
    refine J_callVR (pc := 18) (as := []) (tX8_solvedHidden (d := d)  h18) cf_X8_solvedHidden cv_X8_solvedHidden clF8 hb18 ml_RX8_208 (by omega) (Nat.le_of_ble_eq_true rfl) dX8_first_18 ?_
    refine J_aload_n (pc := 21) (q := 0) rfl rfl dX8_first_21 ?_
    obtain ⟨a22, h22, g_5⟩ := bnd g_4
    refine J_getR (pc := 22) (i := 0) clF8 (by decide) rfl fl_RX8_68 h22 dX8_first_22 ?_
    refine J_iload_n (pc := 25) (q := 1) rfl rfl dX8_first_25 ?_
    refine J_iload_n (pc := 26) (q := 2) rfl rfl dX8_first_26 ?_
    obtain ⟨b27, hb27, g_6⟩ := bnd g_5
    obtain ⟨r27, M27, h27, g_7⟩ := bnd2 g_6
    refine J_callVI (pc := 27) (as := [vI x1, vI x2]) (tX3_pairOf (d := d)  h27) cf_X3_pairOf cv_X3_pairOf clF3 hb27 ml_RX8_167 (by omega) (Nat.le_of_ble_eq_true rfl) dX8_first_27 ?_
    refine J_iload_n (pc := 30) (q := 3) rfl rfl dX8_first_30 ?_
    obtain ⟨b31, hb31, g_8⟩ := bnd g_7
    obtain ⟨r31, M31, h31, g_9⟩ := bnd2 g_8
    refine J_callVI (pc := 31) (as := [vI r27, vI x3]) (tX1_surestMove (d := d)  h31) cf_X1_surestMove cv_X1_surestMove clF1 hb31 ml_RX8_215 (by omega) (Nat.le_of_ble_eq_true rfl) dX8_first_31 ?_
    exact J_iret (pc := 34) (qi_of g_9) dX8_first_34
  · rw [if_neg hc11] at g_2
    refine J_iload (pc := 14) (q := 4) rfl dX8_first_14 ?_
    exact J_iret (pc := 16) (qi_of g_2) dX8_first_16
set_option maxHeartbeats 4000000 in
set_option maxRecDepth 100000 in
theorem tX8_start {ad : Nat → Nat} {ca : Nat → ClassId} {D : va_G} {FU d : Nat} {r : Int32} {N : Mem}  {x0 : Nat} {x1 : Int32} {x2 : Int32} {x3 : Int32} {M : Mem}  (h : fX8_start FU  x0 x1 x2 x3 M = some (r, N)) : Ct ad ca D yX8_start cX8_start 5 (some .int) (d + 4) [vR (some x0), vI x1, vI x2, vI x3] M (QI r N) := by
  refine Ct_of (by decide) (Nat.le_of_ble_eq_true rfl) ?_
  show J ad ca D cX8_start RX8 5 (d + 4) (Gt ad ca D (some .int) (QI r N)) 0 [(0, vR (some x0)), (1, vI x1), (2, vI x2), (3, vI x3)] [] M
  unfold fX8_start at h
  refine J_aload_n (pc := 0) (q := 0) rfl rfl dX8_start_0 ?_
  obtain ⟨a1, h1, g_1⟩ := bnd h
  refine J_getR (pc := 1) (i := 0) clF8 (by decide) rfl fl_RX8_68 h1 dX8_start_1 ?_
  refine J_iload_n (pc := 4) (q := 1) rfl rfl dX8_start_4 ?_
  refine J_iload_n (pc := 5) (q := 2) rfl rfl dX8_start_5 ?_
  obtain ⟨b6, hb6, g_2⟩ := bnd g_1
  obtain ⟨r6, M6, h6, g_3⟩ := bnd2 g_2
  refine J_callVI (pc := 6) (as := [vI x1, vI x2]) (tX3_pairOf (d := d)  h6) cf_X3_pairOf cv_X3_pairOf clF3 hb6 ml_RX8_167 (by omega) (Nat.le_of_ble_eq_true rfl) dX8_start_6 ?_
  refine J_istore (pc := 9) (by decide) (lv' := [(0, vR (some x0)), (1, vI x1), (2, vI x2), (3, vI x3), (4, vI r6)]) rfl dX8_start_9 ?_
  refine J_iload (pc := 11) (q := 4) rfl dX8_start_11 ?_
  refine J_iflt (pc := 13) (tgt := 27) (by decide) dX8_start_13 (fun hc13 => ?_) (fun hc13 => ?_)
  · rw [if_pos hc13] at g_3
    refine J_bipush (pc := 27) (v := (-2 : Int32)) (by decide) dX8_start_27 ?_
    exact J_iret (pc := 29) (qi_of g_3) dX8_start_29
  · rw [if_neg hc13] at g_3
    refine J_aload_n (pc := 16) (q := 0) rfl rfl dX8_start_16 ?_
    obtain ⟨a17, h17, g_4⟩ := bnd g_3
    refine J_getR (pc := 17) (i := 0) clF8 (by decide) rfl fl_RX8_68 h17 dX8_start_17 ?_
    refine J_iload_n (pc := 20) (q := 3) rfl rfl dX8_start_20 ?_
    obtain ⟨b21, hb21, g_5⟩ := bnd g_4
    obtain ⟨r21, M21, h21, g_6⟩ := bnd2 g_5
    refine J_callVI (pc := 21) (as := [vI x3]) (tX3_has (d := d)  h21) cf_X3_has cv_X3_has clF3 hb21 ml_RX8_109 (by omega) (Nat.le_of_ble_eq_true rfl) dX8_start_21 ?_
    refine J_ifne (pc := 24) (tgt := 30) (by decide) dX8_start_24 (fun hc24 => ?_) (fun hc24 => ?_)
    · rw [if_pos hc24] at g_6
      refine J_iload (pc := 30) (q := 4) rfl dX8_start_30 ?_
      obtain ⟨r32, M32, h32, g_7⟩ := bnd2 g_6
      refine J_callSI (pc := 32) (as := [vI r6]) (tX3_placesOf (d := d)  h32) cf_X3_placesOf cv_X3_placesOf ml_RX8_223 (by omega) (Nat.le_of_ble_eq_true rfl) dX8_start_32 ?_
      refine J_iload_n (pc := 35) (q := 3) rfl rfl dX8_start_35 ?_
      refine J_ishr (pc := 36) dX8_start_36 ?_
      refine J_iconst (pc := 37) (v := (1 : Int32)) (by decide) dX8_start_37 ?_
      refine J_iand (pc := 38) dX8_start_38 ?_
      refine J_ifeq (pc := 39) (tgt := 45) (by decide) dX8_start_39 (fun hc39 => ?_) (fun hc39 => ?_)
      · rw [if_pos hc39] at g_7
        refine J_aload_n (pc := 45) (q := 0) rfl rfl dX8_start_45 ?_
        obtain ⟨a46, h46, g_8⟩ := bnd g_7
        refine J_getR (pc := 46) (i := 5) clF8 (by decide) rfl fl_RX8_33 h46 dX8_start_46 ?_
        refine J_aload_n (pc := 49) (q := 0) rfl rfl dX8_start_49 ?_
        obtain ⟨a50, h50, g_9⟩ := bnd g_8
        refine J_getR (pc := 50) (i := 0) clF8 (by decide) rfl fl_RX8_68 h50 dX8_start_50 ?_
        refine J_iload (pc := 53) (q := 4) rfl dX8_start_53 ?_
        refine J_iload_n (pc := 55) (q := 3) rfl rfl dX8_start_55 ?_
        obtain ⟨b56, hb56, g_10⟩ := bnd g_9
        obtain ⟨M56, h56, g_11⟩ := bnd g_10
        refine J_callVV (pc := 56) (as := [vR a50, vI r6, vI x3]) (tX0_begin (d := d)  h56) cf_X0_begin cv_X0_begin clF0 hb56 ml_RX8_226 (by omega) (Nat.le_of_ble_eq_true rfl) dX8_start_56 ?_
        refine J_aload_n (pc := 59) (q := 0) rfl rfl dX8_start_59 ?_
        obtain ⟨a60, h60, g_12⟩ := bnd g_11
        refine J_getR (pc := 60) (i := 5) clF8 (by decide) rfl fl_RX8_33 h60 dX8_start_60 ?_
        obtain ⟨a63, h63, g_13⟩ := bnd g_12
        refine J_getI (pc := 63) (i := 2) clF0 (by decide) rfl fl_RX8_230 h63 dX8_start_63 ?_
        exact J_iret (pc := 66) (qi_of g_13) dX8_start_66
      · rw [if_neg hc39] at g_7
        refine J_bipush (pc := 42) (v := (-3 : Int32)) (by decide) dX8_start_42 ?_
        exact J_iret (pc := 44) (qi_of g_7) dX8_start_44
    · rw [if_neg hc24] at g_6
      refine J_bipush (pc := 27) (v := (-2 : Int32)) (by decide) dX8_start_27 ?_
      exact J_iret (pc := 29) (qi_of g_6) dX8_start_29
set_option maxHeartbeats 4000000 in
set_option maxRecDepth 100000 in
theorem tX8_move {ad : Nat → Nat} {ca : Nat → ClassId} {D : va_G} {FU d : Nat} {r : Int32} {N : Mem}  {x0 : Nat} {x1 : Int32} {M : Mem}  (h : fX8_move FU  x0 x1 M = some (r, N)) : Ct ad ca D yX8_move cX8_move 3 (some .int) (d + 6) [vR (some x0), vI x1] M (QI r N) := by
  refine Ct_of (by decide) (Nat.le_of_ble_eq_true rfl) ?_
  show J ad ca D cX8_move RX8 3 (d + 6) (Gt ad ca D (some .int) (QI r N)) 0 [(0, vR (some x0)), (1, vI x1)] [] M
  unfold fX8_move at h
  refine J_iload_n (pc := 0) (q := 1) rfl rfl dX8_move_0 ?_
  refine J_iflt (pc := 1) (tgt := 10) (by decide) dX8_move_1 (fun hc1 => ?_) (fun hc1 => ?_)
  · rw [if_pos hc1] at h
    refine J_bipush (pc := 10) (v := (-2 : Int32)) (by decide) dX8_move_10 ?_
    exact J_iret (pc := 12) (qi_of h) dX8_move_12
  · rw [if_neg hc1] at h
    refine J_iload_n (pc := 4) (q := 1) rfl rfl dX8_move_4 ?_
    refine J_bipush (pc := 5) (v := (32 : Int32)) (by decide) dX8_move_5 ?_
    refine J_icle (pc := 7) (tgt := 13) (by decide) dX8_move_7 (fun hc7 => ?_) (fun hc7 => ?_)
    · rw [if_pos hc7] at h
      refine J_aload_n (pc := 13) (q := 0) rfl rfl dX8_move_13 ?_
      obtain ⟨a14, h14, g_1⟩ := bnd h
      refine J_getR (pc := 14) (i := 5) clF8 (by decide) rfl fl_RX8_33 h14 dX8_move_14 ?_
      obtain ⟨a17, h17, g_2⟩ := bnd g_1
      refine J_getI (pc := 17) (i := 0) clF0 (by decide) rfl fl_RX8_80 h17 dX8_move_17 ?_
      refine J_ifne (pc := 20) (tgt := 26) (by decide) dX8_move_20 (fun hc20 => ?_) (fun hc20 => ?_)
      · rw [if_pos hc20] at g_2
        refine J_aload_n (pc := 26) (q := 0) rfl rfl dX8_move_26 ?_
        obtain ⟨b27, hb27, g_3⟩ := bnd g_2
        obtain ⟨r27, M27, h27, g_4⟩ := bnd2 g_3
        refine J_callVR (pc := 27) (as := []) (tX8_solvedStandings (d := d)  h27) cf_X8_solvedStandings cv_X8_solvedStandings clF8 hb27 ml_RX8_132 (by omega) (Nat.le_of_ble_eq_true rfl) dX8_move_27 ?_
        refine J_astore_n (pc := 30) rfl (by decide) (lv' := [(0, vR (some x0)), (1, vI x1), (2, vR r27)]) rfl dX8_move_30 ?_
        refine J_aload_n (pc := 31) (q := 2) rfl rfl dX8_move_31 ?_
        obtain ⟨a32, h32, g_5⟩ := bnd g_4
        refine J_getR (pc := 32) (i := 5) clF6 (by decide) rfl fl_RX8_136 h32 dX8_move_32 ?_
        refine J_aload_n (pc := 35) (q := 0) rfl rfl dX8_move_35 ?_
        obtain ⟨a36, h36, g_6⟩ := bnd g_5
        refine J_getR (pc := 36) (i := 5) clF8 (by decide) rfl fl_RX8_33 h36 dX8_move_36 ?_
        obtain ⟨a39, h39, g_7⟩ := bnd g_6
        refine J_getI (pc := 39) (i := 1) clF0 (by decide) rfl fl_RX8_233 h39 dX8_move_39 ?_
        obtain ⟨a42, h42, g_8⟩ := bnd g_7
        refine J_ald0 (pc := 42) h42 dX8_move_42 ?_
        refine J_ifeq (pc := 43) (tgt := 61) (by decide) dX8_move_43 (fun hc43 => ?_) (fun hc43 => ?_)
        · rw [if_pos hc43] at g_8
          refine J_bipush (pc := 61) (v := (-3 : Int32)) (by decide) dX8_move_61 ?_
          exact J_iret (pc := 63) (qi_of g_8) dX8_move_63
        · rw [if_neg hc43] at g_8
          refine J_aload_n (pc := 46) (q := 2) rfl rfl dX8_move_46 ?_
          refine J_aload_n (pc := 47) (q := 0) rfl rfl dX8_move_47 ?_
          obtain ⟨a48, h48, g_9⟩ := bnd g_8
          refine J_getR (pc := 48) (i := 5) clF8 (by decide) rfl fl_RX8_33 h48 dX8_move_48 ?_
          obtain ⟨a51, h51, g_10⟩ := bnd g_9
          refine J_getI (pc := 51) (i := 1) clF0 (by decide) rfl fl_RX8_233 h51 dX8_move_51 ?_
          refine J_iload_n (pc := 54) (q := 1) rfl rfl dX8_move_54 ?_
          obtain ⟨b55, hb55, g_11⟩ := bnd g_10
          obtain ⟨r55, M55, h55, g_12⟩ := bnd2 g_11
          refine J_callVI (pc := 55) (as := [vI a51, vI x1]) (tX6_after (d := d)  h55) cf_X6_after cv_X6_after clF6 hb55 ml_RX8_236 (by omega) (Nat.le_of_ble_eq_true rfl) dX8_move_55 ?_
          refine J_ifge (pc := 58) (tgt := 64) (by decide) dX8_move_58 (fun hc58 => ?_) (fun hc58 => ?_)
          · rw [if_pos hc58] at g_12
            refine J_aload_n (pc := 64) (q := 0) rfl rfl dX8_move_64 ?_
            obtain ⟨a65, h65, g_13⟩ := bnd g_12
            refine J_getR (pc := 65) (i := 5) clF8 (by decide) rfl fl_RX8_33 h65 dX8_move_65 ?_
            refine J_aload_n (pc := 68) (q := 2) rfl rfl dX8_move_68 ?_
            refine J_iload_n (pc := 69) (q := 1) rfl rfl dX8_move_69 ?_
            obtain ⟨b70, hb70, g_14⟩ := bnd g_13
            obtain ⟨M70, h70, g_15⟩ := bnd g_14
            refine J_callVV (pc := 70) (as := [vR r27, vI x1]) (tX0_turn (d := d)  h70) cf_X0_turn cv_X0_turn clF0 hb70 ml_RX8_239 (by omega) (Nat.le_of_ble_eq_true rfl) dX8_move_70 ?_
            refine J_aload_n (pc := 73) (q := 0) rfl rfl dX8_move_73 ?_
            obtain ⟨a74, h74, g_16⟩ := bnd g_15
            refine J_getR (pc := 74) (i := 5) clF8 (by decide) rfl fl_RX8_33 h74 dX8_move_74 ?_
            obtain ⟨a77, h77, g_17⟩ := bnd g_16
            refine J_getI (pc := 77) (i := 2) clF0 (by decide) rfl fl_RX8_230 h77 dX8_move_77 ?_
            exact J_iret (pc := 80) (qi_of g_17) dX8_move_80
          · rw [if_neg hc58] at g_12
            refine J_bipush (pc := 61) (v := (-3 : Int32)) (by decide) dX8_move_61 ?_
            exact J_iret (pc := 63) (qi_of g_12) dX8_move_63
      · rw [if_neg hc20] at g_2
        refine J_bipush (pc := 23) (v := (-3 : Int32)) (by decide) dX8_move_23 ?_
        exact J_iret (pc := 25) (qi_of g_2) dX8_move_25
    · rw [if_neg hc7] at h
      refine J_bipush (pc := 10) (v := (-2 : Int32)) (by decide) dX8_move_10 ?_
      exact J_iret (pc := 12) (qi_of h) dX8_move_12
set_option maxHeartbeats 4000000 in
set_option maxRecDepth 100000 in
theorem jX8_play_L34 {ad : Nat → Nat} {ca : Nat → ClassId} {D : va_G} {FU d : Nat} {r : Int32} {N : Mem}   {x0 : Nat} {x1 : Int32} {x2 : Option Nat}   : ∀ (F : Nat) (x3 : Int32) (M : Mem), fX8_play_L34 FU  x0 x1 x2 F x3 M = some (r, N) → J ad ca D cX8_play RX8 4 (d + 6) (Gt ad ca D (some .int) (QI r N)) 34 [(0, vR (some x0)), (1, vI x1), (2, vR x2), (3, vI x3)] [] M := by
  intro F
  induction F with
  | zero =>
    intro x3 M h
    rw [fX8_play_L34] at h
    cases h
  | succ F hk34 =>
    intro x3 M h
    rw [fX8_play_L34] at h
    refine J_iload_n (pc := 34) (q := 3) rfl rfl dX8_play_34 ?_
    refine J_iload_n (pc := 35) (q := 1) rfl rfl dX8_play_35 ?_
    refine J_icge (pc := 36) (tgt := 79) (by decide) dX8_play_36 (fun hc36 => ?_) (fun hc36 => ?_)
    · rw [if_pos hc36] at h
      refine J_iload_n (pc := 79) (q := 3) rfl rfl dX8_play_79 ?_
      exact J_iret (pc := 80) (qi_of h) dX8_play_80
    · rw [if_neg hc36] at h
      refine J_aload_n (pc := 39) (q := 2) rfl rfl dX8_play_39 ?_
      obtain ⟨a40, h40, g_1⟩ := bnd h
      refine J_getR (pc := 40) (i := 5) clF6 (by decide) rfl fl_RX8_136 h40 dX8_play_40 ?_
      refine J_aload_n (pc := 43) (q := 0) rfl rfl dX8_play_43 ?_
      obtain ⟨a44, h44, g_2⟩ := bnd g_1
      refine J_getR (pc := 44) (i := 5) clF8 (by decide) rfl fl_RX8_33 h44 dX8_play_44 ?_
      obtain ⟨a47, h47, g_3⟩ := bnd g_2
      refine J_getI (pc := 47) (i := 1) clF0 (by decide) rfl fl_RX8_233 h47 dX8_play_47 ?_
      obtain ⟨a50, h50, g_4⟩ := bnd g_3
      refine J_ald0 (pc := 50) h50 dX8_play_50 ?_
      refine J_ifeq (pc := 51) (tgt := 79) (by decide) dX8_play_51 (fun hc51 => ?_) (fun hc51 => ?_)
      · rw [if_pos hc51] at g_4
        refine J_iload_n (pc := 79) (q := 3) rfl rfl dX8_play_79 ?_
        exact J_iret (pc := 80) (qi_of g_4) dX8_play_80
      · rw [if_neg hc51] at g_4
        refine J_aload_n (pc := 54) (q := 0) rfl rfl dX8_play_54 ?_
        obtain ⟨a55, h55, g_5⟩ := bnd g_4
        refine J_getR (pc := 55) (i := 5) clF8 (by decide) rfl fl_RX8_33 h55 dX8_play_55 ?_
        refine J_aload_n (pc := 58) (q := 2) rfl rfl dX8_play_58 ?_
        refine J_aload_n (pc := 59) (q := 2) rfl rfl dX8_play_59 ?_
        refine J_aload_n (pc := 60) (q := 0) rfl rfl dX8_play_60 ?_
        obtain ⟨a61, h61, g_6⟩ := bnd g_5
        refine J_getR (pc := 61) (i := 5) clF8 (by decide) rfl fl_RX8_33 h61 dX8_play_61 ?_
        obtain ⟨a64, h64, g_7⟩ := bnd g_6
        refine J_getI (pc := 64) (i := 1) clF0 (by decide) rfl fl_RX8_233 h64 dX8_play_64 ?_
        obtain ⟨b67, hb67, g_8⟩ := bnd g_7
        obtain ⟨r67, M67, h67, g_9⟩ := bnd2 g_8
        refine J_callVI (pc := 67) (as := [vI a64]) (tX6_bestMove (d := d)  h67) cf_X6_bestMove cv_X6_bestMove clF6 hb67 ml_RX8_139 (by omega) (Nat.le_of_ble_eq_true rfl) dX8_play_67 ?_
        obtain ⟨b70, hb70, g_10⟩ := bnd g_9
        obtain ⟨M70, h70, g_11⟩ := bnd g_10
        refine J_callVV (pc := 70) (as := [vR x2, vI r67]) (tX0_turn (d := d)  h70) cf_X0_turn cv_X0_turn clF0 hb70 ml_RX8_239 (by omega) (Nat.le_of_ble_eq_true rfl) dX8_play_70 ?_
        refine J_iinc (pc := 73) (q := 3) rfl (v := x3 + (1 : Int32)) rfl (by decide) (lv' := [(0, vR (some x0)), (1, vI x1), (2, vR x2), (3, vI (x3 + (1 : Int32)))]) rfl dX8_play_73 ?_
        refine J_goto (pc := 76) (tgt := 34) (by decide) dX8_play_76 ?_
        exact hk34 _ _ g_11
set_option maxHeartbeats 4000000 in
set_option maxRecDepth 100000 in
theorem tX8_play {ad : Nat → Nat} {ca : Nat → ClassId} {D : va_G} {FU d : Nat} {r : Int32} {N : Mem}  {x0 : Nat} {x1 : Int32} {M : Mem}  (h : fX8_play FU  x0 x1 M = some (r, N)) : Ct ad ca D yX8_play cX8_play 4 (some .int) (d + 6) [vR (some x0), vI x1] M (QI r N) := by
  refine Ct_of (by decide) (Nat.le_of_ble_eq_true rfl) ?_
  show J ad ca D cX8_play RX8 4 (d + 6) (Gt ad ca D (some .int) (QI r N)) 0 [(0, vR (some x0)), (1, vI x1)] [] M
  unfold fX8_play at h
  refine J_iload_n (pc := 0) (q := 1) rfl rfl dX8_play_0 ?_
  refine J_iconst (pc := 1) (v := (1 : Int32)) (by decide) dX8_play_1 ?_
  refine J_iclt (pc := 2) (tgt := 11) (by decide) dX8_play_2 (fun hc2 => ?_) (fun hc2 => ?_)
  · rw [if_pos hc2] at h
    refine J_bipush (pc := 11) (v := (-2 : Int32)) (by decide) dX8_play_11 ?_
    exact J_iret (pc := 13) (qi_of h) dX8_play_13
  · rw [if_neg hc2] at h
    refine J_iload_n (pc := 5) (q := 1) rfl rfl dX8_play_5 ?_
    refine J_bipush (pc := 6) (v := (40 : Int32)) (by decide) dX8_play_6 ?_
    refine J_icle (pc := 8) (tgt := 14) (by decide) dX8_play_8 (fun hc8 => ?_) (fun hc8 => ?_)
    · rw [if_pos hc8] at h
      refine J_aload_n (pc := 14) (q := 0) rfl rfl dX8_play_14 ?_
      obtain ⟨a15, h15, g_12⟩ := bnd h
      refine J_getR (pc := 15) (i := 5) clF8 (by decide) rfl fl_RX8_33 h15 dX8_play_15 ?_
      obtain ⟨a18, h18, g_13⟩ := bnd g_12
      refine J_getI (pc := 18) (i := 0) clF0 (by decide) rfl fl_RX8_80 h18 dX8_play_18 ?_
      refine J_ifne (pc := 21) (tgt := 27) (by decide) dX8_play_21 (fun hc21 => ?_) (fun hc21 => ?_)
      · rw [if_pos hc21] at g_13
        refine J_aload_n (pc := 27) (q := 0) rfl rfl dX8_play_27 ?_
        obtain ⟨b28, hb28, g_14⟩ := bnd g_13
        obtain ⟨r28, M28, h28, g_15⟩ := bnd2 g_14
        refine J_callVR (pc := 28) (as := []) (tX8_solvedStandings (d := d)  h28) cf_X8_solvedStandings cv_X8_solvedStandings clF8 hb28 ml_RX8_132 (by omega) (Nat.le_of_ble_eq_true rfl) dX8_play_28 ?_
        refine J_astore_n (pc := 31) rfl (by decide) (lv' := [(0, vR (some x0)), (1, vI x1), (2, vR r28)]) rfl dX8_play_31 ?_
        refine J_iconst (pc := 32) (v := (0 : Int32)) (by decide) dX8_play_32 ?_
        refine J_istore_n (pc := 33) rfl (by decide) (lv' := [(0, vR (some x0)), (1, vI x1), (2, vR r28), (3, vI (0 : Int32))]) rfl dX8_play_33 ?_
        exact jX8_play_L34  FU _ _ g_15
      · rw [if_neg hc21] at g_13
        refine J_bipush (pc := 24) (v := (-3 : Int32)) (by decide) dX8_play_24 ?_
        exact J_iret (pc := 26) (qi_of g_13) dX8_play_26
    · rw [if_neg hc8] at h
      refine J_bipush (pc := 11) (v := (-2 : Int32)) (by decide) dX8_play_11 ?_
      exact J_iret (pc := 13) (qi_of h) dX8_play_13
set_option maxHeartbeats 4000000 in
set_option maxRecDepth 100000 in
theorem tX8_back {ad : Nat → Nat} {ca : Nat → ClassId} {D : va_G} {FU d : Nat} {r : Int32} {N : Mem}  {x0 : Nat} {M : Mem}  (h : fX8_back FU  x0 M = some (r, N)) : Ct ad ca D yX8_back cX8_back 1 (some .int) (d + 1) [vR (some x0)] M (QI r N) := by
  refine Ct_of (by decide) (Nat.le_of_ble_eq_true rfl) ?_
  show J ad ca D cX8_back RX8 1 (d + 1) (Gt ad ca D (some .int) (QI r N)) 0 [(0, vR (some x0))] [] M
  unfold fX8_back at h
  refine J_aload_n (pc := 0) (q := 0) rfl rfl dX8_back_0 ?_
  obtain ⟨a1, h1, g_1⟩ := bnd h
  refine J_getR (pc := 1) (i := 5) clF8 (by decide) rfl fl_RX8_33 h1 dX8_back_1 ?_
  obtain ⟨a4, h4, g_2⟩ := bnd g_1
  refine J_getI (pc := 4) (i := 0) clF0 (by decide) rfl fl_RX8_80 h4 dX8_back_4 ?_
  refine J_ifeq (pc := 7) (tgt := 20) (by decide) dX8_back_7 (fun hc7 => ?_) (fun hc7 => ?_)
  · rw [if_pos hc7] at g_2
    refine J_bipush (pc := 20) (v := (-3 : Int32)) (by decide) dX8_back_20 ?_
    exact J_iret (pc := 22) (qi_of g_2) dX8_back_22
  · rw [if_neg hc7] at g_2
    refine J_aload_n (pc := 10) (q := 0) rfl rfl dX8_back_10 ?_
    obtain ⟨a11, h11, g_3⟩ := bnd g_2
    refine J_getR (pc := 11) (i := 5) clF8 (by decide) rfl fl_RX8_33 h11 dX8_back_11 ?_
    obtain ⟨a14, h14, g_4⟩ := bnd g_3
    refine J_getI (pc := 14) (i := 4) clF0 (by decide) rfl fl_RX8_243 h14 dX8_back_14 ?_
    refine J_ifne (pc := 17) (tgt := 23) (by decide) dX8_back_17 (fun hc17 => ?_) (fun hc17 => ?_)
    · rw [if_pos hc17] at g_4
      refine J_aload_n (pc := 23) (q := 0) rfl rfl dX8_back_23 ?_
      obtain ⟨a24, h24, g_5⟩ := bnd g_4
      refine J_getR (pc := 24) (i := 5) clF8 (by decide) rfl fl_RX8_33 h24 dX8_back_24 ?_
      obtain ⟨b27, hb27, g_6⟩ := bnd g_5
      obtain ⟨M27, h27, g_7⟩ := bnd g_6
      refine J_callVV (pc := 27) (as := []) (tX0_takeBack (d := d)  h27) cf_X0_takeBack cv_X0_takeBack clF0 hb27 ml_RX8_246 (by omega) (Nat.le_of_ble_eq_true rfl) dX8_back_27 ?_
      refine J_aload_n (pc := 30) (q := 0) rfl rfl dX8_back_30 ?_
      obtain ⟨a31, h31, g_8⟩ := bnd g_7
      refine J_getR (pc := 31) (i := 5) clF8 (by decide) rfl fl_RX8_33 h31 dX8_back_31 ?_
      obtain ⟨a34, h34, g_9⟩ := bnd g_8
      refine J_getI (pc := 34) (i := 3) clF0 (by decide) rfl fl_RX8_249 h34 dX8_back_34 ?_
      exact J_iret (pc := 37) (qi_of g_9) dX8_back_37
    · rw [if_neg hc17] at g_4
      refine J_bipush (pc := 20) (v := (-3 : Int32)) (by decide) dX8_back_20 ?_
      exact J_iret (pc := 22) (qi_of g_4) dX8_back_22
set_option maxHeartbeats 4000000 in
set_option maxRecDepth 100000 in
theorem tX8_told {ad : Nat → Nat} {ca : Nat → ClassId} {D : va_G} {FU d : Nat} {r : Int32} {N : Mem}  {x0 : Nat} {x1 : Int32} {M : Mem}  (h : fX8_told FU  x0 x1 M = some (r, N)) : Ct ad ca D yX8_told cX8_told 3 (some .int) (d + 6) [vR (some x0), vI x1] M (QI r N) := by
  refine Ct_of (by decide) (Nat.le_of_ble_eq_true rfl) ?_
  show J ad ca D cX8_told RX8 3 (d + 6) (Gt ad ca D (some .int) (QI r N)) 0 [(0, vR (some x0)), (1, vI x1)] [] M
  unfold fX8_told at h
  refine J_iload_n (pc := 0) (q := 1) rfl rfl dX8_told_0 ?_
  refine J_iflt (pc := 1) (tgt := 10) (by decide) dX8_told_1 (fun hc1 => ?_) (fun hc1 => ?_)
  · rw [if_pos hc1] at h
    refine J_bipush (pc := 10) (v := (-2 : Int32)) (by decide) dX8_told_10 ?_
    exact J_iret (pc := 12) (qi_of h) dX8_told_12
  · rw [if_neg hc1] at h
    refine J_iload_n (pc := 4) (q := 1) rfl rfl dX8_told_4 ?_
    refine J_bipush (pc := 5) (v := (8 : Int32)) (by decide) dX8_told_5 ?_
    refine J_icle (pc := 7) (tgt := 13) (by decide) dX8_told_7 (fun hc7 => ?_) (fun hc7 => ?_)
    · rw [if_pos hc7] at h
      refine J_aload_n (pc := 13) (q := 0) rfl rfl dX8_told_13 ?_
      obtain ⟨a14, h14, g_1⟩ := bnd h
      refine J_getR (pc := 14) (i := 5) clF8 (by decide) rfl fl_RX8_33 h14 dX8_told_14 ?_
      obtain ⟨a17, h17, g_2⟩ := bnd g_1
      refine J_getI (pc := 17) (i := 0) clF0 (by decide) rfl fl_RX8_80 h17 dX8_told_17 ?_
      refine J_ifne (pc := 20) (tgt := 26) (by decide) dX8_told_20 (fun hc20 => ?_) (fun hc20 => ?_)
      · rw [if_pos hc20] at g_2
        refine J_aload_n (pc := 26) (q := 0) rfl rfl dX8_told_26 ?_
        obtain ⟨a27, h27, g_3⟩ := bnd g_2
        refine J_getR (pc := 27) (i := 5) clF8 (by decide) rfl fl_RX8_33 h27 dX8_told_27 ?_
        obtain ⟨a30, h30, g_4⟩ := bnd g_3
        refine J_getI (pc := 30) (i := 1) clF0 (by decide) rfl fl_RX8_233 h30 dX8_told_30 ?_
        refine J_istore_n (pc := 33) rfl (by decide) (lv' := [(0, vR (some x0)), (1, vI x1), (2, vI a30)]) rfl dX8_told_33 ?_
        refine J_iload_n (pc := 34) (q := 1) rfl rfl dX8_told_34 ?_
        by_cases hc35_0 : x1 = (0 : Int32)
        · rw [if_pos hc35_0] at g_4
          refine J_tin (pc := 35) (tgt := 80) (off := (45)) (by rw [hc35_0]; decide) (by rw [hc35_0]; decide) (by rw [hc35_0]; decide) (by decide) dX8_told_35 ?_
          refine J_iload_n (pc := 80) (q := 2) rfl rfl dX8_told_80 ?_
          refine J_bipush (pc := 81) (v := (6 : Int32)) (by decide) dX8_told_81 ?_
          refine J_ishr (pc := 83) dX8_told_83 ?_
          refine J_bipush (pc := 84) (v := (7 : Int32)) (by decide) dX8_told_84 ?_
          refine J_iand (pc := 86) dX8_told_86 ?_
          exact J_iret (pc := 87) (qi_of g_4) dX8_told_87
        rw [if_neg hc35_0] at g_4
        by_cases hc35_1 : x1 = (1 : Int32)
        · rw [if_pos hc35_1] at g_4
          refine J_tin (pc := 35) (tgt := 88) (off := (53)) (by rw [hc35_1]; decide) (by rw [hc35_1]; decide) (by rw [hc35_1]; decide) (by decide) dX8_told_35 ?_
          refine J_iload_n (pc := 88) (q := 2) rfl rfl dX8_told_88 ?_
          refine J_iconst (pc := 89) (v := (3 : Int32)) (by decide) dX8_told_89 ?_
          refine J_ishr (pc := 90) dX8_told_90 ?_
          refine J_bipush (pc := 91) (v := (7 : Int32)) (by decide) dX8_told_91 ?_
          refine J_iand (pc := 93) dX8_told_93 ?_
          exact J_iret (pc := 94) (qi_of g_4) dX8_told_94
        rw [if_neg hc35_1] at g_4
        by_cases hc35_2 : x1 = (2 : Int32)
        · rw [if_pos hc35_2] at g_4
          refine J_tin (pc := 35) (tgt := 95) (off := (60)) (by rw [hc35_2]; decide) (by rw [hc35_2]; decide) (by rw [hc35_2]; decide) (by decide) dX8_told_35 ?_
          refine J_iload_n (pc := 95) (q := 2) rfl rfl dX8_told_95 ?_
          refine J_bipush (pc := 96) (v := (7 : Int32)) (by decide) dX8_told_96 ?_
          refine J_iand (pc := 98) dX8_told_98 ?_
          exact J_iret (pc := 99) (qi_of g_4) dX8_told_99
        rw [if_neg hc35_2] at g_4
        by_cases hc35_3 : x1 = (3 : Int32)
        · rw [if_pos hc35_3] at g_4
          refine J_tin (pc := 35) (tgt := 100) (off := (65)) (by rw [hc35_3]; decide) (by rw [hc35_3]; decide) (by rw [hc35_3]; decide) (by decide) dX8_told_35 ?_
          refine J_iload_n (pc := 100) (q := 2) rfl rfl dX8_told_100 ?_
          refine J_sipush (pc := 101) (v := (512 : Int32)) (by decide) dX8_told_101 ?_
          refine J_idiv (pc := 104) (by decide) dX8_told_104 ?_
          refine J_iconst (pc := 105) (v := (1 : Int32)) (by decide) dX8_told_105 ?_
          refine J_iand (pc := 106) dX8_told_106 ?_
          exact J_iret (pc := 107) (qi_of g_4) dX8_told_107
        rw [if_neg hc35_3] at g_4
        by_cases hc35_4 : x1 = (4 : Int32)
        · rw [if_pos hc35_4] at g_4
          refine J_tin (pc := 35) (tgt := 108) (off := (73)) (by rw [hc35_4]; decide) (by rw [hc35_4]; decide) (by rw [hc35_4]; decide) (by decide) dX8_told_35 ?_
          refine J_iload_n (pc := 108) (q := 2) rfl rfl dX8_told_108 ?_
          refine J_sipush (pc := 109) (v := (1024 : Int32)) (by decide) dX8_told_109 ?_
          refine J_idiv (pc := 112) (by decide) dX8_told_112 ?_
          exact J_iret (pc := 113) (qi_of g_4) dX8_told_113
        rw [if_neg hc35_4] at g_4
        by_cases hc35_5 : x1 = (5 : Int32)
        · rw [if_pos hc35_5] at g_4
          refine J_tin (pc := 35) (tgt := 114) (off := (79)) (by rw [hc35_5]; decide) (by rw [hc35_5]; decide) (by rw [hc35_5]; decide) (by decide) dX8_told_35 ?_
          refine J_aload_n (pc := 114) (q := 0) rfl rfl dX8_told_114 ?_
          obtain ⟨a115, h115, g_5⟩ := bnd g_4
          refine J_getR (pc := 115) (i := 5) clF8 (by decide) rfl fl_RX8_33 h115 dX8_told_115 ?_
          obtain ⟨a118, h118, g_6⟩ := bnd g_5
          refine J_getI (pc := 118) (i := 2) clF0 (by decide) rfl fl_RX8_230 h118 dX8_told_118 ?_
          exact J_iret (pc := 121) (qi_of g_6) dX8_told_121
        rw [if_neg hc35_5] at g_4
        by_cases hc35_6 : x1 = (6 : Int32)
        · rw [if_pos hc35_6] at g_4
          refine J_tin (pc := 35) (tgt := 122) (off := (87)) (by rw [hc35_6]; decide) (by rw [hc35_6]; decide) (by rw [hc35_6]; decide) (by decide) dX8_told_35 ?_
          refine J_aload_n (pc := 122) (q := 0) rfl rfl dX8_told_122 ?_
          obtain ⟨a123, h123, g_7⟩ := bnd g_4
          refine J_getR (pc := 123) (i := 5) clF8 (by decide) rfl fl_RX8_33 h123 dX8_told_123 ?_
          obtain ⟨a126, h126, g_8⟩ := bnd g_7
          refine J_getI (pc := 126) (i := 3) clF0 (by decide) rfl fl_RX8_249 h126 dX8_told_126 ?_
          exact J_iret (pc := 129) (qi_of g_8) dX8_told_129
        rw [if_neg hc35_6] at g_4
        by_cases hc35_7 : x1 = (7 : Int32)
        · rw [if_pos hc35_7] at g_4
          refine J_tin (pc := 35) (tgt := 130) (off := (95)) (by rw [hc35_7]; decide) (by rw [hc35_7]; decide) (by rw [hc35_7]; decide) (by decide) dX8_told_35 ?_
          refine J_aload_n (pc := 130) (q := 0) rfl rfl dX8_told_130 ?_
          obtain ⟨b131, hb131, g_9⟩ := bnd g_4
          obtain ⟨r131, M131, h131, g_10⟩ := bnd2 g_9
          refine J_callVR (pc := 131) (as := []) (tX8_solvedStandings (d := d)  h131) cf_X8_solvedStandings cv_X8_solvedStandings clF8 hb131 ml_RX8_132 (by omega) (Nat.le_of_ble_eq_true rfl) dX8_told_131 ?_
          obtain ⟨a134, h134, g_11⟩ := bnd g_10
          refine J_getR (pc := 134) (i := 5) clF6 (by decide) rfl fl_RX8_136 h134 dX8_told_134 ?_
          refine J_iload_n (pc := 137) (q := 2) rfl rfl dX8_told_137 ?_
          obtain ⟨a138, h138, g_12⟩ := bnd g_11
          refine J_ald0 (pc := 138) h138 dX8_told_138 ?_
          refine J_ifne (pc := 139) (tgt := 146) (by decide) dX8_told_139 (fun hc139 => ?_) (fun hc139 => ?_)
          · rw [if_pos hc139] at g_12
            refine J_iconst (pc := 146) (v := (0 : Int32)) (by decide) dX8_told_146 ?_
            exact J_iret (pc := 147) (qi_of g_12) dX8_told_147
          · rw [if_neg hc139] at g_12
            refine J_iconst (pc := 142) (v := (1 : Int32)) (by decide) dX8_told_142 ?_
            refine J_goto (pc := 143) (tgt := 147) (by decide) dX8_told_143 ?_
            exact J_iret (pc := 147) (qi_of g_12) dX8_told_147
        rw [if_neg hc35_7] at g_4
        refine J_tout (pc := 35) (tgt := 148) (by decide) (by have hn0 := i32ne hc35_0 (z := 0) (by decide); have hn1 := i32ne hc35_1 (z := 1) (by decide); have hn2 := i32ne hc35_2 (z := 2) (by decide); have hn3 := i32ne hc35_3 (z := 3) (by decide); have hn4 := i32ne hc35_4 (z := 4) (by decide); have hn5 := i32ne hc35_5 (z := 5) (by decide); have hn6 := i32ne hc35_6 (z := 6) (by decide); have hn7 := i32ne hc35_7 (z := 7) (by decide); omega) dX8_told_35 ?_
        refine J_aload_n (pc := 148) (q := 0) rfl rfl dX8_told_148 ?_
        obtain ⟨b149, hb149, g_13⟩ := bnd g_4
        obtain ⟨r149, M149, h149, g_14⟩ := bnd2 g_13
        refine J_callVR (pc := 149) (as := []) (tX8_solvedStandings (d := d)  h149) cf_X8_solvedStandings cv_X8_solvedStandings clF8 hb149 ml_RX8_132 (by omega) (Nat.le_of_ble_eq_true rfl) dX8_told_149 ?_
        obtain ⟨a152, h152, g_15⟩ := bnd g_14
        refine J_getR (pc := 152) (i := 5) clF6 (by decide) rfl fl_RX8_136 h152 dX8_told_152 ?_
        refine J_iload_n (pc := 155) (q := 2) rfl rfl dX8_told_155 ?_
        obtain ⟨a156, h156, g_16⟩ := bnd g_15
        refine J_ald0 (pc := 156) h156 dX8_told_156 ?_
        exact J_iret (pc := 157) (qi_of g_16) dX8_told_157
      · rw [if_neg hc20] at g_2
        refine J_bipush (pc := 23) (v := (-3 : Int32)) (by decide) dX8_told_23 ?_
        exact J_iret (pc := 25) (qi_of g_2) dX8_told_25
    · rw [if_neg hc7] at h
      refine J_bipush (pc := 10) (v := (-2 : Int32)) (by decide) dX8_told_10 ?_
      exact J_iret (pc := 12) (qi_of h) dX8_told_12
set_option maxHeartbeats 4000000 in
set_option maxRecDepth 100000 in
theorem jX8_feed_L34 {ad : Nat → Nat} {ca : Nat → ClassId} {D : va_G} {FU d : Nat} {r : Int32} {N : Mem}   {x0 : Nat} {x1 : Int32} {x2 : Int64}   : ∀ (F : Nat) (x4 : Int32) (M : Mem), fX8_feed_L34 FU  x0 x1 x2 F x4 M = some (r, N) → J ad ca D cX8_feed RX8 5 (d + 0) (Gt ad ca D (some .int) (QI r N)) 34 [(0, vR (some x0)), (1, vI x1), (2, vL x2), (4, vI x4)] [] M := by
  intro F
  induction F with
  | zero =>
    intro x4 M h
    rw [fX8_feed_L34] at h
    cases h
  | succ F hk34 =>
    intro x4 M h
    rw [fX8_feed_L34] at h
    refine J_iload (pc := 34) (q := 3) rfl dX8_feed_34 ?_
    refine J_iload_n (pc := 36) (q := 1) rfl rfl dX8_feed_36 ?_
    refine J_icge (pc := 37) (tgt := 77) (by decide) dX8_feed_37 (fun hc37 => ?_) (fun hc37 => ?_)
    · rw [if_pos hc37] at h
      refine J_aload_n (pc := 77) (q := 0) rfl rfl dX8_feed_77 ?_
      obtain ⟨a78, h78, g_1⟩ := bnd h
      refine J_getR (pc := 78) (i := 6) clF8 (by decide) rfl fl_RX8_40 h78 dX8_feed_78 ?_
      obtain ⟨a81, h81, g_2⟩ := bnd g_1
      refine J_getI (pc := 81) (i := 1) clF7 (by decide) rfl fl_RX8_252 h81 dX8_feed_81 ?_
      exact J_iret (pc := 84) (qi_of g_2) dX8_feed_84
    · rw [if_neg hc37] at h
      refine J_aload_n (pc := 40) (q := 0) rfl rfl dX8_feed_40 ?_
      obtain ⟨a41, h41, g_3⟩ := bnd h
      refine J_getR (pc := 41) (i := 6) clF8 (by decide) rfl fl_RX8_40 h41 dX8_feed_41 ?_
      obtain ⟨a44, h44, g_4⟩ := bnd g_3
      refine J_getR (pc := 44) (i := 0) clF7 (by decide) rfl fl_RX8_255 h44 dX8_feed_44 ?_
      refine J_aload_n (pc := 47) (q := 0) rfl rfl dX8_feed_47 ?_
      obtain ⟨a48, h48, g_5⟩ := bnd g_4
      refine J_getR (pc := 48) (i := 6) clF8 (by decide) rfl fl_RX8_40 h48 dX8_feed_48 ?_
      refine J_dup (pc := 51) rfl dX8_feed_51 ?_
      obtain ⟨a52, h52, g_6⟩ := bnd g_5
      refine J_getI (pc := 52) (i := 1) clF7 (by decide) rfl fl_RX8_252 h52 dX8_feed_52 ?_
      refine J_dup_x1 (pc := 55) rfl rfl dX8_feed_55 ?_
      refine J_iconst (pc := 56) (v := (1 : Int32)) (by decide) dX8_feed_56 ?_
      refine J_iadd (pc := 57) dX8_feed_57 ?_
      obtain ⟨M58, h58, g_7⟩ := bnd g_6
      refine J_putI (pc := 58) (i := 1) clF7 (by decide) rfl fl_RX8_252 rfl rfl h58 dX8_feed_58 ?_
      refine J_lload_n (pc := 61) (q := 2) rfl rfl dX8_feed_61 ?_
      refine J_bipush (pc := 62) (v := (8 : Int32)) (by decide) dX8_feed_62 ?_
      refine J_iload (pc := 64) (q := 3) rfl dX8_feed_64 ?_
      refine J_imul (pc := 66) dX8_feed_66 ?_
      refine J_lshr (pc := 67) dX8_feed_67 ?_
      refine J_l2i (pc := 68) dX8_feed_68 ?_
      refine J_i2b (pc := 69) dX8_feed_69 ?_
      obtain ⟨M70, h70, g_8⟩ := bnd g_7
      refine J_ast2 (pc := 70) h70 dX8_feed_70 ?_
      refine J_iinc (pc := 71) (q := 3) rfl (v := x4 + (1 : Int32)) rfl (by decide) (lv' := [(0, vR (some x0)), (1, vI x1), (2, vL x2), (4, vI (x4 + (1 : Int32)))]) rfl dX8_feed_71 ?_
      refine J_goto (pc := 74) (tgt := 34) (by decide) dX8_feed_74 ?_
      exact hk34 _ _ g_8
set_option maxHeartbeats 4000000 in
set_option maxRecDepth 100000 in
theorem tX8_feed {ad : Nat → Nat} {ca : Nat → ClassId} {D : va_G} {FU d : Nat} {r : Int32} {N : Mem}  {x0 : Nat} {x1 : Int32} {x2 : Int64} {M : Mem}  (h : fX8_feed FU  x0 x1 x2 M = some (r, N)) : Ct ad ca D yX8_feed cX8_feed 5 (some .int) (d + 0) [vR (some x0), vI x1, vL x2] M (QI r N) := by
  refine Ct_of (by decide) (Nat.le_of_ble_eq_true rfl) ?_
  show J ad ca D cX8_feed RX8 5 (d + 0) (Gt ad ca D (some .int) (QI r N)) 0 [(0, vR (some x0)), (1, vI x1), (2, vL x2)] [] M
  unfold fX8_feed at h
  refine J_iload_n (pc := 0) (q := 1) rfl rfl dX8_feed_0 ?_
  refine J_iconst (pc := 1) (v := (1 : Int32)) (by decide) dX8_feed_1 ?_
  refine J_iclt (pc := 2) (tgt := 11) (by decide) dX8_feed_2 (fun hc2 => ?_) (fun hc2 => ?_)
  · rw [if_pos hc2] at h
    refine J_bipush (pc := 11) (v := (-2 : Int32)) (by decide) dX8_feed_11 ?_
    exact J_iret (pc := 13) (qi_of h) dX8_feed_13
  · rw [if_neg hc2] at h
    refine J_iload_n (pc := 5) (q := 1) rfl rfl dX8_feed_5 ?_
    refine J_bipush (pc := 6) (v := (8 : Int32)) (by decide) dX8_feed_6 ?_
    refine J_icle (pc := 8) (tgt := 14) (by decide) dX8_feed_8 (fun hc8 => ?_) (fun hc8 => ?_)
    · rw [if_pos hc8] at h
      refine J_aload_n (pc := 14) (q := 0) rfl rfl dX8_feed_14 ?_
      obtain ⟨a15, h15, g_9⟩ := bnd h
      refine J_getR (pc := 15) (i := 6) clF8 (by decide) rfl fl_RX8_40 h15 dX8_feed_15 ?_
      obtain ⟨a18, h18, g_10⟩ := bnd g_9
      refine J_getI (pc := 18) (i := 1) clF7 (by decide) rfl fl_RX8_252 h18 dX8_feed_18 ?_
      refine J_iload_n (pc := 21) (q := 1) rfl rfl dX8_feed_21 ?_
      refine J_iadd (pc := 22) dX8_feed_22 ?_
      refine J_bipush (pc := 23) (v := (120 : Int32)) (by decide) dX8_feed_23 ?_
      refine J_icle (pc := 25) (tgt := 31) (by decide) dX8_feed_25 (fun hc25 => ?_) (fun hc25 => ?_)
      · rw [if_pos hc25] at g_10
        refine J_iconst (pc := 31) (v := (0 : Int32)) (by decide) dX8_feed_31 ?_
        refine J_istore (pc := 32) (by decide) (lv' := [(0, vR (some x0)), (1, vI x1), (2, vL x2), (4, vI (0 : Int32))]) rfl dX8_feed_32 ?_
        exact jX8_feed_L34  FU _ _ g_10
      · rw [if_neg hc25] at g_10
        refine J_bipush (pc := 28) (v := (-4 : Int32)) (by decide) dX8_feed_28 ?_
        exact J_iret (pc := 30) (qi_of g_10) dX8_feed_30
    · rw [if_neg hc8] at h
      refine J_bipush (pc := 11) (v := (-2 : Int32)) (by decide) dX8_feed_11 ?_
      exact J_iret (pc := 13) (qi_of h) dX8_feed_13
set_option maxHeartbeats 4000000 in
set_option maxRecDepth 100000 in
theorem tX8_text {ad : Nat → Nat} {ca : Nat → ClassId} {D : va_G} {FU d : Nat} {r : Int32} {N : Mem}  {x0 : Nat} {M : Mem}  (h : fX8_text FU  x0 M = some (r, N)) : Ct ad ca D yX8_text cX8_text 1 (some .int) (d + 123) [vR (some x0)] M (QI r N) := by
  refine Ct_of (by decide) (Nat.le_of_ble_eq_true rfl) ?_
  show J ad ca D cX8_text RX8 1 (d + 123) (Gt ad ca D (some .int) (QI r N)) 0 [(0, vR (some x0))] [] M
  unfold fX8_text at h
  refine J_aload_n (pc := 0) (q := 0) rfl rfl dX8_text_0 ?_
  obtain ⟨a1, h1, g_1⟩ := bnd h
  refine J_getR (pc := 1) (i := 6) clF8 (by decide) rfl fl_RX8_40 h1 dX8_text_1 ?_
  obtain ⟨b4, hb4, g_2⟩ := bnd g_1
  obtain ⟨r4, M4, h4, g_3⟩ := bnd2 g_2
  refine J_callVI (pc := 4) (as := []) (tX7_takeTape (d := d)  h4) cf_X7_takeTape cv_X7_takeTape clF7 hb4 ml_RX8_259 (by omega) (Nat.le_of_ble_eq_true rfl) dX8_text_4 ?_
  exact J_iret (pc := 7) (qi_of g_3) dX8_text_7
set_option maxHeartbeats 4000000 in
set_option maxRecDepth 100000 in
theorem tX8_force {ad : Nat → Nat} {ca : Nat → ClassId} {D : va_G} {FU d : Nat} {r : Int32} {N : Mem}  {x0 : Nat} {x1 : Int32} {M : Mem}  (h : fX8_force FU  x0 x1 M = some (r, N)) : Ct ad ca D yX8_force cX8_force 3 (some .int) (d + 0) [vR (some x0), vI x1] M (QI r N) := by
  refine Ct_of (by decide) (Nat.le_of_ble_eq_true rfl) ?_
  show J ad ca D cX8_force RX8 3 (d + 0) (Gt ad ca D (some .int) (QI r N)) 0 [(0, vR (some x0)), (1, vI x1)] [] M
  unfold fX8_force at h
  refine J_iload_n (pc := 0) (q := 1) rfl rfl dX8_force_0 ?_
  refine J_iflt (pc := 1) (tgt := 15) (by decide) dX8_force_1 (fun hc1 => ?_) (fun hc1 => ?_)
  · rw [if_pos hc1] at h
    refine J_bipush (pc := 15) (v := (-2 : Int32)) (by decide) dX8_force_15 ?_
    exact J_iret (pc := 17) (qi_of h) dX8_force_17
  · rw [if_neg hc1] at h
    refine J_iload_n (pc := 4) (q := 1) rfl rfl dX8_force_4 ?_
    refine J_aload_n (pc := 5) (q := 0) rfl rfl dX8_force_5 ?_
    obtain ⟨a6, h6, g_1⟩ := bnd h
    refine J_getR (pc := 6) (i := 6) clF8 (by decide) rfl fl_RX8_40 h6 dX8_force_6 ?_
    obtain ⟨a9, h9, g_2⟩ := bnd g_1
    refine J_getI (pc := 9) (i := 4) clF7 (by decide) rfl fl_RX8_262 h9 dX8_force_9 ?_
    refine J_iclt (pc := 12) (tgt := 18) (by decide) dX8_force_12 (fun hc12 => ?_) (fun hc12 => ?_)
    · rw [if_pos hc12] at g_2
      refine J_aload_n (pc := 18) (q := 0) rfl rfl dX8_force_18 ?_
      obtain ⟨a19, h19, g_3⟩ := bnd g_2
      refine J_getR (pc := 19) (i := 6) clF8 (by decide) rfl fl_RX8_40 h19 dX8_force_19 ?_
      obtain ⟨a22, h22, g_4⟩ := bnd g_3
      refine J_getI (pc := 22) (i := 5) clF7 (by decide) rfl fl_RX8_263 h22 dX8_force_22 ?_
      refine J_istore_n (pc := 25) rfl (by decide) (lv' := [(0, vR (some x0)), (1, vI x1), (2, vI a22)]) rfl dX8_force_25 ?_
      refine J_aload_n (pc := 26) (q := 0) rfl rfl dX8_force_26 ?_
      obtain ⟨a27, h27, g_5⟩ := bnd g_4
      refine J_getR (pc := 27) (i := 6) clF8 (by decide) rfl fl_RX8_40 h27 dX8_force_27 ?_
      refine J_iload_n (pc := 30) (q := 1) rfl rfl dX8_force_30 ?_
      obtain ⟨M31, h31, g_6⟩ := bnd g_5
      refine J_putI (pc := 31) (i := 5) clF7 (by decide) rfl fl_RX8_263 rfl rfl h31 dX8_force_31 ?_
      refine J_iload_n (pc := 34) (q := 2) rfl rfl dX8_force_34 ?_
      exact J_iret (pc := 35) (qi_of g_6) dX8_force_35
    · rw [if_neg hc12] at g_2
      refine J_bipush (pc := 15) (v := (-2 : Int32)) (by decide) dX8_force_15 ?_
      exact J_iret (pc := 17) (qi_of g_2) dX8_force_17
set_option maxHeartbeats 4000000 in
set_option maxRecDepth 100000 in
theorem tX8_says {ad : Nat → Nat} {ca : Nat → ClassId} {D : va_G} {FU d : Nat} {r : Int64} {N : Mem}  {x0 : Nat} {x1 : Int32} {M : Mem}  (h : fX8_says FU  x0 x1 M = some (r, N)) : Ct ad ca D yX8_says cX8_says 4 (some .long) (d + 122) [vR (some x0), vI x1] M (QL r N) := by
  refine Ct_of (by decide) (Nat.le_of_ble_eq_true rfl) ?_
  show J ad ca D cX8_says RX8 4 (d + 122) (Gt ad ca D (some .long) (QL r N)) 0 [(0, vR (some x0)), (1, vI x1)] [] M
  unfold fX8_says at h
  refine J_iload_n (pc := 0) (q := 1) rfl rfl dX8_says_0 ?_
  refine J_iflt (pc := 1) (tgt := 9) (by decide) dX8_says_1 (fun hc1 => ?_) (fun hc1 => ?_)
  · rw [if_pos hc1] at h
    refine J_ldc2 (pc := 9) cn_RX8_266 dX8_says_9 ?_
    exact J_lret (pc := 12) (ql_of h) dX8_says_12
  · rw [if_neg hc1] at h
    refine J_iload_n (pc := 4) (q := 1) rfl rfl dX8_says_4 ?_
    refine J_iconst (pc := 5) (v := (1 : Int32)) (by decide) dX8_says_5 ?_
    refine J_icle (pc := 6) (tgt := 13) (by decide) dX8_says_6 (fun hc6 => ?_) (fun hc6 => ?_)
    · rw [if_pos hc6] at h
      refine J_aload_n (pc := 13) (q := 0) rfl rfl dX8_says_13 ?_
      obtain ⟨a14, h14, g_1⟩ := bnd h
      refine J_getR (pc := 14) (i := 6) clF8 (by decide) rfl fl_RX8_40 h14 dX8_says_14 ?_
      obtain ⟨a17, h17, g_2⟩ := bnd g_1
      refine J_getR (pc := 17) (i := 6) clF7 (by decide) rfl fl_RX8_268 h17 dX8_says_17 ?_
      refine J_astore_n (pc := 20) rfl (by decide) (lv' := [(0, vR (some x0)), (1, vI x1), (2, vR a17)]) rfl dX8_says_20 ?_
      refine J_aload_n (pc := 21) (q := 0) rfl rfl dX8_says_21 ?_
      obtain ⟨b22, hb22, g_3⟩ := bnd g_2
      obtain ⟨r22, M22, h22, g_4⟩ := bnd2 g_3
      refine J_callVR (pc := 22) (as := []) (tX8_solvedStandings (d := d)  h22) cf_X8_solvedStandings cv_X8_solvedStandings clF8 hb22 ml_RX8_132 (by omega) (Nat.le_of_ble_eq_true rfl) dX8_says_22 ?_
      refine J_astore_n (pc := 25) rfl (by decide) (lv' := [(0, vR (some x0)), (1, vI x1), (2, vR a17), (3, vR r22)]) rfl dX8_says_25 ?_
      refine J_aload_n (pc := 26) (q := 2) rfl rfl dX8_says_26 ?_
      obtain ⟨a27, h27, g_5⟩ := bnd g_4
      refine J_getR (pc := 27) (i := 0) clF4 (by decide) rfl fl_RX8_272 h27 dX8_says_27 ?_
      refine J_iconst (pc := 30) (v := (0 : Int32)) (by decide) dX8_says_30 ?_
      refine J_aload_n (pc := 31) (q := 3) rfl rfl dX8_says_31 ?_
      obtain ⟨a32, h32, g_6⟩ := bnd g_5
      refine J_getI (pc := 32) (i := 2) clF6 (by decide) rfl fl_RX8_146 h32 dX8_says_32 ?_
      obtain ⟨M35, h35, g_7⟩ := bnd g_6
      refine J_ast0 (pc := 35) h35 dX8_says_35 ?_
      refine J_aload_n (pc := 36) (q := 2) rfl rfl dX8_says_36 ?_
      obtain ⟨a37, h37, g_8⟩ := bnd g_7
      refine J_getR (pc := 37) (i := 0) clF4 (by decide) rfl fl_RX8_272 h37 dX8_says_37 ?_
      refine J_iconst (pc := 40) (v := (1 : Int32)) (by decide) dX8_says_40 ?_
      refine J_aload_n (pc := 41) (q := 3) rfl rfl dX8_says_41 ?_
      obtain ⟨a42, h42, g_9⟩ := bnd g_8
      refine J_getI (pc := 42) (i := 3) clF6 (by decide) rfl fl_RX8_149 h42 dX8_says_42 ?_
      obtain ⟨M45, h45, g_10⟩ := bnd g_9
      refine J_ast0 (pc := 45) h45 dX8_says_45 ?_
      refine J_aload_n (pc := 46) (q := 2) rfl rfl dX8_says_46 ?_
      obtain ⟨a47, h47, g_11⟩ := bnd g_10
      refine J_getR (pc := 47) (i := 0) clF4 (by decide) rfl fl_RX8_272 h47 dX8_says_47 ?_
      refine J_iconst (pc := 50) (v := (2 : Int32)) (by decide) dX8_says_50 ?_
      refine J_aload_n (pc := 51) (q := 3) rfl rfl dX8_says_51 ?_
      obtain ⟨a52, h52, g_12⟩ := bnd g_11
      refine J_getI (pc := 52) (i := 4) clF6 (by decide) rfl fl_RX8_152 h52 dX8_says_52 ?_
      obtain ⟨M55, h55, g_13⟩ := bnd g_12
      refine J_ast0 (pc := 55) h55 dX8_says_55 ?_
      refine J_aload_n (pc := 56) (q := 2) rfl rfl dX8_says_56 ?_
      obtain ⟨a57, h57, g_14⟩ := bnd g_13
      refine J_getR (pc := 57) (i := 0) clF4 (by decide) rfl fl_RX8_272 h57 dX8_says_57 ?_
      refine J_iconst (pc := 60) (v := (3 : Int32)) (by decide) dX8_says_60 ?_
      refine J_aload_n (pc := 61) (q := 3) rfl rfl dX8_says_61 ?_
      obtain ⟨b62, hb62, g_15⟩ := bnd g_14
      obtain ⟨r62, M62, h62, g_16⟩ := bnd2 g_15
      refine J_callVI (pc := 62) (as := []) (tX6_allPuzzles (d := d)  h62) cf_X6_allPuzzles cv_X6_allPuzzles clF6 hb62 ml_RX8_277 (by omega) (Nat.le_of_ble_eq_true rfl) dX8_says_62 ?_
      obtain ⟨M65, h65, g_17⟩ := bnd g_16
      refine J_ast0 (pc := 65) h65 dX8_says_65 ?_
      refine J_aload_n (pc := 66) (q := 2) rfl rfl dX8_says_66 ?_
      obtain ⟨a67, h67, g_18⟩ := bnd g_17
      refine J_getR (pc := 67) (i := 0) clF4 (by decide) rfl fl_RX8_272 h67 dX8_says_67 ?_
      refine J_iconst (pc := 70) (v := (4 : Int32)) (by decide) dX8_says_70 ?_
      refine J_aload_n (pc := 71) (q := 0) rfl rfl dX8_says_71 ?_
      obtain ⟨a72, h72, g_19⟩ := bnd g_18
      refine J_getR (pc := 72) (i := 0) clF8 (by decide) rfl fl_RX8_68 h72 dX8_says_72 ?_
      obtain ⟨a75, h75, g_20⟩ := bnd g_19
      refine J_getI (pc := 75) (i := 8) clF3 (by decide) rfl fl_RX8_87 h75 dX8_says_75 ?_
      obtain ⟨M78, h78, g_21⟩ := bnd g_20
      refine J_ast0 (pc := 78) h78 dX8_says_78 ?_
      refine J_aload_n (pc := 79) (q := 2) rfl rfl dX8_says_79 ?_
      obtain ⟨a80, h80, g_22⟩ := bnd g_21
      refine J_getR (pc := 80) (i := 0) clF4 (by decide) rfl fl_RX8_272 h80 dX8_says_80 ?_
      refine J_iconst (pc := 83) (v := (5 : Int32)) (by decide) dX8_says_83 ?_
      refine J_aload_n (pc := 84) (q := 0) rfl rfl dX8_says_84 ?_
      obtain ⟨a85, h85, g_23⟩ := bnd g_22
      refine J_getR (pc := 85) (i := 3) clF8 (by decide) rfl fl_RX8_19 h85 dX8_says_85 ?_
      refine J_aload_n (pc := 88) (q := 0) rfl rfl dX8_says_88 ?_
      obtain ⟨a89, h89, g_24⟩ := bnd g_23
      refine J_getR (pc := 89) (i := 0) clF8 (by decide) rfl fl_RX8_68 h89 dX8_says_89 ?_
      obtain ⟨b92, hb92, g_25⟩ := bnd g_24
      obtain ⟨r92, M92, h92, g_26⟩ := bnd2 g_25
      refine J_callVI (pc := 92) (as := [vR a89]) (tX2_countOf (d := d)  h92) cf_X2_countOf cv_X2_countOf clF2 hb92 ml_RX8_174 (by omega) (Nat.le_of_ble_eq_true rfl) dX8_says_92 ?_
      obtain ⟨M95, h95, g_27⟩ := bnd g_26
      refine J_ast0 (pc := 95) h95 dX8_says_95 ?_
      refine J_aload_n (pc := 96) (q := 2) rfl rfl dX8_says_96 ?_
      refine J_aload_n (pc := 97) (q := 0) rfl rfl dX8_says_97 ?_
      obtain ⟨a98, h98, g_28⟩ := bnd g_27
      refine J_getR (pc := 98) (i := 6) clF8 (by decide) rfl fl_RX8_40 h98 dX8_says_98 ?_
      obtain ⟨a101, h101, g_29⟩ := bnd g_28
      refine J_getR (pc := 101) (i := 2) clF7 (by decide) rfl fl_RX8_280 h101 dX8_says_101 ?_
      refine J_aload_n (pc := 104) (q := 0) rfl rfl dX8_says_104 ?_
      obtain ⟨a105, h105, g_30⟩ := bnd g_29
      refine J_getR (pc := 105) (i := 6) clF8 (by decide) rfl fl_RX8_40 h105 dX8_says_105 ?_
      obtain ⟨a108, h108, g_31⟩ := bnd g_30
      refine J_getI (pc := 108) (i := 5) clF7 (by decide) rfl fl_RX8_263 h108 dX8_says_108 ?_
      obtain ⟨a111, h111, g_32⟩ := bnd g_31
      refine J_aldR3 (pc := 111) h111 dX8_says_111 ?_
      refine J_aload_n (pc := 112) (q := 0) rfl rfl dX8_says_112 ?_
      obtain ⟨a113, h113, g_33⟩ := bnd g_32
      refine J_getR (pc := 113) (i := 6) clF8 (by decide) rfl fl_RX8_40 h113 dX8_says_113 ?_
      obtain ⟨a116, h116, g_34⟩ := bnd g_33
      refine J_getR (pc := 116) (i := 3) clF7 (by decide) rfl fl_RX8_284 h116 dX8_says_116 ?_
      refine J_aload_n (pc := 119) (q := 0) rfl rfl dX8_says_119 ?_
      obtain ⟨a120, h120, g_35⟩ := bnd g_34
      refine J_getR (pc := 120) (i := 6) clF8 (by decide) rfl fl_RX8_40 h120 dX8_says_120 ?_
      obtain ⟨a123, h123, g_36⟩ := bnd g_35
      refine J_getI (pc := 123) (i := 5) clF7 (by decide) rfl fl_RX8_263 h123 dX8_says_123 ?_
      obtain ⟨a126, h126, g_37⟩ := bnd g_36
      refine J_ald0 (pc := 126) h126 dX8_says_126 ?_
      obtain ⟨b127, hb127, g_38⟩ := bnd g_37
      obtain ⟨M127, h127, g_39⟩ := bnd g_38
      refine J_callVV (pc := 127) (as := [vR a111, vI a126]) (tX4_read (d := d)  h127) cf_X4_read cv_X4_read clF4 hb127 ml_RX8_287 (by omega) (Nat.le_of_ble_eq_true rfl) dX8_says_127 ?_
      refine J_iload_n (pc := 130) (q := 1) rfl rfl dX8_says_130 ?_
      refine J_ifne (pc := 131) (tgt := 142) (by decide) dX8_says_131 (fun hc131 => ?_) (fun hc131 => ?_)
      · rw [if_pos hc131] at g_39
        refine J_aload_n (pc := 142) (q := 2) rfl rfl dX8_says_142 ?_
        obtain ⟨a143, h143, g_40⟩ := bnd g_39
        refine J_getI (pc := 143) (i := 2) clF4 (by decide) rfl fl_RX8_294 h143 dX8_says_143 ?_
        refine J_i2l (pc := 146) dX8_says_146 ?_
        exact J_lret (pc := 147) (ql_of g_40) dX8_says_147
      · rw [if_neg hc131] at g_39
        refine J_aload_n (pc := 134) (q := 2) rfl rfl dX8_says_134 ?_
        obtain ⟨a135, h135, g_41⟩ := bnd g_39
        refine J_getI (pc := 135) (i := 1) clF4 (by decide) rfl fl_RX8_291 h135 dX8_says_135 ?_
        refine J_i2l (pc := 138) dX8_says_138 ?_
        refine J_goto (pc := 139) (tgt := 147) (by decide) dX8_says_139 ?_
        exact J_lret (pc := 147) (ql_of g_41) dX8_says_147
    · rw [if_neg hc6] at h
      refine J_ldc2 (pc := 9) cn_RX8_266 dX8_says_9 ?_
      exact J_lret (pc := 12) (ql_of h) dX8_says_12
set_option maxHeartbeats 4000000 in
set_option maxRecDepth 100000 in
theorem tX8_count {ad : Nat → Nat} {ca : Nat → ClassId} {D : va_G} {FU d : Nat} {r : Int32} {N : Mem}  {x0 : Nat} {x1 : Int32} {M : Mem}  (h : fX8_count FU  x0 x1 M = some (r, N)) : Ct ad ca D yX8_count cX8_count 2 (some .int) (d + 0) [vR (some x0), vI x1] M (QI r N) := by
  refine Ct_of (by decide) (Nat.le_of_ble_eq_true rfl) ?_
  show J ad ca D cX8_count RX8 2 (d + 0) (Gt ad ca D (some .int) (QI r N)) 0 [(0, vR (some x0)), (1, vI x1)] [] M
  unfold fX8_count at h
  refine J_iload_n (pc := 0) (q := 1) rfl rfl dX8_count_0 ?_
  by_cases hc1_0 : x1 = (0 : Int32)
  · rw [if_pos hc1_0] at h
    refine J_tin (pc := 1) (tgt := 52) (off := (51)) (by rw [hc1_0]; decide) (by rw [hc1_0]; decide) (by rw [hc1_0]; decide) (by decide) dX8_count_1 ?_
    refine J_aload_n (pc := 52) (q := 0) rfl rfl dX8_count_52 ?_
    obtain ⟨a53, h53, g_1⟩ := bnd h
    refine J_getR (pc := 53) (i := 0) clF8 (by decide) rfl fl_RX8_68 h53 dX8_count_53 ?_
    obtain ⟨a56, h56, g_2⟩ := bnd g_1
    refine J_getI (pc := 56) (i := 0) clF3 (by decide) rfl fl_RX8_196 h56 dX8_count_56 ?_
    exact J_iret (pc := 59) (qi_of g_2) dX8_count_59
  rw [if_neg hc1_0] at h
  by_cases hc1_1 : x1 = (1 : Int32)
  · rw [if_pos hc1_1] at h
    refine J_tin (pc := 1) (tgt := 60) (off := (59)) (by rw [hc1_1]; decide) (by rw [hc1_1]; decide) (by rw [hc1_1]; decide) (by decide) dX8_count_1 ?_
    refine J_aload_n (pc := 60) (q := 0) rfl rfl dX8_count_60 ?_
    obtain ⟨a61, h61, g_3⟩ := bnd h
    refine J_getR (pc := 61) (i := 0) clF8 (by decide) rfl fl_RX8_68 h61 dX8_count_61 ?_
    obtain ⟨a64, h64, g_4⟩ := bnd g_3
    refine J_getI (pc := 64) (i := 8) clF3 (by decide) rfl fl_RX8_87 h64 dX8_count_64 ?_
    exact J_iret (pc := 67) (qi_of g_4) dX8_count_67
  rw [if_neg hc1_1] at h
  by_cases hc1_2 : x1 = (2 : Int32)
  · rw [if_pos hc1_2] at h
    refine J_tin (pc := 1) (tgt := 68) (off := (67)) (by rw [hc1_2]; decide) (by rw [hc1_2]; decide) (by rw [hc1_2]; decide) (by decide) dX8_count_1 ?_
    refine J_aload_n (pc := 68) (q := 0) rfl rfl dX8_count_68 ?_
    obtain ⟨a69, h69, g_5⟩ := bnd h
    refine J_getR (pc := 69) (i := 0) clF8 (by decide) rfl fl_RX8_68 h69 dX8_count_69 ?_
    obtain ⟨a72, h72, g_6⟩ := bnd g_5
    refine J_getI (pc := 72) (i := 9) clF3 (by decide) rfl fl_RX8_182 h72 dX8_count_72 ?_
    exact J_iret (pc := 75) (qi_of g_6) dX8_count_75
  rw [if_neg hc1_2] at h
  by_cases hc1_3 : x1 = (3 : Int32)
  · rw [if_pos hc1_3] at h
    refine J_tin (pc := 1) (tgt := 76) (off := (75)) (by rw [hc1_3]; decide) (by rw [hc1_3]; decide) (by rw [hc1_3]; decide) (by decide) dX8_count_1 ?_
    refine J_aload_n (pc := 76) (q := 0) rfl rfl dX8_count_76 ?_
    obtain ⟨a77, h77, g_7⟩ := bnd h
    refine J_getR (pc := 77) (i := 0) clF8 (by decide) rfl fl_RX8_68 h77 dX8_count_77 ?_
    obtain ⟨a80, h80, g_8⟩ := bnd g_7
    refine J_getI (pc := 80) (i := 10) clF3 (by decide) rfl fl_RX8_119 h80 dX8_count_80 ?_
    exact J_iret (pc := 83) (qi_of g_8) dX8_count_83
  rw [if_neg hc1_3] at h
  by_cases hc1_4 : x1 = (4 : Int32)
  · rw [if_pos hc1_4] at h
    refine J_tin (pc := 1) (tgt := 84) (off := (83)) (by rw [hc1_4]; decide) (by rw [hc1_4]; decide) (by rw [hc1_4]; decide) (by decide) dX8_count_1 ?_
    refine J_aload_n (pc := 84) (q := 0) rfl rfl dX8_count_84 ?_
    obtain ⟨a85, h85, g_9⟩ := bnd h
    refine J_getR (pc := 85) (i := 0) clF8 (by decide) rfl fl_RX8_68 h85 dX8_count_85 ?_
    obtain ⟨a88, h88, g_10⟩ := bnd g_9
    refine J_getI (pc := 88) (i := 11) clF3 (by decide) rfl fl_RX8_122 h88 dX8_count_88 ?_
    exact J_iret (pc := 91) (qi_of g_10) dX8_count_91
  rw [if_neg hc1_4] at h
  by_cases hc1_5 : x1 = (5 : Int32)
  · rw [if_pos hc1_5] at h
    refine J_tin (pc := 1) (tgt := 92) (off := (91)) (by rw [hc1_5]; decide) (by rw [hc1_5]; decide) (by rw [hc1_5]; decide) (by decide) dX8_count_1 ?_
    refine J_aload_n (pc := 92) (q := 0) rfl rfl dX8_count_92 ?_
    obtain ⟨a93, h93, g_11⟩ := bnd h
    refine J_getR (pc := 93) (i := 6) clF8 (by decide) rfl fl_RX8_40 h93 dX8_count_93 ?_
    obtain ⟨a96, h96, g_12⟩ := bnd g_11
    refine J_getI (pc := 96) (i := 4) clF7 (by decide) rfl fl_RX8_262 h96 dX8_count_96 ?_
    exact J_iret (pc := 99) (qi_of g_12) dX8_count_99
  rw [if_neg hc1_5] at h
  by_cases hc1_6 : x1 = (6 : Int32)
  · rw [if_pos hc1_6] at h
    refine J_tin (pc := 1) (tgt := 100) (off := (99)) (by rw [hc1_6]; decide) (by rw [hc1_6]; decide) (by rw [hc1_6]; decide) (by decide) dX8_count_1 ?_
    refine J_aload_n (pc := 100) (q := 0) rfl rfl dX8_count_100 ?_
    obtain ⟨a101, h101, g_13⟩ := bnd h
    refine J_getR (pc := 101) (i := 6) clF8 (by decide) rfl fl_RX8_40 h101 dX8_count_101 ?_
    obtain ⟨a104, h104, g_14⟩ := bnd g_13
    refine J_getI (pc := 104) (i := 1) clF7 (by decide) rfl fl_RX8_252 h104 dX8_count_104 ?_
    exact J_iret (pc := 107) (qi_of g_14) dX8_count_107
  rw [if_neg hc1_6] at h
  by_cases hc1_7 : x1 = (7 : Int32)
  · rw [if_pos hc1_7] at h
    refine J_tin (pc := 1) (tgt := 108) (off := (107)) (by rw [hc1_7]; decide) (by rw [hc1_7]; decide) (by rw [hc1_7]; decide) (by decide) dX8_count_1 ?_
    refine J_aload_n (pc := 108) (q := 0) rfl rfl dX8_count_108 ?_
    obtain ⟨a109, h109, g_15⟩ := bnd h
    refine J_getR (pc := 109) (i := 6) clF8 (by decide) rfl fl_RX8_40 h109 dX8_count_109 ?_
    obtain ⟨a112, h112, g_16⟩ := bnd g_15
    refine J_getI (pc := 112) (i := 5) clF7 (by decide) rfl fl_RX8_263 h112 dX8_count_112 ?_
    exact J_iret (pc := 115) (qi_of g_16) dX8_count_115
  rw [if_neg hc1_7] at h
  by_cases hc1_8 : x1 = (8 : Int32)
  · rw [if_pos hc1_8] at h
    refine J_tin (pc := 1) (tgt := 116) (off := (115)) (by rw [hc1_8]; decide) (by rw [hc1_8]; decide) (by rw [hc1_8]; decide) (by decide) dX8_count_1 ?_
    refine J_aload_n (pc := 116) (q := 0) rfl rfl dX8_count_116 ?_
    obtain ⟨a117, h117, g_17⟩ := bnd h
    refine J_getR (pc := 117) (i := 5) clF8 (by decide) rfl fl_RX8_33 h117 dX8_count_117 ?_
    obtain ⟨a120, h120, g_18⟩ := bnd g_17
    refine J_getI (pc := 120) (i := 0) clF0 (by decide) rfl fl_RX8_80 h120 dX8_count_120 ?_
    refine J_ifeq (pc := 123) (tgt := 130) (by decide) dX8_count_123 (fun hc123 => ?_) (fun hc123 => ?_)
    · rw [if_pos hc123] at g_18
      refine J_iconst (pc := 130) (v := (0 : Int32)) (by decide) dX8_count_130 ?_
      exact J_iret (pc := 131) (qi_of g_18) dX8_count_131
    · rw [if_neg hc123] at g_18
      refine J_iconst (pc := 126) (v := (1 : Int32)) (by decide) dX8_count_126 ?_
      refine J_goto (pc := 127) (tgt := 131) (by decide) dX8_count_127 ?_
      exact J_iret (pc := 131) (qi_of g_18) dX8_count_131
  rw [if_neg hc1_8] at h
  refine J_tout (pc := 1) (tgt := 132) (by decide) (by have hn0 := i32ne hc1_0 (z := 0) (by decide); have hn1 := i32ne hc1_1 (z := 1) (by decide); have hn2 := i32ne hc1_2 (z := 2) (by decide); have hn3 := i32ne hc1_3 (z := 3) (by decide); have hn4 := i32ne hc1_4 (z := 4) (by decide); have hn5 := i32ne hc1_5 (z := 5) (by decide); have hn6 := i32ne hc1_6 (z := 6) (by decide); have hn7 := i32ne hc1_7 (z := 7) (by decide); have hn8 := i32ne hc1_8 (z := 8) (by decide); omega) dX8_count_1 ?_
  refine J_bipush (pc := 132) (v := (-2 : Int32)) (by decide) dX8_count_132 ?_
  exact J_iret (pc := 134) (qi_of h) dX8_count_134
set_option maxHeartbeats 4000000 in
set_option maxRecDepth 100000 in
theorem tX8_isSheet {ad : Nat → Nat} {ca : Nat → ClassId} {D : va_G} {FU d : Nat} {r : Int32} {N : Mem}  {x0 : Int32} {M : Mem}  (h : fX8_isSheet FU  x0 M = some (r, N)) : Ct ad ca D yX8_isSheet cX8_isSheet 1 (some .boolean) (d + 0) [vI x0] M (QI r N) := by
  refine Ct_of (by decide) (Nat.le_of_ble_eq_true rfl) ?_
  show J ad ca D cX8_isSheet RX8 1 (d + 0) (Gt ad ca D (some .boolean) (QI r N)) 0 [(0, vI x0)] [] M
  unfold fX8_isSheet at h
  refine J_iload_n (pc := 0) (q := 0) rfl rfl dX8_isSheet_0 ?_
  refine J_iflt (pc := 1) (tgt := 13) (by decide) dX8_isSheet_1 (fun hc1 => ?_) (fun hc1 => ?_)
  · rw [if_pos hc1] at h
    refine J_iconst (pc := 13) (v := (0 : Int32)) (by decide) dX8_isSheet_13 ?_
    exact J_zret (pc := 14) (Or.inl rfl) (qi_of h) dX8_isSheet_14
  · rw [if_neg hc1] at h
    refine J_iload_n (pc := 4) (q := 0) rfl rfl dX8_isSheet_4 ?_
    refine J_iconst (pc := 5) (v := (4 : Int32)) (by decide) dX8_isSheet_5 ?_
    refine J_icge (pc := 6) (tgt := 13) (by decide) dX8_isSheet_6 (fun hc6 => ?_) (fun hc6 => ?_)
    · rw [if_pos hc6] at h
      refine J_iconst (pc := 13) (v := (0 : Int32)) (by decide) dX8_isSheet_13 ?_
      exact J_zret (pc := 14) (Or.inl rfl) (qi_of h) dX8_isSheet_14
    · rw [if_neg hc6] at h
      refine J_iconst (pc := 9) (v := (1 : Int32)) (by decide) dX8_isSheet_9 ?_
      refine J_goto (pc := 10) (tgt := 14) (by decide) dX8_isSheet_10 ?_
      exact J_zret (pc := 14) (Or.inr rfl) (qi_of h) dX8_isSheet_14
set_option maxHeartbeats 4000000 in
set_option maxRecDepth 100000 in
theorem tX8_sheet {ad : Nat → Nat} {ca : Nat → ClassId} {D : va_G} {FU d : Nat} {r : Int32} {N : Mem}  {x0 : Nat} {x1 : Int32} {x2 : Int32} {x3 : Int32} {M : Mem}  (h : fX8_sheet FU  x0 x1 x2 x3 M = some (r, N)) : Ct ad ca D yX8_sheet cX8_sheet 4 (some .int) (d + 2) [vR (some x0), vI x1, vI x2, vI x3] M (QI r N) := by
  refine Ct_of (by decide) (Nat.le_of_ble_eq_true rfl) ?_
  show J ad ca D cX8_sheet RX8 4 (d + 2) (Gt ad ca D (some .int) (QI r N)) 0 [(0, vR (some x0)), (1, vI x1), (2, vI x2), (3, vI x3)] [] M
  unfold fX8_sheet at h
  refine J_iload_n (pc := 0) (q := 1) rfl rfl dX8_sheet_0 ?_
  obtain ⟨r1, M1, h1, g_1⟩ := bnd2 h
  refine J_callSI (pc := 1) (as := [vI x1]) (tX8_isSheet (d := d)  h1) cf_X8_isSheet cv_X8_isSheet ml_RX8_297 (by omega) (Nat.le_of_ble_eq_true rfl) dX8_sheet_1 ?_
  refine J_ifeq (pc := 4) (tgt := 17) (by decide) dX8_sheet_4 (fun hc4 => ?_) (fun hc4 => ?_)
  · rw [if_pos hc4] at g_1
    refine J_bipush (pc := 17) (v := (-2 : Int32)) (by decide) dX8_sheet_17 ?_
    exact J_iret (pc := 19) (qi_of g_1) dX8_sheet_19
  · rw [if_neg hc4] at g_1
    refine J_iload_n (pc := 7) (q := 2) rfl rfl dX8_sheet_7 ?_
    refine J_iconst (pc := 8) (v := (-1 : Int32)) (by decide) dX8_sheet_8 ?_
    refine J_iclt (pc := 9) (tgt := 17) (by decide) dX8_sheet_9 (fun hc9 => ?_) (fun hc9 => ?_)
    · rw [if_pos hc9] at g_1
      refine J_bipush (pc := 17) (v := (-2 : Int32)) (by decide) dX8_sheet_17 ?_
      exact J_iret (pc := 19) (qi_of g_1) dX8_sheet_19
    · rw [if_neg hc9] at g_1
      refine J_iload_n (pc := 12) (q := 2) rfl rfl dX8_sheet_12 ?_
      refine J_iconst (pc := 13) (v := (3 : Int32)) (by decide) dX8_sheet_13 ?_
      refine J_iclt (pc := 14) (tgt := 20) (by decide) dX8_sheet_14 (fun hc14 => ?_) (fun hc14 => ?_)
      · rw [if_pos hc14] at g_1
        refine J_iload_n (pc := 20) (q := 2) rfl rfl dX8_sheet_20 ?_
        refine J_iconst (pc := 21) (v := (-1 : Int32)) (by decide) dX8_sheet_21 ?_
        refine J_icne (pc := 22) (tgt := 38) (by decide) dX8_sheet_22 (fun hc22 => ?_) (fun hc22 => ?_)
        · rw [if_pos hc22] at g_1
          refine J_iload_n (pc := 38) (q := 3) rfl rfl dX8_sheet_38 ?_
          refine J_bipush (pc := 39) (v := (40 : Int32)) (by decide) dX8_sheet_39 ?_
          refine J_icle (pc := 41) (tgt := 47) (by decide) dX8_sheet_41 (fun hc41 => ?_) (fun hc41 => ?_)
          · rw [if_pos hc41] at g_1
            refine J_iload_n (pc := 47) (q := 3) rfl rfl dX8_sheet_47 ?_
            refine J_ifge (pc := 48) (tgt := 54) (by decide) dX8_sheet_48 (fun hc48 => ?_) (fun hc48 => ?_)
            · rw [if_pos hc48] at g_1
              refine J_aload_n (pc := 54) (q := 0) rfl rfl dX8_sheet_54 ?_
              obtain ⟨a55, h55, g_2⟩ := bnd g_1
              refine J_getR (pc := 55) (i := 7) clF8 (by decide) rfl fl_RX8_46 h55 dX8_sheet_55 ?_
              refine J_iload_n (pc := 58) (q := 1) rfl rfl dX8_sheet_58 ?_
              obtain ⟨a59, h59, g_3⟩ := bnd g_2
              refine J_aldR4 (pc := 59) h59 dX8_sheet_59 ?_
              refine J_iload_n (pc := 60) (q := 2) rfl rfl dX8_sheet_60 ?_
              refine J_iload_n (pc := 61) (q := 3) rfl rfl dX8_sheet_61 ?_
              obtain ⟨b62, hb62, g_4⟩ := bnd g_3
              obtain ⟨M62, h62, g_5⟩ := bnd g_4
              refine J_callVV (pc := 62) (as := [vI x2, vI x3]) (tX5_become (d := d)  h62) cf_X5_become cv_X5_become clF5 hb62 ml_RX8_300 (by omega) (Nat.le_of_ble_eq_true rfl) dX8_sheet_62 ?_
              refine J_iconst (pc := 65) (v := (1 : Int32)) (by decide) dX8_sheet_65 ?_
              exact J_iret (pc := 66) (qi_of g_5) dX8_sheet_66
            · rw [if_neg hc48] at g_1
              refine J_bipush (pc := 51) (v := (-14 : Int32)) (by decide) dX8_sheet_51 ?_
              exact J_iret (pc := 53) (qi_of g_1) dX8_sheet_53
          · rw [if_neg hc41] at g_1
            refine J_bipush (pc := 44) (v := (-2 : Int32)) (by decide) dX8_sheet_44 ?_
            exact J_iret (pc := 46) (qi_of g_1) dX8_sheet_46
        · rw [if_neg hc22] at g_1
          refine J_aload_n (pc := 25) (q := 0) rfl rfl dX8_sheet_25 ?_
          obtain ⟨a26, h26, g_6⟩ := bnd g_1
          refine J_getR (pc := 26) (i := 7) clF8 (by decide) rfl fl_RX8_46 h26 dX8_sheet_26 ?_
          refine J_iload_n (pc := 29) (q := 1) rfl rfl dX8_sheet_29 ?_
          obtain ⟨a30, h30, g_7⟩ := bnd g_6
          refine J_aldR4 (pc := 30) h30 dX8_sheet_30 ?_
          refine J_iconst (pc := 31) (v := (-1 : Int32)) (by decide) dX8_sheet_31 ?_
          refine J_iconst (pc := 32) (v := (0 : Int32)) (by decide) dX8_sheet_32 ?_
          obtain ⟨b33, hb33, g_8⟩ := bnd g_7
          obtain ⟨M33, h33, g_9⟩ := bnd g_8
          refine J_callVV (pc := 33) (as := [vI (-1 : Int32), vI (0 : Int32)]) (tX5_become (d := d)  h33) cf_X5_become cv_X5_become clF5 hb33 ml_RX8_300 (by omega) (Nat.le_of_ble_eq_true rfl) dX8_sheet_33 ?_
          refine J_iconst (pc := 36) (v := (1 : Int32)) (by decide) dX8_sheet_36 ?_
          exact J_iret (pc := 37) (qi_of g_9) dX8_sheet_37
      · rw [if_neg hc14] at g_1
        refine J_bipush (pc := 17) (v := (-2 : Int32)) (by decide) dX8_sheet_17 ?_
        exact J_iret (pc := 19) (qi_of g_1) dX8_sheet_19
set_option maxHeartbeats 4000000 in
set_option maxRecDepth 100000 in
theorem tX8_cell {ad : Nat → Nat} {ca : Nat → ClassId} {D : va_G} {FU d : Nat} {r : Int32} {N : Mem}  {x0 : Nat} {x1 : Int32} {x2 : Int32} {x3 : Int32} {M : Mem}  (h : fX8_cell FU  x0 x1 x2 x3 M = some (r, N)) : Ct ad ca D yX8_cell cX8_cell 4 (some .int) (d + 2) [vR (some x0), vI x1, vI x2, vI x3] M (QI r N) := by
  refine Ct_of (by decide) (Nat.le_of_ble_eq_true rfl) ?_
  show J ad ca D cX8_cell RX8 4 (d + 2) (Gt ad ca D (some .int) (QI r N)) 0 [(0, vR (some x0)), (1, vI x1), (2, vI x2), (3, vI x3)] [] M
  unfold fX8_cell at h
  refine J_iload_n (pc := 0) (q := 1) rfl rfl dX8_cell_0 ?_
  obtain ⟨r1, M1, h1, g_1⟩ := bnd2 h
  refine J_callSI (pc := 1) (as := [vI x1]) (tX8_isSheet (d := d)  h1) cf_X8_isSheet cv_X8_isSheet ml_RX8_297 (by omega) (Nat.le_of_ble_eq_true rfl) dX8_cell_1 ?_
  refine J_ifne (pc := 4) (tgt := 10) (by decide) dX8_cell_4 (fun hc4 => ?_) (fun hc4 => ?_)
  · rw [if_pos hc4] at g_1
    refine J_aload_n (pc := 10) (q := 0) rfl rfl dX8_cell_10 ?_
    obtain ⟨a11, h11, g_2⟩ := bnd g_1
    refine J_getR (pc := 11) (i := 7) clF8 (by decide) rfl fl_RX8_46 h11 dX8_cell_11 ?_
    refine J_iload_n (pc := 14) (q := 1) rfl rfl dX8_cell_14 ?_
    obtain ⟨a15, h15, g_3⟩ := bnd g_2
    refine J_aldR4 (pc := 15) h15 dX8_cell_15 ?_
    obtain ⟨a16, h16, g_4⟩ := bnd g_3
    refine J_getI (pc := 16) (i := 0) clF5 (by decide) rfl fl_RX8_304 h16 dX8_cell_16 ?_
    refine J_iconst (pc := 19) (v := (-1 : Int32)) (by decide) dX8_cell_19 ?_
    refine J_icne (pc := 20) (tgt := 26) (by decide) dX8_cell_20 (fun hc20 => ?_) (fun hc20 => ?_)
    · rw [if_pos hc20] at g_4
      refine J_aload_n (pc := 26) (q := 0) rfl rfl dX8_cell_26 ?_
      obtain ⟨a27, h27, g_5⟩ := bnd g_4
      refine J_getR (pc := 27) (i := 7) clF8 (by decide) rfl fl_RX8_46 h27 dX8_cell_27 ?_
      refine J_iload_n (pc := 30) (q := 1) rfl rfl dX8_cell_30 ?_
      obtain ⟨a31, h31, g_6⟩ := bnd g_5
      refine J_aldR4 (pc := 31) h31 dX8_cell_31 ?_
      refine J_iload_n (pc := 32) (q := 2) rfl rfl dX8_cell_32 ?_
      obtain ⟨b33, hb33, g_7⟩ := bnd g_6
      obtain ⟨r33, M33, h33, g_8⟩ := bnd2 g_7
      refine J_callVI (pc := 33) (as := [vI x2]) (tX5_has (d := d)  h33) cf_X5_has cv_X5_has clF5 hb33 ml_RX8_307 (by omega) (Nat.le_of_ble_eq_true rfl) dX8_cell_33 ?_
      refine J_ifne (pc := 36) (tgt := 42) (by decide) dX8_cell_36 (fun hc36 => ?_) (fun hc36 => ?_)
      · rw [if_pos hc36] at g_8
        refine J_aload_n (pc := 42) (q := 0) rfl rfl dX8_cell_42 ?_
        obtain ⟨a43, h43, g_9⟩ := bnd g_8
        refine J_getR (pc := 43) (i := 7) clF8 (by decide) rfl fl_RX8_46 h43 dX8_cell_43 ?_
        refine J_iload_n (pc := 46) (q := 1) rfl rfl dX8_cell_46 ?_
        obtain ⟨a47, h47, g_10⟩ := bnd g_9
        refine J_aldR4 (pc := 47) h47 dX8_cell_47 ?_
        refine J_iload_n (pc := 48) (q := 2) rfl rfl dX8_cell_48 ?_
        refine J_iload_n (pc := 49) (q := 3) rfl rfl dX8_cell_49 ?_
        obtain ⟨b50, hb50, g_11⟩ := bnd g_10
        obtain ⟨M50, h50, g_12⟩ := bnd g_11
        refine J_callVV (pc := 50) (as := [vI x2, vI x3]) (tX5_put (d := d)  h50) cf_X5_put cv_X5_put clF5 hb50 ml_RX8_308 (by omega) (Nat.le_of_ble_eq_true rfl) dX8_cell_50 ?_
        refine J_iconst (pc := 53) (v := (1 : Int32)) (by decide) dX8_cell_53 ?_
        exact J_iret (pc := 54) (qi_of g_12) dX8_cell_54
      · rw [if_neg hc36] at g_8
        refine J_bipush (pc := 39) (v := (-12 : Int32)) (by decide) dX8_cell_39 ?_
        exact J_iret (pc := 41) (qi_of g_8) dX8_cell_41
    · rw [if_neg hc20] at g_4
      refine J_bipush (pc := 23) (v := (-11 : Int32)) (by decide) dX8_cell_23 ?_
      exact J_iret (pc := 25) (qi_of g_4) dX8_cell_25
  · rw [if_neg hc4] at g_1
    refine J_bipush (pc := 7) (v := (-2 : Int32)) (by decide) dX8_cell_7 ?_
    exact J_iret (pc := 9) (qi_of g_1) dX8_cell_9
set_option maxHeartbeats 4000000 in
set_option maxRecDepth 100000 in
theorem jX8_ways_b159 {ad : Nat → Nat} {ca : Nat → ClassId} {D : va_G} {FU d : Nat} {r : Int32} {N : Mem}  {k69 : Int32 → Int32 → Mem → Option (Int32 × Mem)} {x0 : Nat} {x3 : Int32} {x4 : Int32} {x5 : Option Nat} {x6 : Int32} {x7 : Int32} {M : Mem}  (hk69 : ∀ (y6 : Int32) (y7 : Int32) (M : Mem), k69 y6 y7 M = some (r, N) → J ad ca D cX8_ways RX8 9 (d + 4) (Gt ad ca D (some .int) (QI r N)) 69 [(0, vR (some x0)), (3, vI x3), (4, vI x4), (5, vR x5), (6, vI y6), (7, vI y7)] [] M) (h : fX8_ways_b159 FU  k69 x0 x3 x4 x5 x6 x7 M = some (r, N)) : J ad ca D cX8_ways RX8 9 (d + 4) (Gt ad ca D (some .int) (QI r N)) 159 [(0, vR (some x0)), (3, vI x3), (4, vI x4), (5, vR x5), (6, vI x6), (7, vI x7)] [] M := by
  unfold fX8_ways_b159 at h
  refine J_iinc (pc := 159) (q := 5) rfl (v := x7 + (1 : Int32)) rfl (by decide) (lv' := [(0, vR (some x0)), (3, vI x3), (4, vI x4), (5, vR x5), (6, vI x6), (7, vI (x7 + (1 : Int32)))]) rfl dX8_ways_159 ?_
  refine J_goto (pc := 162) (tgt := 69) (by decide) dX8_ways_162 ?_
  exact hk69 _ _ _ h
set_option maxHeartbeats 4000000 in
set_option maxRecDepth 100000 in
theorem jX8_ways_L69 {ad : Nat → Nat} {ca : Nat → ClassId} {D : va_G} {FU d : Nat} {r : Int32} {N : Mem}   {x0 : Nat} {x3 : Int32} {x4 : Int32} {x5 : Option Nat}   : ∀ (F : Nat) (x6 : Int32) (x7 : Int32) (M : Mem), fX8_ways_L69 FU  x0 x3 x4 x5 F x6 x7 M = some (r, N) → J ad ca D cX8_ways RX8 9 (d + 4) (Gt ad ca D (some .int) (QI r N)) 69 [(0, vR (some x0)), (3, vI x3), (4, vI x4), (5, vR x5), (6, vI x6), (7, vI x7)] [] M := by
  intro F
  induction F with
  | zero =>
    intro x6 x7 M h
    rw [fX8_ways_L69] at h
    cases h
  | succ F hk69 =>
    intro x6 x7 M h
    rw [fX8_ways_L69] at h
    refine J_iload (pc := 69) (q := 5) rfl dX8_ways_69 ?_
    refine J_iload (pc := 71) (q := 2) rfl dX8_ways_71 ?_
    refine J_icge (pc := 73) (tgt := 165) (by decide) dX8_ways_73 (fun hc73 => ?_) (fun hc73 => ?_)
    · rw [if_pos hc73] at h
      refine J_iload (pc := 165) (q := 4) rfl dX8_ways_165 ?_
      exact J_iret (pc := 167) (qi_of h) dX8_ways_167
    · rw [if_neg hc73] at h
      refine J_iload_n (pc := 76) (q := 1) rfl rfl dX8_ways_76 ?_
      refine J_iconst (pc := 77) (v := (3 : Int32)) (by decide) dX8_ways_77 ?_
      refine J_iload (pc := 78) (q := 5) rfl dX8_ways_78 ?_
      refine J_imul (pc := 80) dX8_ways_80 ?_
      refine J_iadd (pc := 81) dX8_ways_81 ?_
      refine J_istore (pc := 82) (by decide) (lv' := [(0, vR (some x0)), (3, vI x3), (4, vI x4), (5, vR x5), (6, vI x6), (7, vI x7), (8, vI (x3 + ((3 : Int32) * x7)))]) rfl dX8_ways_82 ?_
      refine J_aload (pc := 84) (q := 3) rfl dX8_ways_84 ?_
      refine J_iload (pc := 86) (q := 6) rfl dX8_ways_86 ?_
      obtain ⟨b88, hb88, g_1⟩ := bnd h
      obtain ⟨r88, M88, h88, g_2⟩ := bnd2 g_1
      refine J_callVI (pc := 88) (as := [vI (x3 + ((3 : Int32) * x7))]) (tX5_has (d := d)  h88) cf_X5_has cv_X5_has clF5 hb88 ml_RX8_307 (by omega) (Nat.le_of_ble_eq_true rfl) dX8_ways_88 ?_
      refine J_ifeq (pc := 91) (tgt := 118) (by decide) dX8_ways_91 (fun hc91 => ?_) (fun hc91 => ?_)
      · rw [if_pos hc91] at g_2
        refine J_bipush (pc := 118) (v := (-12 : Int32)) (by decide) dX8_ways_118 ?_
        exact J_iret (pc := 120) (qi_of g_2) dX8_ways_120
      · rw [if_neg hc91] at g_2
        refine J_aload (pc := 94) (q := 3) rfl dX8_ways_94 ?_
        refine J_iload (pc := 96) (q := 6) rfl dX8_ways_96 ?_
        refine J_iconst (pc := 98) (v := (1 : Int32)) (by decide) dX8_ways_98 ?_
        refine J_iadd (pc := 99) dX8_ways_99 ?_
        obtain ⟨b100, hb100, g_3⟩ := bnd g_2
        obtain ⟨r100, M100, h100, g_4⟩ := bnd2 g_3
        refine J_callVI (pc := 100) (as := [vI ((x3 + ((3 : Int32) * x7)) + (1 : Int32))]) (tX5_has (d := d)  h100) cf_X5_has cv_X5_has clF5 hb100 ml_RX8_307 (by omega) (Nat.le_of_ble_eq_true rfl) dX8_ways_100 ?_
        refine J_ifeq (pc := 103) (tgt := 118) (by decide) dX8_ways_103 (fun hc103 => ?_) (fun hc103 => ?_)
        · rw [if_pos hc103] at g_4
          refine J_bipush (pc := 118) (v := (-12 : Int32)) (by decide) dX8_ways_118 ?_
          exact J_iret (pc := 120) (qi_of g_4) dX8_ways_120
        · rw [if_neg hc103] at g_4
          refine J_aload (pc := 106) (q := 3) rfl dX8_ways_106 ?_
          refine J_iload (pc := 108) (q := 6) rfl dX8_ways_108 ?_
          refine J_iconst (pc := 110) (v := (2 : Int32)) (by decide) dX8_ways_110 ?_
          refine J_iadd (pc := 111) dX8_ways_111 ?_
          obtain ⟨b112, hb112, g_5⟩ := bnd g_4
          obtain ⟨r112, M112, h112, g_6⟩ := bnd2 g_5
          refine J_callVI (pc := 112) (as := [vI ((x3 + ((3 : Int32) * x7)) + (2 : Int32))]) (tX5_has (d := d)  h112) cf_X5_has cv_X5_has clF5 hb112 ml_RX8_307 (by omega) (Nat.le_of_ble_eq_true rfl) dX8_ways_112 ?_
          refine J_ifne (pc := 115) (tgt := 121) (by decide) dX8_ways_115 (fun hc115 => ?_) (fun hc115 => ?_)
          · rw [if_pos hc115] at g_6
            refine J_aload_n (pc := 121) (q := 0) rfl rfl dX8_ways_121 ?_
            refine J_aload (pc := 122) (q := 3) rfl dX8_ways_122 ?_
            obtain ⟨a124, h124, g_7⟩ := bnd g_6
            refine J_getR (pc := 124) (i := 2) clF5 (by decide) rfl fl_RX8_310 h124 dX8_ways_124 ?_
            refine J_iload (pc := 127) (q := 6) rfl dX8_ways_127 ?_
            obtain ⟨a129, h129, g_8⟩ := bnd g_7
            refine J_ald0 (pc := 129) h129 dX8_ways_129 ?_
            refine J_aload (pc := 130) (q := 3) rfl dX8_ways_130 ?_
            obtain ⟨a132, h132, g_9⟩ := bnd g_8
            refine J_getR (pc := 132) (i := 2) clF5 (by decide) rfl fl_RX8_310 h132 dX8_ways_132 ?_
            refine J_iload (pc := 135) (q := 6) rfl dX8_ways_135 ?_
            refine J_iconst (pc := 137) (v := (1 : Int32)) (by decide) dX8_ways_137 ?_
            refine J_iadd (pc := 138) dX8_ways_138 ?_
            obtain ⟨a139, h139, g_10⟩ := bnd g_9
            refine J_ald0 (pc := 139) h139 dX8_ways_139 ?_
            refine J_aload (pc := 140) (q := 3) rfl dX8_ways_140 ?_
            obtain ⟨a142, h142, g_11⟩ := bnd g_10
            refine J_getR (pc := 142) (i := 2) clF5 (by decide) rfl fl_RX8_310 h142 dX8_ways_142 ?_
            refine J_iload (pc := 145) (q := 6) rfl dX8_ways_145 ?_
            refine J_iconst (pc := 147) (v := (2 : Int32)) (by decide) dX8_ways_147 ?_
            refine J_iadd (pc := 148) dX8_ways_148 ?_
            obtain ⟨a149, h149, g_12⟩ := bnd g_11
            refine J_ald0 (pc := 149) h149 dX8_ways_149 ?_
            obtain ⟨b150, hb150, g_13⟩ := bnd g_12
            obtain ⟨r150, M150, h150, g_14⟩ := bnd2 g_13
            refine J_callVI (pc := 150) (as := [vI a129, vI a139, vI a149]) (tX8_way (d := d)  h150) cf_X8_way cv_X8_way clF8 hb150 ml_RX8_313 (by omega) (Nat.le_of_ble_eq_true rfl) dX8_ways_150 ?_
            refine J_iflt (pc := 153) (tgt := 159) (by decide) dX8_ways_153 (fun hc153 => ?_) (fun hc153 => ?_)
            · rw [if_pos hc153] at g_14
              refine J_sub [0, 1, 2, 3, 4, 5] (lv' := [(0, vR (some x0)), (3, vI x3), (4, vI x4), (5, vR x5), (6, vI x6), (7, vI x7)]) rfl ?_
              exact jX8_ways_b159 hk69 g_14
            · rw [if_neg hc153] at g_14
              refine J_iinc (pc := 156) (q := 4) rfl (v := x6 + (1 : Int32)) rfl (by decide) (lv' := [(0, vR (some x0)), (3, vI x3), (4, vI x4), (5, vR x5), (7, vI x7), (8, vI (x3 + ((3 : Int32) * x7))), (6, vI (x6 + (1 : Int32)))]) rfl dX8_ways_156 ?_
              refine J_sub [0, 1, 2, 3, 6, 4] (lv' := [(0, vR (some x0)), (3, vI x3), (4, vI x4), (5, vR x5), (6, vI (x6 + (1 : Int32))), (7, vI x7)]) rfl ?_
              exact jX8_ways_b159 hk69 g_14
          · rw [if_neg hc115] at g_6
            refine J_bipush (pc := 118) (v := (-12 : Int32)) (by decide) dX8_ways_118 ?_
            exact J_iret (pc := 120) (qi_of g_6) dX8_ways_120
set_option maxHeartbeats 4000000 in
set_option maxRecDepth 100000 in
theorem tX8_ways {ad : Nat → Nat} {ca : Nat → ClassId} {D : va_G} {FU d : Nat} {r : Int32} {N : Mem}  {x0 : Nat} {x1 : Int32} {x2 : Int32} {x3 : Int32} {x4 : Int32} {M : Mem}  (h : fX8_ways FU  x0 x1 x2 x3 x4 M = some (r, N)) : Ct ad ca D yX8_ways cX8_ways 9 (some .int) (d + 4) [vR (some x0), vI x1, vI x2, vI x3, vI x4] M (QI r N) := by
  refine Ct_of (by decide) (Nat.le_of_ble_eq_true rfl) ?_
  show J ad ca D cX8_ways RX8 9 (d + 4) (Gt ad ca D (some .int) (QI r N)) 0 [(0, vR (some x0)), (1, vI x1), (2, vI x2), (3, vI x3), (4, vI x4)] [] M
  unfold fX8_ways at h
  refine J_iload_n (pc := 0) (q := 1) rfl rfl dX8_ways_0 ?_
  obtain ⟨r1, M1, h1, g_15⟩ := bnd2 h
  refine J_callSI (pc := 1) (as := [vI x1]) (tX8_isSheet (d := d)  h1) cf_X8_isSheet cv_X8_isSheet ml_RX8_297 (by omega) (Nat.le_of_ble_eq_true rfl) dX8_ways_1 ?_
  refine J_ifeq (pc := 4) (tgt := 28) (by decide) dX8_ways_4 (fun hc4 => ?_) (fun hc4 => ?_)
  · rw [if_pos hc4] at g_15
    refine J_bipush (pc := 28) (v := (-2 : Int32)) (by decide) dX8_ways_28 ?_
    exact J_iret (pc := 30) (qi_of g_15) dX8_ways_30
  · rw [if_neg hc4] at g_15
    refine J_iload_n (pc := 7) (q := 2) rfl rfl dX8_ways_7 ?_
    refine J_iflt (pc := 8) (tgt := 28) (by decide) dX8_ways_8 (fun hc8 => ?_) (fun hc8 => ?_)
    · rw [if_pos hc8] at g_15
      refine J_bipush (pc := 28) (v := (-2 : Int32)) (by decide) dX8_ways_28 ?_
      exact J_iret (pc := 30) (qi_of g_15) dX8_ways_30
    · rw [if_neg hc8] at g_15
      refine J_iload_n (pc := 11) (q := 2) rfl rfl dX8_ways_11 ?_
      refine J_iconst (pc := 12) (v := (3 : Int32)) (by decide) dX8_ways_12 ?_
      refine J_icge (pc := 13) (tgt := 28) (by decide) dX8_ways_13 (fun hc13 => ?_) (fun hc13 => ?_)
      · rw [if_pos hc13] at g_15
        refine J_bipush (pc := 28) (v := (-2 : Int32)) (by decide) dX8_ways_28 ?_
        exact J_iret (pc := 30) (qi_of g_15) dX8_ways_30
      · rw [if_neg hc13] at g_15
        refine J_iload (pc := 16) (q := 4) rfl dX8_ways_16 ?_
        refine J_iflt (pc := 18) (tgt := 28) (by decide) dX8_ways_18 (fun hc18 => ?_) (fun hc18 => ?_)
        · rw [if_pos hc18] at g_15
          refine J_bipush (pc := 28) (v := (-2 : Int32)) (by decide) dX8_ways_28 ?_
          exact J_iret (pc := 30) (qi_of g_15) dX8_ways_30
        · rw [if_neg hc18] at g_15
          refine J_iload (pc := 21) (q := 4) rfl dX8_ways_21 ?_
          refine J_bipush (pc := 23) (v := (13 : Int32)) (by decide) dX8_ways_23 ?_
          refine J_icle (pc := 25) (tgt := 31) (by decide) dX8_ways_25 (fun hc25 => ?_) (fun hc25 => ?_)
          · rw [if_pos hc25] at g_15
            refine J_aload_n (pc := 31) (q := 0) rfl rfl dX8_ways_31 ?_
            obtain ⟨a32, h32, g_16⟩ := bnd g_15
            refine J_getR (pc := 32) (i := 7) clF8 (by decide) rfl fl_RX8_46 h32 dX8_ways_32 ?_
            refine J_iload_n (pc := 35) (q := 1) rfl rfl dX8_ways_35 ?_
            obtain ⟨a36, h36, g_17⟩ := bnd g_16
            refine J_aldR4 (pc := 36) h36 dX8_ways_36 ?_
            refine J_astore (pc := 37) (by decide) (lv' := [(0, vR (some x0)), (1, vI x1), (2, vI x2), (3, vI x3), (4, vI x4), (5, vR a36)]) rfl dX8_ways_37 ?_
            refine J_aload (pc := 39) (q := 5) rfl dX8_ways_39 ?_
            obtain ⟨a41, h41, g_18⟩ := bnd g_17
            refine J_getI (pc := 41) (i := 0) clF5 (by decide) rfl fl_RX8_304 h41 dX8_ways_41 ?_
            refine J_iconst (pc := 44) (v := (-1 : Int32)) (by decide) dX8_ways_44 ?_
            refine J_icne (pc := 45) (tgt := 51) (by decide) dX8_ways_45 (fun hc45 => ?_) (fun hc45 => ?_)
            · rw [if_pos hc45] at g_18
              refine J_aload (pc := 51) (q := 5) rfl dX8_ways_51 ?_
              obtain ⟨a53, h53, g_19⟩ := bnd g_18
              refine J_getI (pc := 53) (i := 0) clF5 (by decide) rfl fl_RX8_304 h53 dX8_ways_53 ?_
              refine J_iload_n (pc := 56) (q := 2) rfl rfl dX8_ways_56 ?_
              refine J_iceq (pc := 57) (tgt := 63) (by decide) dX8_ways_57 (fun hc57 => ?_) (fun hc57 => ?_)
              · rw [if_pos hc57] at g_19
                refine J_iconst (pc := 63) (v := (0 : Int32)) (by decide) dX8_ways_63 ?_
                refine J_istore (pc := 64) (by decide) (lv' := [(0, vR (some x0)), (1, vI x1), (2, vI x2), (3, vI x3), (4, vI x4), (5, vR a36), (6, vI (0 : Int32))]) rfl dX8_ways_64 ?_
                refine J_iconst (pc := 66) (v := (0 : Int32)) (by decide) dX8_ways_66 ?_
                refine J_istore (pc := 67) (by decide) (lv' := [(0, vR (some x0)), (1, vI x1), (2, vI x2), (3, vI x3), (4, vI x4), (5, vR a36), (6, vI (0 : Int32)), (7, vI (0 : Int32))]) rfl dX8_ways_67 ?_
                refine J_sub [0, 3, 4, 5, 6, 7] (lv' := [(0, vR (some x0)), (3, vI x3), (4, vI x4), (5, vR a36), (6, vI (0 : Int32)), (7, vI (0 : Int32))]) rfl ?_
                exact jX8_ways_L69  FU _ _ _ g_19
              · rw [if_neg hc57] at g_19
                refine J_bipush (pc := 60) (v := (-13 : Int32)) (by decide) dX8_ways_60 ?_
                exact J_iret (pc := 62) (qi_of g_19) dX8_ways_62
            · rw [if_neg hc45] at g_18
              refine J_bipush (pc := 48) (v := (-11 : Int32)) (by decide) dX8_ways_48 ?_
              exact J_iret (pc := 50) (qi_of g_18) dX8_ways_50
          · rw [if_neg hc25] at g_15
            refine J_bipush (pc := 28) (v := (-2 : Int32)) (by decide) dX8_ways_28 ?_
            exact J_iret (pc := 30) (qi_of g_15) dX8_ways_30
set_option maxHeartbeats 4000000 in
set_option maxRecDepth 100000 in
theorem jX8_taken_L44 {ad : Nat → Nat} {ca : Nat → ClassId} {D : va_G} {FU d : Nat} {r : Int32} {N : Mem}   {x0 : Nat} {x1 : Int32} {x2 : Int32}   : ∀ (F : Nat) (x3 : Int32) (x4 : Int32) (M : Mem), fX8_taken_L44 FU  x0 x1 x2 F x3 x4 M = some (r, N) → J ad ca D cX8_taken RX8 5 (d + 0) (Gt ad ca D (some .int) (QI r N)) 44 [(0, vR (some x0)), (1, vI x1), (2, vI x2), (3, vI x3), (4, vI x4)] [] M := by
  intro F
  induction F with
  | zero =>
    intro x3 x4 M h
    rw [fX8_taken_L44] at h
    cases h
  | succ F hk44 =>
    intro x3 x4 M h
    rw [fX8_taken_L44] at h
    refine J_iload (pc := 44) (q := 4) rfl dX8_taken_44 ?_
    refine J_bipush (pc := 46) (v := (6 : Int32)) (by decide) dX8_taken_46 ?_
    refine J_icge (pc := 48) (tgt := 82) (by decide) dX8_taken_48 (fun hc48 => ?_) (fun hc48 => ?_)
    · rw [if_pos hc48] at h
      refine J_bipush (pc := 82) (v := (-13 : Int32)) (by decide) dX8_taken_82 ?_
      exact J_iret (pc := 84) (qi_of h) dX8_taken_84
    · rw [if_neg hc48] at h
      refine J_iload_n (pc := 51) (q := 3) rfl rfl dX8_taken_51 ?_
      refine J_iflt (pc := 52) (tgt := 82) (by decide) dX8_taken_52 (fun hc52 => ?_) (fun hc52 => ?_)
      · rw [if_pos hc52] at h
        refine J_bipush (pc := 82) (v := (-13 : Int32)) (by decide) dX8_taken_82 ?_
        exact J_iret (pc := 84) (qi_of h) dX8_taken_84
      · rw [if_neg hc52] at h
        refine J_iload_n (pc := 55) (q := 3) rfl rfl dX8_taken_55 ?_
        refine J_iload_n (pc := 56) (q := 2) rfl rfl dX8_taken_56 ?_
        refine J_icne (pc := 57) (tgt := 70) (by decide) dX8_taken_57 (fun hc57 => ?_) (fun hc57 => ?_)
        · rw [if_pos hc57] at h
          refine J_getsA (pc := 70) fs_RX8_316 dX8_taken_70 ?_
          refine J_iload_n (pc := 73) (q := 3) rfl rfl dX8_taken_73 ?_
          obtain ⟨a74, h74, g_1⟩ := bnd h
          refine J_aldSA (pc := 74) h74 dX8_taken_74 ?_
          refine J_istore_n (pc := 75) rfl (by decide) (lv' := [(0, vR (some x0)), (1, vI x1), (2, vI x2), (4, vI x4), (3, vI a74)]) rfl dX8_taken_75 ?_
          refine J_iinc (pc := 76) (q := 3) rfl (v := x4 + (1 : Int32)) rfl (by decide) (lv' := [(0, vR (some x0)), (1, vI x1), (2, vI x2), (3, vI a74), (4, vI (x4 + (1 : Int32)))]) rfl dX8_taken_76 ?_
          refine J_goto (pc := 79) (tgt := 44) (by decide) dX8_taken_79 ?_
          exact hk44 _ _ _ g_1
        · rw [if_neg hc57] at h
          refine J_aload_n (pc := 60) (q := 0) rfl rfl dX8_taken_60 ?_
          obtain ⟨a61, h61, g_2⟩ := bnd h
          refine J_getR (pc := 61) (i := 0) clF8 (by decide) rfl fl_RX8_68 h61 dX8_taken_61 ?_
          obtain ⟨a64, h64, g_3⟩ := bnd g_2
          refine J_getR (pc := 64) (i := 2) clF3 (by decide) rfl fl_RX8_97 h64 dX8_taken_64 ?_
          refine J_iload_n (pc := 67) (q := 1) rfl rfl dX8_taken_67 ?_
          obtain ⟨a68, h68, g_4⟩ := bnd g_3
          refine J_ald0 (pc := 68) h68 dX8_taken_68 ?_
          exact J_iret (pc := 69) (qi_of g_4) dX8_taken_69
set_option maxHeartbeats 4000000 in
set_option maxRecDepth 100000 in
theorem tX8_taken {ad : Nat → Nat} {ca : Nat → ClassId} {D : va_G} {FU d : Nat} {r : Int32} {N : Mem}  {x0 : Nat} {x1 : Int32} {x2 : Int32} {M : Mem}  (h : fX8_taken FU  x0 x1 x2 M = some (r, N)) : Ct ad ca D yX8_taken cX8_taken 5 (some .int) (d + 0) [vR (some x0), vI x1, vI x2] M (QI r N) := by
  refine Ct_of (by decide) (Nat.le_of_ble_eq_true rfl) ?_
  show J ad ca D cX8_taken RX8 5 (d + 0) (Gt ad ca D (some .int) (QI r N)) 0 [(0, vR (some x0)), (1, vI x1), (2, vI x2)] [] M
  unfold fX8_taken at h
  refine J_iload_n (pc := 0) (q := 2) rfl rfl dX8_taken_0 ?_
  refine J_iflt (pc := 1) (tgt := 10) (by decide) dX8_taken_1 (fun hc1 => ?_) (fun hc1 => ?_)
  · rw [if_pos hc1] at h
    refine J_bipush (pc := 10) (v := (-2 : Int32)) (by decide) dX8_taken_10 ?_
    exact J_iret (pc := 12) (qi_of h) dX8_taken_12
  · rw [if_neg hc1] at h
    refine J_iload_n (pc := 4) (q := 2) rfl rfl dX8_taken_4 ?_
    refine J_bipush (pc := 5) (v := (6 : Int32)) (by decide) dX8_taken_5 ?_
    refine J_iclt (pc := 7) (tgt := 13) (by decide) dX8_taken_7 (fun hc7 => ?_) (fun hc7 => ?_)
    · rw [if_pos hc7] at h
      refine J_iload_n (pc := 13) (q := 1) rfl rfl dX8_taken_13 ?_
      refine J_iflt (pc := 14) (tgt := 28) (by decide) dX8_taken_14 (fun hc14 => ?_) (fun hc14 => ?_)
      · rw [if_pos hc14] at h
        refine J_bipush (pc := 28) (v := (-11 : Int32)) (by decide) dX8_taken_28 ?_
        exact J_iret (pc := 30) (qi_of h) dX8_taken_30
      · rw [if_neg hc14] at h
        refine J_iload_n (pc := 17) (q := 1) rfl rfl dX8_taken_17 ?_
        refine J_aload_n (pc := 18) (q := 0) rfl rfl dX8_taken_18 ?_
        obtain ⟨a19, h19, g_5⟩ := bnd h
        refine J_getR (pc := 19) (i := 0) clF8 (by decide) rfl fl_RX8_68 h19 dX8_taken_19 ?_
        obtain ⟨a22, h22, g_6⟩ := bnd g_5
        refine J_getI (pc := 22) (i := 8) clF3 (by decide) rfl fl_RX8_87 h22 dX8_taken_22 ?_
        refine J_iclt (pc := 25) (tgt := 31) (by decide) dX8_taken_25 (fun hc25 => ?_) (fun hc25 => ?_)
        · rw [if_pos hc25] at g_6
          refine J_aload_n (pc := 31) (q := 0) rfl rfl dX8_taken_31 ?_
          obtain ⟨a32, h32, g_7⟩ := bnd g_6
          refine J_getR (pc := 32) (i := 0) clF8 (by decide) rfl fl_RX8_68 h32 dX8_taken_32 ?_
          obtain ⟨a35, h35, g_8⟩ := bnd g_7
          refine J_getR (pc := 35) (i := 1) clF3 (by decide) rfl fl_RX8_93 h35 dX8_taken_35 ?_
          refine J_iload_n (pc := 38) (q := 1) rfl rfl dX8_taken_38 ?_
          obtain ⟨a39, h39, g_9⟩ := bnd g_8
          refine J_ald0 (pc := 39) h39 dX8_taken_39 ?_
          refine J_istore_n (pc := 40) rfl (by decide) (lv' := [(0, vR (some x0)), (1, vI x1), (2, vI x2), (3, vI a39)]) rfl dX8_taken_40 ?_
          refine J_iconst (pc := 41) (v := (0 : Int32)) (by decide) dX8_taken_41 ?_
          refine J_istore (pc := 42) (by decide) (lv' := [(0, vR (some x0)), (1, vI x1), (2, vI x2), (3, vI a39), (4, vI (0 : Int32))]) rfl dX8_taken_42 ?_
          exact jX8_taken_L44  FU _ _ _ g_9
        · rw [if_neg hc25] at g_6
          refine J_bipush (pc := 28) (v := (-11 : Int32)) (by decide) dX8_taken_28 ?_
          exact J_iret (pc := 30) (qi_of g_6) dX8_taken_30
    · rw [if_neg hc7] at h
      refine J_bipush (pc := 10) (v := (-2 : Int32)) (by decide) dX8_taken_10 ?_
      exact J_iret (pc := 12) (qi_of h) dX8_taken_12
set_option maxHeartbeats 4000000 in
set_option maxRecDepth 100000 in
theorem tX9_in {ad : Nat → Nat} {ca : Nat → ClassId} {D : va_G} {FU d : Nat} {r : Int32} {N : Mem}  {x0 : Nat} {x1 : Int32} {x2 : Int32} {x3 : Int32} {M : Mem}  (h : fX9_in FU  x0 x1 x2 x3 M = some (r, N)) : Ct ad ca D yX9_in cX9_in 4 (some .boolean) (d + 0) [vR (some x0), vI x1, vI x2, vI x3] M (QI r N) := by
  refine Ct_of (by decide) (Nat.le_of_ble_eq_true rfl) ?_
  show J ad ca D cX9_in RX9 4 (d + 0) (Gt ad ca D (some .boolean) (QI r N)) 0 [(0, vR (some x0)), (1, vI x1), (2, vI x2), (3, vI x3)] [] M
  unfold fX9_in at h
  refine J_iload_n (pc := 0) (q := 1) rfl rfl dX9_in_0 ?_
  refine J_iload_n (pc := 1) (q := 2) rfl rfl dX9_in_1 ?_
  refine J_iclt (pc := 2) (tgt := 14) (by decide) dX9_in_2 (fun hc2 => ?_) (fun hc2 => ?_)
  · rw [if_pos hc2] at h
    refine J_iconst (pc := 14) (v := (0 : Int32)) (by decide) dX9_in_14 ?_
    exact J_zret (pc := 15) (Or.inl rfl) (qi_of h) dX9_in_15
  · rw [if_neg hc2] at h
    refine J_iload_n (pc := 5) (q := 1) rfl rfl dX9_in_5 ?_
    refine J_iload_n (pc := 6) (q := 3) rfl rfl dX9_in_6 ?_
    refine J_icgt (pc := 7) (tgt := 14) (by decide) dX9_in_7 (fun hc7 => ?_) (fun hc7 => ?_)
    · rw [if_pos hc7] at h
      refine J_iconst (pc := 14) (v := (0 : Int32)) (by decide) dX9_in_14 ?_
      exact J_zret (pc := 15) (Or.inl rfl) (qi_of h) dX9_in_15
    · rw [if_neg hc7] at h
      refine J_iconst (pc := 10) (v := (1 : Int32)) (by decide) dX9_in_10 ?_
      refine J_goto (pc := 11) (tgt := 15) (by decide) dX9_in_11 ?_
      exact J_zret (pc := 15) (Or.inr rfl) (qi_of h) dX9_in_15
set_option maxHeartbeats 4000000 in
set_option maxRecDepth 100000 in
theorem tX9_isPlace {ad : Nat → Nat} {ca : Nat → ClassId} {D : va_G} {FU d : Nat} {r : Int32} {N : Mem}  {x0 : Nat} {x1 : Int32} {M : Mem}  (h : fX9_isPlace FU  x0 x1 M = some (r, N)) : Ct ad ca D yX9_isPlace cX9_isPlace 2 (some .boolean) (d + 1) [vR (some x0), vI x1] M (QI r N) := by
  refine Ct_of (by decide) (Nat.le_of_ble_eq_true rfl) ?_
  show J ad ca D cX9_isPlace RX9 2 (d + 1) (Gt ad ca D (some .boolean) (QI r N)) 0 [(0, vR (some x0)), (1, vI x1)] [] M
  unfold fX9_isPlace at h
  refine J_aload_n (pc := 0) (q := 0) rfl rfl dX9_isPlace_0 ?_
  refine J_iload_n (pc := 1) (q := 1) rfl rfl dX9_isPlace_1 ?_
  refine J_iconst (pc := 2) (v := (0 : Int32)) (by decide) dX9_isPlace_2 ?_
  refine J_aload_n (pc := 3) (q := 0) rfl rfl dX9_isPlace_3 ?_
  obtain ⟨a4, h4, g_1⟩ := bnd h
  refine J_getI (pc := 4) (i := 0) clF9 (by decide) rfl fl_RX9_149 h4 dX9_isPlace_4 ?_
  refine J_iconst (pc := 7) (v := (1 : Int32)) (by decide) dX9_isPlace_7 ?_
  refine J_isub (pc := 8) dX9_isPlace_8 ?_
  obtain ⟨b9, hb9, g_2⟩ := bnd g_1
  obtain ⟨r9, M9, h9, g_3⟩ := bnd2 g_2
  refine J_callVI (pc := 9) (as := [vI x1, vI (0 : Int32), vI (a4 - (1 : Int32))]) (tX9_in (d := d)  h9) cf_X9_in cv_X9_in clF9 hb9 ml_RX9_155 (by omega) (Nat.le_of_ble_eq_true rfl) dX9_isPlace_9 ?_
  obtain ⟨hz12, g_4⟩ := grd g_3
  exact J_zret (pc := 12) hz12 (qi_of g_4) dX9_isPlace_12
set_option maxHeartbeats 4000000 in
set_option maxRecDepth 100000 in
theorem jX9_isShutter_b15 {ad : Nat → Nat} {ca : Nat → ClassId} {D : va_G} {FU d : Nat} {r : Int32} {N : Mem}    {M : Mem}   (h : fX9_isShutter_b15 FU  M = some (r, N)) : J ad ca D cX9_isShutter RX9 2 (d + 0) (Gt ad ca D (some .boolean) (QI r N)) 15 [] [] M := by
  unfold fX9_isShutter_b15 at h
  refine J_iconst (pc := 15) (v := (1 : Int32)) (by decide) dX9_isShutter_15 ?_
  refine J_goto (pc := 16) (tgt := 20) (by decide) dX9_isShutter_16 ?_
  exact J_zret (pc := 20) (Or.inr rfl) (qi_of h) dX9_isShutter_20
set_option maxHeartbeats 4000000 in
set_option maxRecDepth 100000 in
theorem tX9_isShutter {ad : Nat → Nat} {ca : Nat → ClassId} {D : va_G} {FU d : Nat} {r : Int32} {N : Mem}  {x0 : Nat} {x1 : Int32} {M : Mem}  (h : fX9_isShutter FU  x0 x1 M = some (r, N)) : Ct ad ca D yX9_isShutter cX9_isShutter 2 (some .boolean) (d + 0) [vR (some x0), vI x1] M (QI r N) := by
  refine Ct_of (by decide) (Nat.le_of_ble_eq_true rfl) ?_
  show J ad ca D cX9_isShutter RX9 2 (d + 0) (Gt ad ca D (some .boolean) (QI r N)) 0 [(0, vR (some x0)), (1, vI x1)] [] M
  unfold fX9_isShutter at h
  refine J_iload_n (pc := 0) (q := 1) rfl rfl dX9_isShutter_0 ?_
  refine J_iconst (pc := 1) (v := (2 : Int32)) (by decide) dX9_isShutter_1 ?_
  refine J_iceq (pc := 2) (tgt := 15) (by decide) dX9_isShutter_2 (fun hc2 => ?_) (fun hc2 => ?_)
  · rw [if_pos hc2] at h
    refine J_sub [] (lv' := []) rfl ?_
    exact jX9_isShutter_b15  h
  · rw [if_neg hc2] at h
    refine J_iload_n (pc := 5) (q := 1) rfl rfl dX9_isShutter_5 ?_
    refine J_iconst (pc := 6) (v := (3 : Int32)) (by decide) dX9_isShutter_6 ?_
    refine J_iceq (pc := 7) (tgt := 15) (by decide) dX9_isShutter_7 (fun hc7 => ?_) (fun hc7 => ?_)
    · rw [if_pos hc7] at h
      refine J_sub [] (lv' := []) rfl ?_
      exact jX9_isShutter_b15  h
    · rw [if_neg hc7] at h
      refine J_iload_n (pc := 10) (q := 1) rfl rfl dX9_isShutter_10 ?_
      refine J_iconst (pc := 11) (v := (5 : Int32)) (by decide) dX9_isShutter_11 ?_
      refine J_icne (pc := 12) (tgt := 19) (by decide) dX9_isShutter_12 (fun hc12 => ?_) (fun hc12 => ?_)
      · rw [if_pos hc12] at h
        refine J_iconst (pc := 19) (v := (0 : Int32)) (by decide) dX9_isShutter_19 ?_
        exact J_zret (pc := 20) (Or.inl rfl) (qi_of h) dX9_isShutter_20
      · rw [if_neg hc12] at h
        refine J_sub [] (lv' := []) rfl ?_
        exact jX9_isShutter_b15  h
set_option maxHeartbeats 4000000 in
set_option maxRecDepth 100000 in
theorem jX9_shutters_b31 {ad : Nat → Nat} {ca : Nat → ClassId} {D : va_G} {FU d : Nat} {r : Int32} {N : Mem}  {k4 : Int32 → Int32 → Mem → Option (Int32 × Mem)} {x0 : Nat} {x2 : Int32} {s0 : Int32} {s1 : Int32} {M : Mem}  (hk4 : ∀ (y1 : Int32) (y2 : Int32) (M : Mem), k4 y1 y2 M = some (r, N) → J ad ca D cX9_shutters RX9 3 (d + 1) (Gt ad ca D (some .int) (QI r N)) 4 [(0, vR (some x0)), (1, vI y1), (2, vI y2)] [] M) (h : fX9_shutters_b31 FU  k4 x0 x2 s0 s1 M = some (r, N)) : J ad ca D cX9_shutters RX9 3 (d + 1) (Gt ad ca D (some .int) (QI r N)) 31 [(0, vR (some x0)), (2, vI x2)] [vI s1, vI s0] M := by
  unfold fX9_shutters_b31 at h
  refine J_iadd (pc := 31) dX9_shutters_31 ?_
  refine J_istore_n (pc := 32) rfl (by decide) (lv' := [(0, vR (some x0)), (2, vI x2), (1, vI (s0 + s1))]) rfl dX9_shutters_32 ?_
  refine J_iinc (pc := 33) (q := 1) rfl (v := x2 + (1 : Int32)) rfl (by decide) (lv' := [(0, vR (some x0)), (1, vI (s0 + s1)), (2, vI (x2 + (1 : Int32)))]) rfl dX9_shutters_33 ?_
  refine J_goto (pc := 36) (tgt := 4) (by decide) dX9_shutters_36 ?_
  exact hk4 _ _ _ h
set_option maxHeartbeats 4000000 in
set_option maxRecDepth 100000 in
theorem jX9_shutters_L4 {ad : Nat → Nat} {ca : Nat → ClassId} {D : va_G} {FU d : Nat} {r : Int32} {N : Mem}   {x0 : Nat}   : ∀ (F : Nat) (x1 : Int32) (x2 : Int32) (M : Mem), fX9_shutters_L4 FU  x0 F x1 x2 M = some (r, N) → J ad ca D cX9_shutters RX9 3 (d + 1) (Gt ad ca D (some .int) (QI r N)) 4 [(0, vR (some x0)), (1, vI x1), (2, vI x2)] [] M := by
  intro F
  induction F with
  | zero =>
    intro x1 x2 M h
    rw [fX9_shutters_L4] at h
    cases h
  | succ F hk4 =>
    intro x1 x2 M h
    rw [fX9_shutters_L4] at h
    refine J_iload_n (pc := 4) (q := 2) rfl rfl dX9_shutters_4 ?_
    refine J_aload_n (pc := 5) (q := 0) rfl rfl dX9_shutters_5 ?_
    obtain ⟨a6, h6, g_1⟩ := bnd h
    refine J_getI (pc := 6) (i := 1) clF9 (by decide) rfl fl_RX9_7 h6 dX9_shutters_6 ?_
    refine J_icge (pc := 9) (tgt := 39) (by decide) dX9_shutters_9 (fun hc9 => ?_) (fun hc9 => ?_)
    · rw [if_pos hc9] at g_1
      refine J_iload_n (pc := 39) (q := 1) rfl rfl dX9_shutters_39 ?_
      exact J_iret (pc := 40) (qi_of g_1) dX9_shutters_40
    · rw [if_neg hc9] at g_1
      refine J_iload_n (pc := 12) (q := 1) rfl rfl dX9_shutters_12 ?_
      refine J_aload_n (pc := 13) (q := 0) rfl rfl dX9_shutters_13 ?_
      refine J_aload_n (pc := 14) (q := 0) rfl rfl dX9_shutters_14 ?_
      obtain ⟨a15, h15, g_2⟩ := bnd g_1
      refine J_getR (pc := 15) (i := 4) clF9 (by decide) rfl fl_RX9_19 h15 dX9_shutters_15 ?_
      refine J_iload_n (pc := 18) (q := 2) rfl rfl dX9_shutters_18 ?_
      obtain ⟨a19, h19, g_3⟩ := bnd g_2
      refine J_ald0 (pc := 19) h19 dX9_shutters_19 ?_
      obtain ⟨b20, hb20, g_4⟩ := bnd g_3
      obtain ⟨r20, M20, h20, g_5⟩ := bnd2 g_4
      refine J_callVI (pc := 20) (as := [vI a19]) (tX9_isShutter (d := d)  h20) cf_X9_isShutter cv_X9_isShutter clF9 hb20 ml_RX9_159 (by omega) (Nat.le_of_ble_eq_true rfl) dX9_shutters_20 ?_
      refine J_ifeq (pc := 23) (tgt := 30) (by decide) dX9_shutters_23 (fun hc23 => ?_) (fun hc23 => ?_)
      · rw [if_pos hc23] at g_5
        refine J_iconst (pc := 30) (v := (0 : Int32)) (by decide) dX9_shutters_30 ?_
        refine J_sub [0, 2] (lv' := [(0, vR (some x0)), (2, vI x2)]) rfl ?_
        exact jX9_shutters_b31 hk4 g_5
      · rw [if_neg hc23] at g_5
        refine J_iconst (pc := 26) (v := (1 : Int32)) (by decide) dX9_shutters_26 ?_
        refine J_goto (pc := 27) (tgt := 31) (by decide) dX9_shutters_27 ?_
        refine J_sub [0, 2] (lv' := [(0, vR (some x0)), (2, vI x2)]) rfl ?_
        exact jX9_shutters_b31 hk4 g_5
set_option maxHeartbeats 4000000 in
set_option maxRecDepth 100000 in
theorem tX9_shutters {ad : Nat → Nat} {ca : Nat → ClassId} {D : va_G} {FU d : Nat} {r : Int32} {N : Mem}  {x0 : Nat} {M : Mem}  (h : fX9_shutters FU  x0 M = some (r, N)) : Ct ad ca D yX9_shutters cX9_shutters 3 (some .int) (d + 1) [vR (some x0)] M (QI r N) := by
  refine Ct_of (by decide) (Nat.le_of_ble_eq_true rfl) ?_
  show J ad ca D cX9_shutters RX9 3 (d + 1) (Gt ad ca D (some .int) (QI r N)) 0 [(0, vR (some x0))] [] M
  unfold fX9_shutters at h
  refine J_iconst (pc := 0) (v := (0 : Int32)) (by decide) dX9_shutters_0 ?_
  refine J_istore_n (pc := 1) rfl (by decide) (lv' := [(0, vR (some x0)), (1, vI (0 : Int32))]) rfl dX9_shutters_1 ?_
  refine J_iconst (pc := 2) (v := (0 : Int32)) (by decide) dX9_shutters_2 ?_
  refine J_istore_n (pc := 3) rfl (by decide) (lv' := [(0, vR (some x0)), (1, vI (0 : Int32)), (2, vI (0 : Int32))]) rfl dX9_shutters_3 ?_
  exact jX9_shutters_L4  FU _ _ _ h
set_option maxHeartbeats 4000000 in
set_option maxRecDepth 100000 in
theorem jX9_shutterOf_b28 {ad : Nat → Nat} {ca : Nat → ClassId} {D : va_G} {FU d : Nat} {r : Int32} {N : Mem}  {k4 : Int32 → Int32 → Mem → Option (Int32 × Mem)} {x0 : Nat} {x1 : Int32} {x3 : Int32} {s0 : Int32} {s1 : Int32} {M : Mem}  (hk4 : ∀ (y2 : Int32) (y3 : Int32) (M : Mem), k4 y2 y3 M = some (r, N) → J ad ca D cX9_shutterOf RX9 4 (d + 1) (Gt ad ca D (some .int) (QI r N)) 4 [(0, vR (some x0)), (1, vI x1), (2, vI y2), (3, vI y3)] [] M) (h : fX9_shutterOf_b28 FU  k4 x0 x1 x3 s0 s1 M = some (r, N)) : J ad ca D cX9_shutterOf RX9 4 (d + 1) (Gt ad ca D (some .int) (QI r N)) 28 [(0, vR (some x0)), (1, vI x1), (3, vI x3)] [vI s1, vI s0] M := by
  unfold fX9_shutterOf_b28 at h
  refine J_iadd (pc := 28) dX9_shutterOf_28 ?_
  refine J_istore_n (pc := 29) rfl (by decide) (lv' := [(0, vR (some x0)), (1, vI x1), (3, vI x3), (2, vI (s0 + s1))]) rfl dX9_shutterOf_29 ?_
  refine J_iinc (pc := 30) (q := 2) rfl (v := x3 + (1 : Int32)) rfl (by decide) (lv' := [(0, vR (some x0)), (1, vI x1), (2, vI (s0 + s1)), (3, vI (x3 + (1 : Int32)))]) rfl dX9_shutterOf_30 ?_
  refine J_goto (pc := 33) (tgt := 4) (by decide) dX9_shutterOf_33 ?_
  exact hk4 _ _ _ h
set_option maxHeartbeats 4000000 in
set_option maxRecDepth 100000 in
theorem jX9_shutterOf_L4 {ad : Nat → Nat} {ca : Nat → ClassId} {D : va_G} {FU d : Nat} {r : Int32} {N : Mem}   {x0 : Nat} {x1 : Int32}   : ∀ (F : Nat) (x2 : Int32) (x3 : Int32) (M : Mem), fX9_shutterOf_L4 FU  x0 x1 F x2 x3 M = some (r, N) → J ad ca D cX9_shutterOf RX9 4 (d + 1) (Gt ad ca D (some .int) (QI r N)) 4 [(0, vR (some x0)), (1, vI x1), (2, vI x2), (3, vI x3)] [] M := by
  intro F
  induction F with
  | zero =>
    intro x2 x3 M h
    rw [fX9_shutterOf_L4] at h
    cases h
  | succ F hk4 =>
    intro x2 x3 M h
    rw [fX9_shutterOf_L4] at h
    refine J_iload_n (pc := 4) (q := 3) rfl rfl dX9_shutterOf_4 ?_
    refine J_iload_n (pc := 5) (q := 1) rfl rfl dX9_shutterOf_5 ?_
    refine J_icge (pc := 6) (tgt := 36) (by decide) dX9_shutterOf_6 (fun hc6 => ?_) (fun hc6 => ?_)
    · rw [if_pos hc6] at h
      refine J_aload_n (pc := 36) (q := 0) rfl rfl dX9_shutterOf_36 ?_
      refine J_aload_n (pc := 37) (q := 0) rfl rfl dX9_shutterOf_37 ?_
      obtain ⟨a38, h38, g_1⟩ := bnd h
      refine J_getR (pc := 38) (i := 4) clF9 (by decide) rfl fl_RX9_19 h38 dX9_shutterOf_38 ?_
      refine J_iload_n (pc := 41) (q := 1) rfl rfl dX9_shutterOf_41 ?_
      obtain ⟨a42, h42, g_2⟩ := bnd g_1
      refine J_ald0 (pc := 42) h42 dX9_shutterOf_42 ?_
      obtain ⟨b43, hb43, g_3⟩ := bnd g_2
      obtain ⟨r43, M43, h43, g_4⟩ := bnd2 g_3
      refine J_callVI (pc := 43) (as := [vI a42]) (tX9_isShutter (d := d)  h43) cf_X9_isShutter cv_X9_isShutter clF9 hb43 ml_RX9_159 (by omega) (Nat.le_of_ble_eq_true rfl) dX9_shutterOf_43 ?_
      refine J_ifeq (pc := 46) (tgt := 53) (by decide) dX9_shutterOf_46 (fun hc46 => ?_) (fun hc46 => ?_)
      · rw [if_pos hc46] at g_4
        refine J_iconst (pc := 53) (v := (-1 : Int32)) (by decide) dX9_shutterOf_53 ?_
        exact J_iret (pc := 54) (qi_of g_4) dX9_shutterOf_54
      · rw [if_neg hc46] at g_4
        refine J_iload_n (pc := 49) (q := 2) rfl rfl dX9_shutterOf_49 ?_
        refine J_goto (pc := 50) (tgt := 54) (by decide) dX9_shutterOf_50 ?_
        exact J_iret (pc := 54) (qi_of g_4) dX9_shutterOf_54
    · rw [if_neg hc6] at h
      refine J_iload_n (pc := 9) (q := 2) rfl rfl dX9_shutterOf_9 ?_
      refine J_aload_n (pc := 10) (q := 0) rfl rfl dX9_shutterOf_10 ?_
      refine J_aload_n (pc := 11) (q := 0) rfl rfl dX9_shutterOf_11 ?_
      obtain ⟨a12, h12, g_5⟩ := bnd h
      refine J_getR (pc := 12) (i := 4) clF9 (by decide) rfl fl_RX9_19 h12 dX9_shutterOf_12 ?_
      refine J_iload_n (pc := 15) (q := 3) rfl rfl dX9_shutterOf_15 ?_
      obtain ⟨a16, h16, g_6⟩ := bnd g_5
      refine J_ald0 (pc := 16) h16 dX9_shutterOf_16 ?_
      obtain ⟨b17, hb17, g_7⟩ := bnd g_6
      obtain ⟨r17, M17, h17, g_8⟩ := bnd2 g_7
      refine J_callVI (pc := 17) (as := [vI a16]) (tX9_isShutter (d := d)  h17) cf_X9_isShutter cv_X9_isShutter clF9 hb17 ml_RX9_159 (by omega) (Nat.le_of_ble_eq_true rfl) dX9_shutterOf_17 ?_
      refine J_ifeq (pc := 20) (tgt := 27) (by decide) dX9_shutterOf_20 (fun hc20 => ?_) (fun hc20 => ?_)
      · rw [if_pos hc20] at g_8
        refine J_iconst (pc := 27) (v := (0 : Int32)) (by decide) dX9_shutterOf_27 ?_
        refine J_sub [0, 1, 3] (lv' := [(0, vR (some x0)), (1, vI x1), (3, vI x3)]) rfl ?_
        exact jX9_shutterOf_b28 hk4 g_8
      · rw [if_neg hc20] at g_8
        refine J_iconst (pc := 23) (v := (1 : Int32)) (by decide) dX9_shutterOf_23 ?_
        refine J_goto (pc := 24) (tgt := 28) (by decide) dX9_shutterOf_24 ?_
        refine J_sub [0, 1, 3] (lv' := [(0, vR (some x0)), (1, vI x1), (3, vI x3)]) rfl ?_
        exact jX9_shutterOf_b28 hk4 g_8
set_option maxHeartbeats 4000000 in
set_option maxRecDepth 100000 in
theorem tX9_shutterOf {ad : Nat → Nat} {ca : Nat → ClassId} {D : va_G} {FU d : Nat} {r : Int32} {N : Mem}  {x0 : Nat} {x1 : Int32} {M : Mem}  (h : fX9_shutterOf FU  x0 x1 M = some (r, N)) : Ct ad ca D yX9_shutterOf cX9_shutterOf 4 (some .int) (d + 1) [vR (some x0), vI x1] M (QI r N) := by
  refine Ct_of (by decide) (Nat.le_of_ble_eq_true rfl) ?_
  show J ad ca D cX9_shutterOf RX9 4 (d + 1) (Gt ad ca D (some .int) (QI r N)) 0 [(0, vR (some x0)), (1, vI x1)] [] M
  unfold fX9_shutterOf at h
  refine J_iconst (pc := 0) (v := (0 : Int32)) (by decide) dX9_shutterOf_0 ?_
  refine J_istore_n (pc := 1) rfl (by decide) (lv' := [(0, vR (some x0)), (1, vI x1), (2, vI (0 : Int32))]) rfl dX9_shutterOf_1 ?_
  refine J_iconst (pc := 2) (v := (0 : Int32)) (by decide) dX9_shutterOf_2 ?_
  refine J_istore_n (pc := 3) rfl (by decide) (lv' := [(0, vR (some x0)), (1, vI x1), (2, vI (0 : Int32)), (3, vI (0 : Int32))]) rfl dX9_shutterOf_3 ?_
  exact jX9_shutterOf_L4  FU _ _ _ h
set_option maxHeartbeats 4000000 in
set_option maxRecDepth 100000 in
theorem tX9_shutFor {ad : Nat → Nat} {ca : Nat → ClassId} {D : va_G} {FU d : Nat} {r : Int32} {N : Mem}  {x0 : Nat} {x1 : Int32} {M : Mem}  (h : fX9_shutFor FU  x0 x1 M = some (r, N)) : Ct ad ca D yX9_shutFor cX9_shutFor 2 (some .int) (d + 1) [vR (some x0), vI x1] M (QI r N) := by
  refine Ct_of (by decide) (Nat.le_of_ble_eq_true rfl) ?_
  show J ad ca D cX9_shutFor RX9 2 (d + 1) (Gt ad ca D (some .int) (QI r N)) 0 [(0, vR (some x0)), (1, vI x1)] [] M
  unfold fX9_shutFor at h
  refine J_iload_n (pc := 0) (q := 1) rfl rfl dX9_shutFor_0 ?_
  refine J_iconst (pc := 1) (v := (3 : Int32)) (by decide) dX9_shutFor_1 ?_
  refine J_icne (pc := 2) (tgt := 9) (by decide) dX9_shutFor_2 (fun hc2 => ?_) (fun hc2 => ?_)
  · rw [if_pos hc2] at h
    refine J_aload_n (pc := 9) (q := 0) rfl rfl dX9_shutFor_9 ?_
    refine J_iload_n (pc := 10) (q := 1) rfl rfl dX9_shutFor_10 ?_
    obtain ⟨b11, hb11, g_1⟩ := bnd h
    obtain ⟨r11, M11, h11, g_2⟩ := bnd2 g_1
    refine J_callVI (pc := 11) (as := [vI x1]) (tX9_isShutter (d := d)  h11) cf_X9_isShutter cv_X9_isShutter clF9 hb11 ml_RX9_159 (by omega) (Nat.le_of_ble_eq_true rfl) dX9_shutFor_11 ?_
    refine J_ifeq (pc := 14) (tgt := 21) (by decide) dX9_shutFor_14 (fun hc14 => ?_) (fun hc14 => ?_)
    · rw [if_pos hc14] at g_2
      refine J_iconst (pc := 21) (v := (0 : Int32)) (by decide) dX9_shutFor_21 ?_
      exact J_iret (pc := 22) (qi_of g_2) dX9_shutFor_22
    · rw [if_neg hc14] at g_2
      refine J_iconst (pc := 17) (v := (1 : Int32)) (by decide) dX9_shutFor_17 ?_
      refine J_goto (pc := 18) (tgt := 22) (by decide) dX9_shutFor_18 ?_
      exact J_iret (pc := 22) (qi_of g_2) dX9_shutFor_22
  · rw [if_neg hc2] at h
    refine J_iconst (pc := 5) (v := (2 : Int32)) (by decide) dX9_shutFor_5 ?_
    refine J_goto (pc := 6) (tgt := 22) (by decide) dX9_shutFor_6 ?_
    exact J_iret (pc := 22) (qi_of h) dX9_shutFor_22
set_option maxHeartbeats 4000000 in
set_option maxRecDepth 100000 in
theorem tX9_changed {ad : Nat → Nat} {ca : Nat → ClassId} {D : va_G} {FU d : Nat} {N : Mem}  {x0 : Nat} {M : Mem}  (h : fX9_changed FU  x0 M = some N) : Ct ad ca D yX9_changed cX9_changed 1 none (d + 0) [vR (some x0)] M (QV N) := by
  refine Ct_of (by decide) (Nat.le_of_ble_eq_true rfl) ?_
  show J ad ca D cX9_changed RX9 1 (d + 0) (Gt ad ca D none (QV N)) 0 [(0, vR (some x0))] [] M
  unfold fX9_changed at h
  refine J_aload_n (pc := 0) (q := 0) rfl rfl dX9_changed_0 ?_
  refine J_iconst (pc := 1) (v := (0 : Int32)) (by decide) dX9_changed_1 ?_
  obtain ⟨M2, h2, g_1⟩ := bnd h
  refine J_putZ (pc := 2) (i := 9) clF9 (by decide) rfl fl_RX9_36 rfl rfl (Or.inl rfl) h2 dX9_changed_2 ?_
  refine J_aload_n (pc := 5) (q := 0) rfl rfl dX9_changed_5 ?_
  refine J_iconst (pc := 6) (v := (0 : Int32)) (by decide) dX9_changed_6 ?_
  obtain ⟨M7, h7, g_2⟩ := bnd g_1
  refine J_putZ (pc := 7) (i := 19) clF9 (by decide) rfl fl_RX9_67 rfl rfl (Or.inl rfl) h7 dX9_changed_7 ?_
  refine J_aload_n (pc := 10) (q := 0) rfl rfl dX9_changed_10 ?_
  refine J_iconst (pc := 11) (v := (0 : Int32)) (by decide) dX9_changed_11 ?_
  obtain ⟨M12, h12, g_3⟩ := bnd g_2
  refine J_putZ (pc := 12) (i := 15) clF9 (by decide) rfl fl_RX9_55 rfl rfl (Or.inl rfl) h12 dX9_changed_12 ?_
  exact J_vret (pc := 15) (qv_of g_3) dX9_changed_15
set_option maxHeartbeats 4000000 in
set_option maxRecDepth 100000 in
theorem jX9_way_b62 {ad : Nat → Nat} {ca : Nat → ClassId} {D : va_G} {FU d : Nat} {r : Int32} {N : Mem}   {x0 : Nat} {x1 : Int32} {x2 : Int32} {x3 : Int32} {M : Mem}   (h : fX9_way_b62 FU  x0 x1 x2 x3 M = some (r, N)) : J ad ca D cX9_way RX9 4 (d + 2) (Gt ad ca D (some .int) (QI r N)) 62 [(0, vR (some x0)), (1, vI x1), (2, vI x2), (3, vI x3)] [] M := by
  unfold fX9_way_b62 at h
  refine J_aload_n (pc := 62) (q := 0) rfl rfl dX9_way_62 ?_
  obtain ⟨a63, h63, g_1⟩ := bnd h
  refine J_getR (pc := 63) (i := 4) clF9 (by decide) rfl fl_RX9_19 h63 dX9_way_63 ?_
  refine J_aload_n (pc := 66) (q := 0) rfl rfl dX9_way_66 ?_
  obtain ⟨a67, h67, g_2⟩ := bnd g_1
  refine J_getI (pc := 67) (i := 1) clF9 (by decide) rfl fl_RX9_7 h67 dX9_way_67 ?_
  refine J_iload_n (pc := 70) (q := 1) rfl rfl dX9_way_70 ?_
  obtain ⟨M71, h71, g_3⟩ := bnd g_2
  refine J_ast0 (pc := 71) h71 dX9_way_71 ?_
  refine J_aload_n (pc := 72) (q := 0) rfl rfl dX9_way_72 ?_
  obtain ⟨a73, h73, g_4⟩ := bnd g_3
  refine J_getR (pc := 73) (i := 5) clF9 (by decide) rfl fl_RX9_23 h73 dX9_way_73 ?_
  refine J_aload_n (pc := 76) (q := 0) rfl rfl dX9_way_76 ?_
  obtain ⟨a77, h77, g_5⟩ := bnd g_4
  refine J_getI (pc := 77) (i := 1) clF9 (by decide) rfl fl_RX9_7 h77 dX9_way_77 ?_
  refine J_iload_n (pc := 80) (q := 2) rfl rfl dX9_way_80 ?_
  obtain ⟨M81, h81, g_6⟩ := bnd g_5
  refine J_ast0 (pc := 81) h81 dX9_way_81 ?_
  refine J_aload_n (pc := 82) (q := 0) rfl rfl dX9_way_82 ?_
  obtain ⟨a83, h83, g_7⟩ := bnd g_6
  refine J_getR (pc := 83) (i := 6) clF9 (by decide) rfl fl_RX9_26 h83 dX9_way_83 ?_
  refine J_aload_n (pc := 86) (q := 0) rfl rfl dX9_way_86 ?_
  obtain ⟨a87, h87, g_8⟩ := bnd g_7
  refine J_getI (pc := 87) (i := 1) clF9 (by decide) rfl fl_RX9_7 h87 dX9_way_87 ?_
  refine J_iload_n (pc := 90) (q := 3) rfl rfl dX9_way_90 ?_
  obtain ⟨M91, h91, g_9⟩ := bnd g_8
  refine J_ast0 (pc := 91) h91 dX9_way_91 ?_
  refine J_aload_n (pc := 92) (q := 0) rfl rfl dX9_way_92 ?_
  refine J_dup (pc := 93) rfl dX9_way_93 ?_
  obtain ⟨a94, h94, g_10⟩ := bnd g_9
  refine J_getI (pc := 94) (i := 1) clF9 (by decide) rfl fl_RX9_7 h94 dX9_way_94 ?_
  refine J_iconst (pc := 97) (v := (1 : Int32)) (by decide) dX9_way_97 ?_
  refine J_iadd (pc := 98) dX9_way_98 ?_
  obtain ⟨M99, h99, g_11⟩ := bnd g_10
  refine J_putI (pc := 99) (i := 1) clF9 (by decide) rfl fl_RX9_7 rfl rfl h99 dX9_way_99 ?_
  refine J_aload_n (pc := 102) (q := 0) rfl rfl dX9_way_102 ?_
  obtain ⟨b103, hb103, g_12⟩ := bnd g_11
  obtain ⟨M103, h103, g_13⟩ := bnd g_12
  refine J_callVV (pc := 103) (as := []) (tX9_changed (d := d)  h103) cf_X9_changed cv_X9_changed clF9 hb103 ml_RX9_170 (by omega) (Nat.le_of_ble_eq_true rfl) dX9_way_103 ?_
  refine J_aload_n (pc := 106) (q := 0) rfl rfl dX9_way_106 ?_
  obtain ⟨a107, h107, g_14⟩ := bnd g_13
  refine J_getI (pc := 107) (i := 1) clF9 (by decide) rfl fl_RX9_7 h107 dX9_way_107 ?_
  refine J_iconst (pc := 110) (v := (1 : Int32)) (by decide) dX9_way_110 ?_
  refine J_isub (pc := 111) dX9_way_111 ?_
  exact J_iret (pc := 112) (qi_of g_14) dX9_way_112
set_option maxHeartbeats 4000000 in
set_option maxRecDepth 100000 in
theorem tX9_way {ad : Nat → Nat} {ca : Nat → ClassId} {D : va_G} {FU d : Nat} {r : Int32} {N : Mem}  {x0 : Nat} {x1 : Int32} {x2 : Int32} {x3 : Int32} {M : Mem}  (h : fX9_way FU  x0 x1 x2 x3 M = some (r, N)) : Ct ad ca D yX9_way cX9_way 4 (some .int) (d + 2) [vR (some x0), vI x1, vI x2, vI x3] M (QI r N) := by
  refine Ct_of (by decide) (Nat.le_of_ble_eq_true rfl) ?_
  show J ad ca D cX9_way RX9 4 (d + 2) (Gt ad ca D (some .int) (QI r N)) 0 [(0, vR (some x0)), (1, vI x1), (2, vI x2), (3, vI x3)] [] M
  unfold fX9_way at h
  refine J_aload_n (pc := 0) (q := 0) rfl rfl dX9_way_0 ?_
  refine J_iload_n (pc := 1) (q := 1) rfl rfl dX9_way_1 ?_
  refine J_iconst (pc := 2) (v := (0 : Int32)) (by decide) dX9_way_2 ?_
  refine J_iconst (pc := 3) (v := (5 : Int32)) (by decide) dX9_way_3 ?_
  obtain ⟨b4, hb4, g_15⟩ := bnd h
  obtain ⟨r4, M4, h4, g_16⟩ := bnd2 g_15
  refine J_callVI (pc := 4) (as := [vI x1, vI (0 : Int32), vI (5 : Int32)]) (tX9_in (d := d)  h4) cf_X9_in cv_X9_in clF9 hb4 ml_RX9_155 (by omega) (Nat.le_of_ble_eq_true rfl) dX9_way_4 ?_
  refine J_ifeq (pc := 7) (tgt := 31) (by decide) dX9_way_7 (fun hc7 => ?_) (fun hc7 => ?_)
  · rw [if_pos hc7] at g_16
    refine J_bipush (pc := 31) (v := (-2 : Int32)) (by decide) dX9_way_31 ?_
    exact J_iret (pc := 33) (qi_of g_16) dX9_way_33
  · rw [if_neg hc7] at g_16
    refine J_aload_n (pc := 10) (q := 0) rfl rfl dX9_way_10 ?_
    refine J_iload_n (pc := 11) (q := 2) rfl rfl dX9_way_11 ?_
    obtain ⟨b12, hb12, g_17⟩ := bnd g_16
    obtain ⟨r12, M12, h12, g_18⟩ := bnd2 g_17
    refine J_callVI (pc := 12) (as := [vI x2]) (tX9_isPlace (d := d)  h12) cf_X9_isPlace cv_X9_isPlace clF9 hb12 ml_RX9_163 (by omega) (Nat.le_of_ble_eq_true rfl) dX9_way_12 ?_
    refine J_ifeq (pc := 15) (tgt := 31) (by decide) dX9_way_15 (fun hc15 => ?_) (fun hc15 => ?_)
    · rw [if_pos hc15] at g_18
      refine J_bipush (pc := 31) (v := (-2 : Int32)) (by decide) dX9_way_31 ?_
      exact J_iret (pc := 33) (qi_of g_18) dX9_way_33
    · rw [if_neg hc15] at g_18
      refine J_aload_n (pc := 18) (q := 0) rfl rfl dX9_way_18 ?_
      refine J_iload_n (pc := 19) (q := 3) rfl rfl dX9_way_19 ?_
      obtain ⟨b20, hb20, g_19⟩ := bnd g_18
      obtain ⟨r20, M20, h20, g_20⟩ := bnd2 g_19
      refine J_callVI (pc := 20) (as := [vI x3]) (tX9_isPlace (d := d)  h20) cf_X9_isPlace cv_X9_isPlace clF9 hb20 ml_RX9_163 (by omega) (Nat.le_of_ble_eq_true rfl) dX9_way_20 ?_
      refine J_ifeq (pc := 23) (tgt := 31) (by decide) dX9_way_23 (fun hc23 => ?_) (fun hc23 => ?_)
      · rw [if_pos hc23] at g_20
        refine J_bipush (pc := 31) (v := (-2 : Int32)) (by decide) dX9_way_31 ?_
        exact J_iret (pc := 33) (qi_of g_20) dX9_way_33
      · rw [if_neg hc23] at g_20
        refine J_iload_n (pc := 26) (q := 2) rfl rfl dX9_way_26 ?_
        refine J_iload_n (pc := 27) (q := 3) rfl rfl dX9_way_27 ?_
        refine J_icne (pc := 28) (tgt := 34) (by decide) dX9_way_28 (fun hc28 => ?_) (fun hc28 => ?_)
        · rw [if_pos hc28] at g_20
          refine J_aload_n (pc := 34) (q := 0) rfl rfl dX9_way_34 ?_
          obtain ⟨a35, h35, g_21⟩ := bnd g_20
          refine J_getI (pc := 35) (i := 1) clF9 (by decide) rfl fl_RX9_7 h35 dX9_way_35 ?_
          refine J_bipush (pc := 38) (v := (16 : Int32)) (by decide) dX9_way_38 ?_
          refine J_iceq (pc := 40) (tgt := 59) (by decide) dX9_way_40 (fun hc40 => ?_) (fun hc40 => ?_)
          · rw [if_pos hc40] at g_21
            refine J_bipush (pc := 59) (v := (-4 : Int32)) (by decide) dX9_way_59 ?_
            exact J_iret (pc := 61) (qi_of g_21) dX9_way_61
          · rw [if_neg hc40] at g_21
            refine J_aload_n (pc := 43) (q := 0) rfl rfl dX9_way_43 ?_
            refine J_iload_n (pc := 44) (q := 1) rfl rfl dX9_way_44 ?_
            obtain ⟨b45, hb45, g_22⟩ := bnd g_21
            obtain ⟨r45, M45, h45, g_23⟩ := bnd2 g_22
            refine J_callVI (pc := 45) (as := [vI x1]) (tX9_isShutter (d := d)  h45) cf_X9_isShutter cv_X9_isShutter clF9 hb45 ml_RX9_159 (by omega) (Nat.le_of_ble_eq_true rfl) dX9_way_45 ?_
            refine J_ifeq (pc := 48) (tgt := 62) (by decide) dX9_way_48 (fun hc48 => ?_) (fun hc48 => ?_)
            · rw [if_pos hc48] at g_23
              exact jX9_way_b62  g_23
            · rw [if_neg hc48] at g_23
              refine J_aload_n (pc := 51) (q := 0) rfl rfl dX9_way_51 ?_
              obtain ⟨b52, hb52, g_24⟩ := bnd g_23
              obtain ⟨r52, M52, h52, g_25⟩ := bnd2 g_24
              refine J_callVI (pc := 52) (as := []) (tX9_shutters (d := d)  h52) cf_X9_shutters cv_X9_shutters clF9 hb52 ml_RX9_166 (by omega) (Nat.le_of_ble_eq_true rfl) dX9_way_52 ?_
              refine J_iconst (pc := 55) (v := (2 : Int32)) (by decide) dX9_way_55 ?_
              refine J_icne (pc := 56) (tgt := 62) (by decide) dX9_way_56 (fun hc56 => ?_) (fun hc56 => ?_)
              · rw [if_pos hc56] at g_25
                exact jX9_way_b62  g_25
              · rw [if_neg hc56] at g_25
                refine J_bipush (pc := 59) (v := (-4 : Int32)) (by decide) dX9_way_59 ?_
                exact J_iret (pc := 61) (qi_of g_25) dX9_way_61
        · rw [if_neg hc28] at g_20
          refine J_bipush (pc := 31) (v := (-2 : Int32)) (by decide) dX9_way_31 ?_
          exact J_iret (pc := 33) (qi_of g_20) dX9_way_33
set_option maxHeartbeats 4000000 in
set_option maxRecDepth 100000 in
theorem tX9_unway {ad : Nat → Nat} {ca : Nat → ClassId} {D : va_G} {FU d : Nat} {r : Int32} {N : Mem}  {x0 : Nat} {M : Mem}  (h : fX9_unway FU  x0 M = some (r, N)) : Ct ad ca D yX9_unway cX9_unway 1 (some .int) (d + 1) [vR (some x0)] M (QI r N) := by
  refine Ct_of (by decide) (Nat.le_of_ble_eq_true rfl) ?_
  show J ad ca D cX9_unway RX9 1 (d + 1) (Gt ad ca D (some .int) (QI r N)) 0 [(0, vR (some x0))] [] M
  unfold fX9_unway at h
  refine J_aload_n (pc := 0) (q := 0) rfl rfl dX9_unway_0 ?_
  obtain ⟨a1, h1, g_1⟩ := bnd h
  refine J_getI (pc := 1) (i := 1) clF9 (by decide) rfl fl_RX9_7 h1 dX9_unway_1 ?_
  refine J_ifne (pc := 4) (tgt := 10) (by decide) dX9_unway_4 (fun hc4 => ?_) (fun hc4 => ?_)
  · rw [if_pos hc4] at g_1
    refine J_aload_n (pc := 10) (q := 0) rfl rfl dX9_unway_10 ?_
    refine J_dup (pc := 11) rfl dX9_unway_11 ?_
    obtain ⟨a12, h12, g_2⟩ := bnd g_1
    refine J_getI (pc := 12) (i := 1) clF9 (by decide) rfl fl_RX9_7 h12 dX9_unway_12 ?_
    refine J_iconst (pc := 15) (v := (1 : Int32)) (by decide) dX9_unway_15 ?_
    refine J_isub (pc := 16) dX9_unway_16 ?_
    obtain ⟨M17, h17, g_3⟩ := bnd g_2
    refine J_putI (pc := 17) (i := 1) clF9 (by decide) rfl fl_RX9_7 rfl rfl h17 dX9_unway_17 ?_
    refine J_aload_n (pc := 20) (q := 0) rfl rfl dX9_unway_20 ?_
    obtain ⟨b21, hb21, g_4⟩ := bnd g_3
    obtain ⟨M21, h21, g_5⟩ := bnd g_4
    refine J_callVV (pc := 21) (as := []) (tX9_changed (d := d)  h21) cf_X9_changed cv_X9_changed clF9 hb21 ml_RX9_170 (by omega) (Nat.le_of_ble_eq_true rfl) dX9_unway_21 ?_
    refine J_aload_n (pc := 24) (q := 0) rfl rfl dX9_unway_24 ?_
    obtain ⟨a25, h25, g_6⟩ := bnd g_5
    refine J_getI (pc := 25) (i := 1) clF9 (by decide) rfl fl_RX9_7 h25 dX9_unway_25 ?_
    exact J_iret (pc := 28) (qi_of g_6) dX9_unway_28
  · rw [if_neg hc4] at g_1
    refine J_bipush (pc := 7) (v := (-3 : Int32)) (by decide) dX9_unway_7 ?_
    exact J_iret (pc := 9) (qi_of g_1) dX9_unway_9
set_option maxHeartbeats 4000000 in
set_option maxRecDepth 100000 in
theorem tX9_wayTold {ad : Nat → Nat} {ca : Nat → ClassId} {D : va_G} {FU d : Nat} {r : Int32} {N : Mem}  {x0 : Nat} {x1 : Int32} {x2 : Int32} {M : Mem}  (h : fX9_wayTold FU  x0 x1 x2 M = some (r, N)) : Ct ad ca D yX9_wayTold cX9_wayTold 3 (some .int) (d + 2) [vR (some x0), vI x1, vI x2] M (QI r N) := by
  refine Ct_of (by decide) (Nat.le_of_ble_eq_true rfl) ?_
  show J ad ca D cX9_wayTold RX9 3 (d + 2) (Gt ad ca D (some .int) (QI r N)) 0 [(0, vR (some x0)), (1, vI x1), (2, vI x2)] [] M
  unfold fX9_wayTold at h
  refine J_aload_n (pc := 0) (q := 0) rfl rfl dX9_wayTold_0 ?_
  refine J_iload_n (pc := 1) (q := 1) rfl rfl dX9_wayTold_1 ?_
  refine J_iconst (pc := 2) (v := (0 : Int32)) (by decide) dX9_wayTold_2 ?_
  refine J_aload_n (pc := 3) (q := 0) rfl rfl dX9_wayTold_3 ?_
  obtain ⟨a4, h4, g_1⟩ := bnd h
  refine J_getI (pc := 4) (i := 1) clF9 (by decide) rfl fl_RX9_7 h4 dX9_wayTold_4 ?_
  refine J_iconst (pc := 7) (v := (1 : Int32)) (by decide) dX9_wayTold_7 ?_
  refine J_isub (pc := 8) dX9_wayTold_8 ?_
  obtain ⟨b9, hb9, g_2⟩ := bnd g_1
  obtain ⟨r9, M9, h9, g_3⟩ := bnd2 g_2
  refine J_callVI (pc := 9) (as := [vI x1, vI (0 : Int32), vI (a4 - (1 : Int32))]) (tX9_in (d := d)  h9) cf_X9_in cv_X9_in clF9 hb9 ml_RX9_155 (by omega) (Nat.le_of_ble_eq_true rfl) dX9_wayTold_9 ?_
  refine J_ifeq (pc := 12) (tgt := 25) (by decide) dX9_wayTold_12 (fun hc12 => ?_) (fun hc12 => ?_)
  · rw [if_pos hc12] at g_3
    refine J_bipush (pc := 25) (v := (-2 : Int32)) (by decide) dX9_wayTold_25 ?_
    exact J_iret (pc := 27) (qi_of g_3) dX9_wayTold_27
  · rw [if_neg hc12] at g_3
    refine J_aload_n (pc := 15) (q := 0) rfl rfl dX9_wayTold_15 ?_
    refine J_iload_n (pc := 16) (q := 2) rfl rfl dX9_wayTold_16 ?_
    refine J_iconst (pc := 17) (v := (0 : Int32)) (by decide) dX9_wayTold_17 ?_
    refine J_iconst (pc := 18) (v := (4 : Int32)) (by decide) dX9_wayTold_18 ?_
    obtain ⟨b19, hb19, g_4⟩ := bnd g_3
    obtain ⟨r19, M19, h19, g_5⟩ := bnd2 g_4
    refine J_callVI (pc := 19) (as := [vI x2, vI (0 : Int32), vI (4 : Int32)]) (tX9_in (d := d)  h19) cf_X9_in cv_X9_in clF9 hb19 ml_RX9_155 (by omega) (Nat.le_of_ble_eq_true rfl) dX9_wayTold_19 ?_
    refine J_ifne (pc := 22) (tgt := 28) (by decide) dX9_wayTold_22 (fun hc22 => ?_) (fun hc22 => ?_)
    · rw [if_pos hc22] at g_5
      refine J_iload_n (pc := 28) (q := 2) rfl rfl dX9_wayTold_28 ?_
      refine J_ifne (pc := 29) (tgt := 41) (by decide) dX9_wayTold_29 (fun hc29 => ?_) (fun hc29 => ?_)
      · rw [if_pos hc29] at g_5
        refine J_iload_n (pc := 41) (q := 2) rfl rfl dX9_wayTold_41 ?_
        refine J_iconst (pc := 42) (v := (1 : Int32)) (by decide) dX9_wayTold_42 ?_
        refine J_icne (pc := 43) (tgt := 55) (by decide) dX9_wayTold_43 (fun hc43 => ?_) (fun hc43 => ?_)
        · rw [if_pos hc43] at g_5
          refine J_iload_n (pc := 55) (q := 2) rfl rfl dX9_wayTold_55 ?_
          refine J_iconst (pc := 56) (v := (2 : Int32)) (by decide) dX9_wayTold_56 ?_
          refine J_icne (pc := 57) (tgt := 69) (by decide) dX9_wayTold_57 (fun hc57 => ?_) (fun hc57 => ?_)
          · rw [if_pos hc57] at g_5
            refine J_iload_n (pc := 69) (q := 2) rfl rfl dX9_wayTold_69 ?_
            refine J_iconst (pc := 70) (v := (3 : Int32)) (by decide) dX9_wayTold_70 ?_
            refine J_icne (pc := 71) (tgt := 82) (by decide) dX9_wayTold_71 (fun hc71 => ?_) (fun hc71 => ?_)
            · rw [if_pos hc71] at g_5
              refine J_aload_n (pc := 82) (q := 0) rfl rfl dX9_wayTold_82 ?_
              refine J_aload_n (pc := 83) (q := 0) rfl rfl dX9_wayTold_83 ?_
              obtain ⟨a84, h84, g_6⟩ := bnd g_5
              refine J_getR (pc := 84) (i := 4) clF9 (by decide) rfl fl_RX9_19 h84 dX9_wayTold_84 ?_
              refine J_iload_n (pc := 87) (q := 1) rfl rfl dX9_wayTold_87 ?_
              obtain ⟨a88, h88, g_7⟩ := bnd g_6
              refine J_ald0 (pc := 88) h88 dX9_wayTold_88 ?_
              obtain ⟨b89, hb89, g_8⟩ := bnd g_7
              obtain ⟨r89, M89, h89, g_9⟩ := bnd2 g_8
              refine J_callVI (pc := 89) (as := [vI a88]) (tX9_shutFor (d := d)  h89) cf_X9_shutFor cv_X9_shutFor clF9 hb89 ml_RX9_177 (by omega) (Nat.le_of_ble_eq_true rfl) dX9_wayTold_89 ?_
              exact J_iret (pc := 92) (qi_of g_9) dX9_wayTold_92
            · rw [if_neg hc71] at g_5
              refine J_aload_n (pc := 74) (q := 0) rfl rfl dX9_wayTold_74 ?_
              refine J_iload_n (pc := 75) (q := 1) rfl rfl dX9_wayTold_75 ?_
              obtain ⟨b76, hb76, g_10⟩ := bnd g_5
              obtain ⟨r76, M76, h76, g_11⟩ := bnd2 g_10
              refine J_callVI (pc := 76) (as := [vI x1]) (tX9_shutterOf (d := d)  h76) cf_X9_shutterOf cv_X9_shutterOf clF9 hb76 ml_RX9_173 (by omega) (Nat.le_of_ble_eq_true rfl) dX9_wayTold_76 ?_
              refine J_goto (pc := 79) (tgt := 92) (by decide) dX9_wayTold_79 ?_
              exact J_iret (pc := 92) (qi_of g_11) dX9_wayTold_92
          · rw [if_neg hc57] at g_5
            refine J_aload_n (pc := 60) (q := 0) rfl rfl dX9_wayTold_60 ?_
            obtain ⟨a61, h61, g_12⟩ := bnd g_5
            refine J_getR (pc := 61) (i := 6) clF9 (by decide) rfl fl_RX9_26 h61 dX9_wayTold_61 ?_
            refine J_iload_n (pc := 64) (q := 1) rfl rfl dX9_wayTold_64 ?_
            obtain ⟨a65, h65, g_13⟩ := bnd g_12
            refine J_ald0 (pc := 65) h65 dX9_wayTold_65 ?_
            refine J_goto (pc := 66) (tgt := 92) (by decide) dX9_wayTold_66 ?_
            exact J_iret (pc := 92) (qi_of g_13) dX9_wayTold_92
        · rw [if_neg hc43] at g_5
          refine J_aload_n (pc := 46) (q := 0) rfl rfl dX9_wayTold_46 ?_
          obtain ⟨a47, h47, g_14⟩ := bnd g_5
          refine J_getR (pc := 47) (i := 5) clF9 (by decide) rfl fl_RX9_23 h47 dX9_wayTold_47 ?_
          refine J_iload_n (pc := 50) (q := 1) rfl rfl dX9_wayTold_50 ?_
          obtain ⟨a51, h51, g_15⟩ := bnd g_14
          refine J_ald0 (pc := 51) h51 dX9_wayTold_51 ?_
          refine J_goto (pc := 52) (tgt := 92) (by decide) dX9_wayTold_52 ?_
          exact J_iret (pc := 92) (qi_of g_15) dX9_wayTold_92
      · rw [if_neg hc29] at g_5
        refine J_aload_n (pc := 32) (q := 0) rfl rfl dX9_wayTold_32 ?_
        obtain ⟨a33, h33, g_16⟩ := bnd g_5
        refine J_getR (pc := 33) (i := 4) clF9 (by decide) rfl fl_RX9_19 h33 dX9_wayTold_33 ?_
        refine J_iload_n (pc := 36) (q := 1) rfl rfl dX9_wayTold_36 ?_
        obtain ⟨a37, h37, g_17⟩ := bnd g_16
        refine J_ald0 (pc := 37) h37 dX9_wayTold_37 ?_
        refine J_goto (pc := 38) (tgt := 92) (by decide) dX9_wayTold_38 ?_
        exact J_iret (pc := 92) (qi_of g_17) dX9_wayTold_92
    · rw [if_neg hc22] at g_5
      refine J_bipush (pc := 25) (v := (-2 : Int32)) (by decide) dX9_wayTold_25 ?_
      exact J_iret (pc := 27) (qi_of g_5) dX9_wayTold_27
