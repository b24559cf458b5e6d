set_option maxHeartbeats 4000000 in
set_option maxRecDepth 100000 in
theorem jX9_ground_b84 {ad : Nat → Nat} {ca : Nat → ClassId} {D : va_G} {FU d : Nat} {r : Int32} {N : Mem}   {x0 : Nat} {x3 : Int32} {s0 : Option Nat} {s1 : Int32} {s2 : Int32} {M : Mem}   (h : fX9_ground_b84 FU  x0 x3 s0 s1 s2 M = some (r, N)) : J ad ca D cX9_ground RX9 4 (d + 2) (Gt ad ca D (some .int) (QI r N)) 84 [(0, vR (some x0)), (3, vI x3)] [vI s2, vI s1, vR s0] M := by
  unfold fX9_ground_b84 at h
  obtain ⟨M84, h84, g_1⟩ := bnd h
  refine J_ast1 (pc := 84) h84 dX9_ground_84 ?_
  refine J_aload_n (pc := 85) (q := 0) rfl rfl dX9_ground_85 ?_
  obtain ⟨b86, hb86, g_2⟩ := bnd g_1
  obtain ⟨M86, h86, g_3⟩ := bnd g_2
  refine J_callVV (pc := 86) (as := []) (tX9_changed (d := d)  h86) cf_X9_changed cv_X9_changed clF9 hb86 ml_RX9_170 (by omega) (Nat.le_of_ble_eq_true rfl) dX9_ground_86 ?_
  refine J_iload_n (pc := 89) (q := 1) rfl rfl dX9_ground_89 ?_
  exact J_iret (pc := 90) (qi_of g_3) dX9_ground_90
set_option maxHeartbeats 4000000 in
set_option maxRecDepth 100000 in
theorem jX9_ground_b68 {ad : Nat → Nat} {ca : Nat → ClassId} {D : va_G} {FU d : Nat} {r : Int32} {N : Mem}   {x0 : Nat} {x1 : Int32} {x2 : Int32} {x3 : Int32} {s0 : Option Nat} {s1 : Int32} {s2 : Int32} {M : Mem}   (h : fX9_ground_b68 FU  x0 x1 x2 x3 s0 s1 s2 M = some (r, N)) : J ad ca D cX9_ground RX9 4 (d + 2) (Gt ad ca D (some .int) (QI r N)) 68 [(0, vR (some x0)), (1, vI x1), (2, vI x2), (3, vI x3)] [vI s2, vI s1, vR s0] M := by
  unfold fX9_ground_b68 at h
  obtain ⟨M68, h68, g_4⟩ := bnd h
  refine J_ast1 (pc := 68) h68 dX9_ground_68 ?_
  refine J_aload_n (pc := 69) (q := 0) rfl rfl dX9_ground_69 ?_
  obtain ⟨a70, h70, g_5⟩ := bnd g_4
  refine J_getR (pc := 70) (i := 8) clF9 (by decide) rfl fl_RX9_33 h70 dX9_ground_70 ?_
  refine J_iload_n (pc := 73) (q := 1) rfl rfl dX9_ground_73 ?_
  refine J_iload_n (pc := 74) (q := 2) rfl rfl dX9_ground_74 ?_
  refine J_iconst (pc := 75) (v := (1 : Int32)) (by decide) dX9_ground_75 ?_
  refine J_icle (pc := 76) (tgt := 83) (by decide) dX9_ground_76 (fun hc76 => ?_) (fun hc76 => ?_)
  · rw [if_pos hc76] at g_5
    refine J_iconst (pc := 83) (v := (0 : Int32)) (by decide) dX9_ground_83 ?_
    refine J_sub [0, 3] (lv' := [(0, vR (some x0)), (3, vI x3)]) rfl ?_
    exact jX9_ground_b84  g_5
  · rw [if_neg hc76] at g_5
    refine J_iconst (pc := 79) (v := (1 : Int32)) (by decide) dX9_ground_79 ?_
    refine J_goto (pc := 80) (tgt := 84) (by decide) dX9_ground_80 ?_
    refine J_sub [0, 3] (lv' := [(0, vR (some x0)), (3, vI x3)]) rfl ?_
    exact jX9_ground_b84  g_5
set_option maxHeartbeats 4000000 in
set_option maxRecDepth 100000 in
theorem jX9_ground_b49 {ad : Nat → Nat} {ca : Nat → ClassId} {D : va_G} {FU d : Nat} {r : Int32} {N : Mem}   {x0 : Nat} {x1 : Int32} {x2 : Int32} {s0 : Int32} {s1 : Int32} {M : Mem}   (h : fX9_ground_b49 FU  x0 x1 x2 s0 s1 M = some (r, N)) : J ad ca D cX9_ground RX9 4 (d + 2) (Gt ad ca D (some .int) (QI r N)) 49 [(0, vR (some x0)), (1, vI x1), (2, vI x2)] [vI s1, vI s0] M := by
  unfold fX9_ground_b49 at h
  refine J_iadd (pc := 49) dX9_ground_49 ?_
  refine J_istore_n (pc := 50) rfl (by decide) (lv' := [(0, vR (some x0)), (1, vI x1), (2, vI x2), (3, vI (s0 + s1))]) rfl dX9_ground_50 ?_
  refine J_aload_n (pc := 51) (q := 0) rfl rfl dX9_ground_51 ?_
  obtain ⟨a52, h52, g_6⟩ := bnd h
  refine J_getR (pc := 52) (i := 7) clF9 (by decide) rfl fl_RX9_29 h52 dX9_ground_52 ?_
  refine J_iload_n (pc := 55) (q := 1) rfl rfl dX9_ground_55 ?_
  refine J_iload_n (pc := 56) (q := 2) rfl rfl dX9_ground_56 ?_
  refine J_iconst (pc := 57) (v := (1 : Int32)) (by decide) dX9_ground_57 ?_
  refine J_iand (pc := 58) dX9_ground_58 ?_
  refine J_iconst (pc := 59) (v := (1 : Int32)) (by decide) dX9_ground_59 ?_
  refine J_icne (pc := 60) (tgt := 67) (by decide) dX9_ground_60 (fun hc60 => ?_) (fun hc60 => ?_)
  · rw [if_pos hc60] at g_6
    refine J_iconst (pc := 67) (v := (0 : Int32)) (by decide) dX9_ground_67 ?_
    exact jX9_ground_b68  g_6
  · rw [if_neg hc60] at g_6
    refine J_iconst (pc := 63) (v := (1 : Int32)) (by decide) dX9_ground_63 ?_
    refine J_goto (pc := 64) (tgt := 68) (by decide) dX9_ground_64 ?_
    exact jX9_ground_b68  g_6
set_option maxHeartbeats 4000000 in
set_option maxRecDepth 100000 in
theorem jX9_ground_b35 {ad : Nat → Nat} {ca : Nat → ClassId} {D : va_G} {FU d : Nat} {r : Int32} {N : Mem}   {x0 : Nat} {x1 : Int32} {x2 : Int32} {s0 : Int32} {M : Mem}   (h : fX9_ground_b35 FU  x0 x1 x2 s0 M = some (r, N)) : J ad ca D cX9_ground RX9 4 (d + 2) (Gt ad ca D (some .int) (QI r N)) 35 [(0, vR (some x0)), (1, vI x1), (2, vI x2)] [vI s0] M := by
  unfold fX9_ground_b35 at h
  refine J_aload_n (pc := 35) (q := 0) rfl rfl dX9_ground_35 ?_
  obtain ⟨a36, h36, g_7⟩ := bnd h
  refine J_getR (pc := 36) (i := 8) clF9 (by decide) rfl fl_RX9_33 h36 dX9_ground_36 ?_
  refine J_iload_n (pc := 39) (q := 1) rfl rfl dX9_ground_39 ?_
  obtain ⟨a40, h40, g_8⟩ := bnd g_7
  refine J_ald1 (pc := 40) h40 dX9_ground_40 ?_
  refine J_ifeq (pc := 41) (tgt := 48) (by decide) dX9_ground_41 (fun hc41 => ?_) (fun hc41 => ?_)
  · rw [if_pos hc41] at g_8
    refine J_iconst (pc := 48) (v := (0 : Int32)) (by decide) dX9_ground_48 ?_
    exact jX9_ground_b49  g_8
  · rw [if_neg hc41] at g_8
    refine J_iconst (pc := 44) (v := (2 : Int32)) (by decide) dX9_ground_44 ?_
    refine J_goto (pc := 45) (tgt := 49) (by decide) dX9_ground_45 ?_
    exact jX9_ground_b49  g_8
set_option maxHeartbeats 4000000 in
set_option maxRecDepth 100000 in
theorem tX9_ground {ad : Nat → Nat} {ca : Nat → ClassId} {D : va_G} {FU d : Nat} {r : Int32} {N : Mem}  {x0 : Nat} {x1 : Int32} {x2 : Int32} {M : Mem}  (h : fX9_ground FU  x0 x1 x2 M = some (r, N)) : Ct ad ca D yX9_ground cX9_ground 4 (some .int) (d + 2) [vR (some x0), vI x1, vI x2] M (QI r N) := by
  refine Ct_of (by decide) (Nat.le_of_ble_eq_true rfl) ?_
  show J ad ca D cX9_ground RX9 4 (d + 2) (Gt ad ca D (some .int) (QI r N)) 0 [(0, vR (some x0)), (1, vI x1), (2, vI x2)] [] M
  unfold fX9_ground at h
  refine J_aload_n (pc := 0) (q := 0) rfl rfl dX9_ground_0 ?_
  refine J_iload_n (pc := 1) (q := 1) rfl rfl dX9_ground_1 ?_
  obtain ⟨b2, hb2, g_9⟩ := bnd h
  obtain ⟨r2, M2, h2, g_10⟩ := bnd2 g_9
  refine J_callVI (pc := 2) (as := [vI x1]) (tX9_isPlace (d := d)  h2) cf_X9_isPlace cv_X9_isPlace clF9 hb2 ml_RX9_163 (by omega) (Nat.le_of_ble_eq_true rfl) dX9_ground_2 ?_
  refine J_ifeq (pc := 5) (tgt := 18) (by decide) dX9_ground_5 (fun hc5 => ?_) (fun hc5 => ?_)
  · rw [if_pos hc5] at g_10
    refine J_bipush (pc := 18) (v := (-2 : Int32)) (by decide) dX9_ground_18 ?_
    exact J_iret (pc := 20) (qi_of g_10) dX9_ground_20
  · rw [if_neg hc5] at g_10
    refine J_aload_n (pc := 8) (q := 0) rfl rfl dX9_ground_8 ?_
    refine J_iload_n (pc := 9) (q := 2) rfl rfl dX9_ground_9 ?_
    refine J_iconst (pc := 10) (v := (0 : Int32)) (by decide) dX9_ground_10 ?_
    refine J_iconst (pc := 11) (v := (3 : Int32)) (by decide) dX9_ground_11 ?_
    obtain ⟨b12, hb12, g_11⟩ := bnd g_10
    obtain ⟨r12, M12, h12, g_12⟩ := bnd2 g_11
    refine J_callVI (pc := 12) (as := [vI x2, vI (0 : Int32), vI (3 : Int32)]) (tX9_in (d := d)  h12) cf_X9_in cv_X9_in clF9 hb12 ml_RX9_155 (by omega) (Nat.le_of_ble_eq_true rfl) dX9_ground_12 ?_
    refine J_ifne (pc := 15) (tgt := 21) (by decide) dX9_ground_15 (fun hc15 => ?_) (fun hc15 => ?_)
    · rw [if_pos hc15] at g_12
      refine J_aload_n (pc := 21) (q := 0) rfl rfl dX9_ground_21 ?_
      obtain ⟨a22, h22, g_13⟩ := bnd g_12
      refine J_getR (pc := 22) (i := 7) clF9 (by decide) rfl fl_RX9_29 h22 dX9_ground_22 ?_
      refine J_iload_n (pc := 25) (q := 1) rfl rfl dX9_ground_25 ?_
      obtain ⟨a26, h26, g_14⟩ := bnd g_13
      refine J_ald1 (pc := 26) h26 dX9_ground_26 ?_
      refine J_ifeq (pc := 27) (tgt := 34) (by decide) dX9_ground_27 (fun hc27 => ?_) (fun hc27 => ?_)
      · rw [if_pos hc27] at g_14
        refine J_iconst (pc := 34) (v := (0 : Int32)) (by decide) dX9_ground_34 ?_
        exact jX9_ground_b35  g_14
      · rw [if_neg hc27] at g_14
        refine J_iconst (pc := 30) (v := (1 : Int32)) (by decide) dX9_ground_30 ?_
        refine J_goto (pc := 31) (tgt := 35) (by decide) dX9_ground_31 ?_
        exact jX9_ground_b35  g_14
    · rw [if_neg hc15] at g_12
      refine J_bipush (pc := 18) (v := (-2 : Int32)) (by decide) dX9_ground_18 ?_
      exact J_iret (pc := 20) (qi_of g_12) dX9_ground_20
set_option maxHeartbeats 4000000 in
set_option maxRecDepth 100000 in
theorem jX9_tell_b74 {ad : Nat → Nat} {ca : Nat → ClassId} {D : va_G} {FU d : Nat} {r : Int32} {N : Mem}   {x0 : Nat} {x3 : Int32} {M : Mem}   (h : fX9_tell_b74 FU  x0 x3 M = some (r, N)) : J ad ca D cX9_tell RX9 4 (d + 1) (Gt ad ca D (some .int) (QI r N)) 74 [(0, vR (some x0)), (3, vI x3)] [] M := by
  unfold fX9_tell_b74 at h
  refine J_aload_n (pc := 74) (q := 0) rfl rfl dX9_tell_74 ?_
  obtain ⟨b75, hb75, g_1⟩ := bnd h
  obtain ⟨M75, h75, g_2⟩ := bnd g_1
  refine J_callVV (pc := 75) (as := []) (tX9_changed (d := d)  h75) cf_X9_changed cv_X9_changed clF9 hb75 ml_RX9_170 (by omega) (Nat.le_of_ble_eq_true rfl) dX9_tell_75 ?_
  refine J_iload_n (pc := 78) (q := 1) rfl rfl dX9_tell_78 ?_
  exact J_iret (pc := 79) (qi_of g_2) dX9_tell_79
set_option maxHeartbeats 4000000 in
set_option maxRecDepth 100000 in
theorem jX9_tell_b64 {ad : Nat → Nat} {ca : Nat → ClassId} {D : va_G} {FU d : Nat} {r : Int32} {N : Mem}   {x0 : Nat} {x1 : Int32} {x2 : Int32} {x3 : Int32} {M : Mem}   (h : fX9_tell_b64 FU  x0 x1 x2 x3 M = some (r, N)) : J ad ca D cX9_tell RX9 4 (d + 1) (Gt ad ca D (some .int) (QI r N)) 64 [(0, vR (some x0)), (1, vI x1), (2, vI x2), (3, vI x3)] [] M := by
  unfold fX9_tell_b64 at h
  refine J_iload_n (pc := 64) (q := 1) rfl rfl dX9_tell_64 ?_
  refine J_iconst (pc := 65) (v := (1 : Int32)) (by decide) dX9_tell_65 ?_
  refine J_icne (pc := 66) (tgt := 74) (by decide) dX9_tell_66 (fun hc66 => ?_) (fun hc66 => ?_)
  · rw [if_pos hc66] at h
    refine J_sub [0, 3] (lv' := [(0, vR (some x0)), (3, vI x3)]) rfl ?_
    exact jX9_tell_b74  h
  · rw [if_neg hc66] at h
    refine J_aload_n (pc := 69) (q := 0) rfl rfl dX9_tell_69 ?_
    refine J_iload_n (pc := 70) (q := 2) rfl rfl dX9_tell_70 ?_
    obtain ⟨M71, h71, g_3⟩ := bnd h
    refine J_putI (pc := 71) (i := 3) clF9 (by decide) rfl fl_RX9_16 rfl rfl h71 dX9_tell_71 ?_
    refine J_sub [0, 3] (lv' := [(0, vR (some x0)), (3, vI x3)]) rfl ?_
    exact jX9_tell_b74  g_3
set_option maxHeartbeats 4000000 in
set_option maxRecDepth 100000 in
theorem jX9_tell_b54 {ad : Nat → Nat} {ca : Nat → ClassId} {D : va_G} {FU d : Nat} {r : Int32} {N : Mem}   {x0 : Nat} {x1 : Int32} {x2 : Int32} {s0 : Int32} {M : Mem}   (h : fX9_tell_b54 FU  x0 x1 x2 s0 M = some (r, N)) : J ad ca D cX9_tell RX9 4 (d + 1) (Gt ad ca D (some .int) (QI r N)) 54 [(0, vR (some x0)), (1, vI x1), (2, vI x2)] [vI s0] M := by
  unfold fX9_tell_b54 at h
  refine J_istore_n (pc := 54) rfl (by decide) (lv' := [(0, vR (some x0)), (1, vI x1), (2, vI x2), (3, vI s0)]) rfl dX9_tell_54 ?_
  refine J_iload_n (pc := 55) (q := 1) rfl rfl dX9_tell_55 ?_
  refine J_ifne (pc := 56) (tgt := 64) (by decide) dX9_tell_56 (fun hc56 => ?_) (fun hc56 => ?_)
  · rw [if_pos hc56] at h
    exact jX9_tell_b64  h
  · rw [if_neg hc56] at h
    refine J_aload_n (pc := 59) (q := 0) rfl rfl dX9_tell_59 ?_
    refine J_iload_n (pc := 60) (q := 2) rfl rfl dX9_tell_60 ?_
    obtain ⟨M61, h61, g_4⟩ := bnd h
    refine J_putI (pc := 61) (i := 2) clF9 (by decide) rfl fl_RX9_13 rfl rfl h61 dX9_tell_61 ?_
    exact jX9_tell_b64  g_4
set_option maxHeartbeats 4000000 in
set_option maxRecDepth 100000 in
theorem jX9_tell_b30 {ad : Nat → Nat} {ca : Nat → ClassId} {D : va_G} {FU d : Nat} {r : Int32} {N : Mem}   {x0 : Nat} {x1 : Int32} {x2 : Int32} {s0 : Option Nat} {s1 : Int32} {s2 : Int32} {s3 : Int32} {M : Mem}   (h : fX9_tell_b30 FU  x0 x1 x2 s0 s1 s2 s3 M = some (r, N)) : J ad ca D cX9_tell RX9 4 (d + 1) (Gt ad ca D (some .int) (QI r N)) 30 [(0, vR (some x0)), (1, vI x1), (2, vI x2)] [vI s3, vI s2, vI s1, vR s0] M := by
  unfold fX9_tell_b30 at h
  obtain ⟨b30, hb30, g_5⟩ := bnd h
  obtain ⟨r30, M30, h30, g_6⟩ := bnd2 g_5
  refine J_callVI (pc := 30) (as := [vI s1, vI s2, vI s3]) (tX9_in (d := d)  h30) cf_X9_in cv_X9_in clF9 hb30 ml_RX9_155 (by omega) (Nat.le_of_ble_eq_true rfl) dX9_tell_30 ?_
  refine J_ifne (pc := 33) (tgt := 39) (by decide) dX9_tell_33 (fun hc33 => ?_) (fun hc33 => ?_)
  · rw [if_pos hc33] at g_6
    refine J_iload_n (pc := 39) (q := 1) rfl rfl dX9_tell_39 ?_
    refine J_ifne (pc := 40) (tgt := 50) (by decide) dX9_tell_40 (fun hc40 => ?_) (fun hc40 => ?_)
    · rw [if_pos hc40] at g_6
      refine J_aload_n (pc := 50) (q := 0) rfl rfl dX9_tell_50 ?_
      obtain ⟨a51, h51, g_7⟩ := bnd g_6
      refine J_getI (pc := 51) (i := 3) clF9 (by decide) rfl fl_RX9_16 h51 dX9_tell_51 ?_
      exact jX9_tell_b54  g_7
    · rw [if_neg hc40] at g_6
      refine J_aload_n (pc := 43) (q := 0) rfl rfl dX9_tell_43 ?_
      obtain ⟨a44, h44, g_8⟩ := bnd g_6
      refine J_getI (pc := 44) (i := 2) clF9 (by decide) rfl fl_RX9_13 h44 dX9_tell_44 ?_
      refine J_goto (pc := 47) (tgt := 54) (by decide) dX9_tell_47 ?_
      exact jX9_tell_b54  g_8
  · rw [if_neg hc33] at g_6
    refine J_bipush (pc := 36) (v := (-2 : Int32)) (by decide) dX9_tell_36 ?_
    exact J_iret (pc := 38) (qi_of g_6) dX9_tell_38
set_option maxHeartbeats 4000000 in
set_option maxRecDepth 100000 in
theorem jX9_tell_b21 {ad : Nat → Nat} {ca : Nat → ClassId} {D : va_G} {FU d : Nat} {r : Int32} {N : Mem}   {x0 : Nat} {x1 : Int32} {x2 : Int32} {s0 : Option Nat} {s1 : Int32} {s2 : Int32} {M : Mem}   (h : fX9_tell_b21 FU  x0 x1 x2 s0 s1 s2 M = some (r, N)) : J ad ca D cX9_tell RX9 4 (d + 1) (Gt ad ca D (some .int) (QI r N)) 21 [(0, vR (some x0)), (1, vI x1), (2, vI x2)] [vI s2, vI s1, vR s0] M := by
  unfold fX9_tell_b21 at h
  refine J_iload_n (pc := 21) (q := 1) rfl rfl dX9_tell_21 ?_
  refine J_ifne (pc := 22) (tgt := 29) (by decide) dX9_tell_22 (fun hc22 => ?_) (fun hc22 => ?_)
  · rw [if_pos hc22] at h
    refine J_iconst (pc := 29) (v := (3 : Int32)) (by decide) dX9_tell_29 ?_
    exact jX9_tell_b30  h
  · rw [if_neg hc22] at h
    refine J_iconst (pc := 25) (v := (2 : Int32)) (by decide) dX9_tell_25 ?_
    refine J_goto (pc := 26) (tgt := 30) (by decide) dX9_tell_26 ?_
    exact jX9_tell_b30  h
set_option maxHeartbeats 4000000 in
set_option maxRecDepth 100000 in
theorem tX9_tell {ad : Nat → Nat} {ca : Nat → ClassId} {D : va_G} {FU d : Nat} {r : Int32} {N : Mem}  {x0 : Nat} {x1 : Int32} {x2 : Int32} {M : Mem}  (h : fX9_tell FU  x0 x1 x2 M = some (r, N)) : Ct ad ca D yX9_tell cX9_tell 4 (some .int) (d + 1) [vR (some x0), vI x1, vI x2] M (QI r N) := by
  refine Ct_of (by decide) (Nat.le_of_ble_eq_true rfl) ?_
  show J ad ca D cX9_tell RX9 4 (d + 1) (Gt ad ca D (some .int) (QI r N)) 0 [(0, vR (some x0)), (1, vI x1), (2, vI x2)] [] M
  unfold fX9_tell at h
  refine J_aload_n (pc := 0) (q := 0) rfl rfl dX9_tell_0 ?_
  refine J_iload_n (pc := 1) (q := 1) rfl rfl dX9_tell_1 ?_
  refine J_iconst (pc := 2) (v := (0 : Int32)) (by decide) dX9_tell_2 ?_
  refine J_iconst (pc := 3) (v := (1 : Int32)) (by decide) dX9_tell_3 ?_
  obtain ⟨b4, hb4, g_9⟩ := bnd h
  obtain ⟨r4, M4, h4, g_10⟩ := bnd2 g_9
  refine J_callVI (pc := 4) (as := [vI x1, vI (0 : Int32), vI (1 : Int32)]) (tX9_in (d := d)  h4) cf_X9_in cv_X9_in clF9 hb4 ml_RX9_155 (by omega) (Nat.le_of_ble_eq_true rfl) dX9_tell_4 ?_
  refine J_ifeq (pc := 7) (tgt := 36) (by decide) dX9_tell_7 (fun hc7 => ?_) (fun hc7 => ?_)
  · rw [if_pos hc7] at g_10
    refine J_bipush (pc := 36) (v := (-2 : Int32)) (by decide) dX9_tell_36 ?_
    exact J_iret (pc := 38) (qi_of g_10) dX9_tell_38
  · rw [if_neg hc7] at g_10
    refine J_aload_n (pc := 10) (q := 0) rfl rfl dX9_tell_10 ?_
    refine J_iload_n (pc := 11) (q := 2) rfl rfl dX9_tell_11 ?_
    refine J_iload_n (pc := 12) (q := 1) rfl rfl dX9_tell_12 ?_
    refine J_ifne (pc := 13) (tgt := 20) (by decide) dX9_tell_13 (fun hc13 => ?_) (fun hc13 => ?_)
    · rw [if_pos hc13] at g_10
      refine J_iconst (pc := 20) (v := (0 : Int32)) (by decide) dX9_tell_20 ?_
      exact jX9_tell_b21  g_10
    · rw [if_neg hc13] at g_10
      refine J_iconst (pc := 16) (v := (1 : Int32)) (by decide) dX9_tell_16 ?_
      refine J_goto (pc := 17) (tgt := 21) (by decide) dX9_tell_17 ?_
      exact jX9_tell_b21  g_10
set_option maxHeartbeats 4000000 in
set_option maxRecDepth 100000 in
theorem tX9_standing {ad : Nat → Nat} {ca : Nat → ClassId} {D : va_G} {FU d : Nat} {r : Int32} {N : Mem}  {x0 : Nat} {x1 : Int32} {x2 : Int32} {x3 : Int32} {x4 : Int32} {x5 : Int32} {M : Mem}  (h : fX9_standing FU  x0 x1 x2 x3 x4 x5 M = some (r, N)) : Ct ad ca D yX9_standing cX9_standing 6 (some .int) (d + 0) [vR (some x0), vI x1, vI x2, vI x3, vI x4, vI x5] M (QI r N) := by
  refine Ct_of (by decide) (Nat.le_of_ble_eq_true rfl) ?_
  show J ad ca D cX9_standing RX9 6 (d + 0) (Gt ad ca D (some .int) (QI r N)) 0 [(0, vR (some x0)), (1, vI x1), (2, vI x2), (3, vI x3), (4, vI x4), (5, vI x5)] [] M
  unfold fX9_standing at h
  refine J_iload_n (pc := 0) (q := 1) rfl rfl dX9_standing_0 ?_
  refine J_bipush (pc := 1) (v := (8 : Int32)) (by decide) dX9_standing_1 ?_
  refine J_imul (pc := 3) dX9_standing_3 ?_
  refine J_iload_n (pc := 4) (q := 2) rfl rfl dX9_standing_4 ?_
  refine J_iadd (pc := 5) dX9_standing_5 ?_
  refine J_bipush (pc := 6) (v := (8 : Int32)) (by decide) dX9_standing_6 ?_
  refine J_imul (pc := 8) dX9_standing_8 ?_
  refine J_iload_n (pc := 9) (q := 3) rfl rfl dX9_standing_9 ?_
  refine J_iadd (pc := 10) dX9_standing_10 ?_
  refine J_iconst (pc := 11) (v := (2 : Int32)) (by decide) dX9_standing_11 ?_
  refine J_imul (pc := 12) dX9_standing_12 ?_
  refine J_iload (pc := 13) (q := 4) rfl dX9_standing_13 ?_
  refine J_iadd (pc := 15) dX9_standing_15 ?_
  refine J_bipush (pc := 16) (v := (9 : Int32)) (by decide) dX9_standing_16 ?_
  refine J_imul (pc := 18) dX9_standing_18 ?_
  refine J_iload (pc := 19) (q := 5) rfl dX9_standing_19 ?_
  refine J_iadd (pc := 21) dX9_standing_21 ?_
  exact J_iret (pc := 22) (qi_of h) dX9_standing_22
set_option maxHeartbeats 4000000 in
set_option maxRecDepth 100000 in
theorem tX9_firstOf {ad : Nat → Nat} {ca : Nat → ClassId} {D : va_G} {FU d : Nat} {r : Int32} {N : Mem}  {x0 : Nat} {x1 : Int32} {M : Mem}  (h : fX9_firstOf FU  x0 x1 M = some (r, N)) : Ct ad ca D yX9_firstOf cX9_firstOf 2 (some .int) (d + 0) [vR (some x0), vI x1] M (QI r N) := by
  refine Ct_of (by decide) (Nat.le_of_ble_eq_true rfl) ?_
  show J ad ca D cX9_firstOf RX9 2 (d + 0) (Gt ad ca D (some .int) (QI r N)) 0 [(0, vR (some x0)), (1, vI x1)] [] M
  unfold fX9_firstOf at h
  refine J_iload_n (pc := 0) (q := 1) rfl rfl dX9_firstOf_0 ?_
  refine J_sipush (pc := 1) (v := (1152 : Int32)) (by decide) dX9_firstOf_1 ?_
  refine J_idiv (pc := 4) (by decide) dX9_firstOf_4 ?_
  exact J_iret (pc := 5) (qi_of h) dX9_firstOf_5
set_option maxHeartbeats 4000000 in
set_option maxRecDepth 100000 in
theorem tX9_secondOf {ad : Nat → Nat} {ca : Nat → ClassId} {D : va_G} {FU d : Nat} {r : Int32} {N : Mem}  {x0 : Nat} {x1 : Int32} {M : Mem}  (h : fX9_secondOf FU  x0 x1 M = some (r, N)) : Ct ad ca D yX9_secondOf cX9_secondOf 2 (some .int) (d + 0) [vR (some x0), vI x1] M (QI r N) := by
  refine Ct_of (by decide) (Nat.le_of_ble_eq_true rfl) ?_
  show J ad ca D cX9_secondOf RX9 2 (d + 0) (Gt ad ca D (some .int) (QI r N)) 0 [(0, vR (some x0)), (1, vI x1)] [] M
  unfold fX9_secondOf at h
  refine J_iload_n (pc := 0) (q := 1) rfl rfl dX9_secondOf_0 ?_
  refine J_sipush (pc := 1) (v := (144 : Int32)) (by decide) dX9_secondOf_1 ?_
  refine J_idiv (pc := 4) (by decide) dX9_secondOf_4 ?_
  refine J_bipush (pc := 5) (v := (8 : Int32)) (by decide) dX9_secondOf_5 ?_
  refine J_irem (pc := 7) (by decide) dX9_secondOf_7 ?_
  exact J_iret (pc := 8) (qi_of h) dX9_secondOf_8
set_option maxHeartbeats 4000000 in
set_option maxRecDepth 100000 in
theorem tX9_runnerOf {ad : Nat → Nat} {ca : Nat → ClassId} {D : va_G} {FU d : Nat} {r : Int32} {N : Mem}  {x0 : Nat} {x1 : Int32} {M : Mem}  (h : fX9_runnerOf FU  x0 x1 M = some (r, N)) : Ct ad ca D yX9_runnerOf cX9_runnerOf 2 (some .int) (d + 0) [vR (some x0), vI x1] M (QI r N) := by
  refine Ct_of (by decide) (Nat.le_of_ble_eq_true rfl) ?_
  show J ad ca D cX9_runnerOf RX9 2 (d + 0) (Gt ad ca D (some .int) (QI r N)) 0 [(0, vR (some x0)), (1, vI x1)] [] M
  unfold fX9_runnerOf at h
  refine J_iload_n (pc := 0) (q := 1) rfl rfl dX9_runnerOf_0 ?_
  refine J_bipush (pc := 1) (v := (18 : Int32)) (by decide) dX9_runnerOf_1 ?_
  refine J_idiv (pc := 3) (by decide) dX9_runnerOf_3 ?_
  refine J_bipush (pc := 4) (v := (8 : Int32)) (by decide) dX9_runnerOf_4 ?_
  refine J_irem (pc := 6) (by decide) dX9_runnerOf_6 ?_
  exact J_iret (pc := 7) (qi_of h) dX9_runnerOf_7
set_option maxHeartbeats 4000000 in
set_option maxRecDepth 100000 in
theorem tX9_turnOf {ad : Nat → Nat} {ca : Nat → ClassId} {D : va_G} {FU d : Nat} {r : Int32} {N : Mem}  {x0 : Nat} {x1 : Int32} {M : Mem}  (h : fX9_turnOf FU  x0 x1 M = some (r, N)) : Ct ad ca D yX9_turnOf cX9_turnOf 2 (some .int) (d + 0) [vR (some x0), vI x1] M (QI r N) := by
  refine Ct_of (by decide) (Nat.le_of_ble_eq_true rfl) ?_
  show J ad ca D cX9_turnOf RX9 2 (d + 0) (Gt ad ca D (some .int) (QI r N)) 0 [(0, vR (some x0)), (1, vI x1)] [] M
  unfold fX9_turnOf at h
  refine J_iload_n (pc := 0) (q := 1) rfl rfl dX9_turnOf_0 ?_
  refine J_bipush (pc := 1) (v := (9 : Int32)) (by decide) dX9_turnOf_1 ?_
  refine J_idiv (pc := 3) (by decide) dX9_turnOf_3 ?_
  refine J_iconst (pc := 4) (v := (2 : Int32)) (by decide) dX9_turnOf_4 ?_
  refine J_irem (pc := 5) (by decide) dX9_turnOf_5 ?_
  exact J_iret (pc := 6) (qi_of h) dX9_turnOf_6
set_option maxHeartbeats 4000000 in
set_option maxRecDepth 100000 in
theorem tX9_shutOf {ad : Nat → Nat} {ca : Nat → ClassId} {D : va_G} {FU d : Nat} {r : Int32} {N : Mem}  {x0 : Nat} {x1 : Int32} {M : Mem}  (h : fX9_shutOf FU  x0 x1 M = some (r, N)) : Ct ad ca D yX9_shutOf cX9_shutOf 2 (some .int) (d + 0) [vR (some x0), vI x1] M (QI r N) := by
  refine Ct_of (by decide) (Nat.le_of_ble_eq_true rfl) ?_
  show J ad ca D cX9_shutOf RX9 2 (d + 0) (Gt ad ca D (some .int) (QI r N)) 0 [(0, vR (some x0)), (1, vI x1)] [] M
  unfold fX9_shutOf at h
  refine J_iload_n (pc := 0) (q := 1) rfl rfl dX9_shutOf_0 ?_
  refine J_bipush (pc := 1) (v := (9 : Int32)) (by decide) dX9_shutOf_1 ?_
  refine J_irem (pc := 3) (by decide) dX9_shutOf_3 ?_
  exact J_iret (pc := 4) (qi_of h) dX9_shutOf_4
set_option maxHeartbeats 4000000 in
set_option maxRecDepth 100000 in
theorem tX9_leads {ad : Nat → Nat} {ca : Nat → ClassId} {D : va_G} {FU d : Nat} {r : Int32} {N : Mem}  {x0 : Nat} {x1 : Int32} {x2 : Int32} {M : Mem}  (h : fX9_leads FU  x0 x1 x2 M = some (r, N)) : Ct ad ca D yX9_leads cX9_leads 3 (some .int) (d + 0) [vR (some x0), vI x1, vI x2] M (QI r N) := by
  refine Ct_of (by decide) (Nat.le_of_ble_eq_true rfl) ?_
  show J ad ca D cX9_leads RX9 3 (d + 0) (Gt ad ca D (some .int) (QI r N)) 0 [(0, vR (some x0)), (1, vI x1), (2, vI x2)] [] M
  unfold fX9_leads at h
  refine J_aload_n (pc := 0) (q := 0) rfl rfl dX9_leads_0 ?_
  obtain ⟨a1, h1, g_1⟩ := bnd h
  refine J_getR (pc := 1) (i := 5) clF9 (by decide) rfl fl_RX9_23 h1 dX9_leads_1 ?_
  refine J_iload_n (pc := 4) (q := 1) rfl rfl dX9_leads_4 ?_
  obtain ⟨a5, h5, g_2⟩ := bnd g_1
  refine J_ald0 (pc := 5) h5 dX9_leads_5 ?_
  refine J_iload_n (pc := 6) (q := 2) rfl rfl dX9_leads_6 ?_
  refine J_icne (pc := 7) (tgt := 19) (by decide) dX9_leads_7 (fun hc7 => ?_) (fun hc7 => ?_)
  · rw [if_pos hc7] at g_2
    refine J_aload_n (pc := 19) (q := 0) rfl rfl dX9_leads_19 ?_
    obtain ⟨a20, h20, g_3⟩ := bnd g_2
    refine J_getR (pc := 20) (i := 6) clF9 (by decide) rfl fl_RX9_26 h20 dX9_leads_20 ?_
    refine J_iload_n (pc := 23) (q := 1) rfl rfl dX9_leads_23 ?_
    obtain ⟨a24, h24, g_4⟩ := bnd g_3
    refine J_ald0 (pc := 24) h24 dX9_leads_24 ?_
    refine J_iload_n (pc := 25) (q := 2) rfl rfl dX9_leads_25 ?_
    refine J_icne (pc := 26) (tgt := 48) (by decide) dX9_leads_26 (fun hc26 => ?_) (fun hc26 => ?_)
    · rw [if_pos hc26] at g_4
      refine J_iconst (pc := 48) (v := (-1 : Int32)) (by decide) dX9_leads_48 ?_
      exact J_iret (pc := 49) (qi_of g_4) dX9_leads_49
    · rw [if_neg hc26] at g_4
      refine J_aload_n (pc := 29) (q := 0) rfl rfl dX9_leads_29 ?_
      obtain ⟨a30, h30, g_5⟩ := bnd g_4
      refine J_getR (pc := 30) (i := 4) clF9 (by decide) rfl fl_RX9_19 h30 dX9_leads_30 ?_
      refine J_iload_n (pc := 33) (q := 1) rfl rfl dX9_leads_33 ?_
      obtain ⟨a34, h34, g_6⟩ := bnd g_5
      refine J_ald0 (pc := 34) h34 dX9_leads_34 ?_
      refine J_iconst (pc := 35) (v := (5 : Int32)) (by decide) dX9_leads_35 ?_
      refine J_iceq (pc := 36) (tgt := 48) (by decide) dX9_leads_36 (fun hc36 => ?_) (fun hc36 => ?_)
      · rw [if_pos hc36] at g_6
        refine J_iconst (pc := 48) (v := (-1 : Int32)) (by decide) dX9_leads_48 ?_
        exact J_iret (pc := 49) (qi_of g_6) dX9_leads_49
      · rw [if_neg hc36] at g_6
        refine J_aload_n (pc := 39) (q := 0) rfl rfl dX9_leads_39 ?_
        obtain ⟨a40, h40, g_7⟩ := bnd g_6
        refine J_getR (pc := 40) (i := 5) clF9 (by decide) rfl fl_RX9_23 h40 dX9_leads_40 ?_
        refine J_iload_n (pc := 43) (q := 1) rfl rfl dX9_leads_43 ?_
        obtain ⟨a44, h44, g_8⟩ := bnd g_7
        refine J_ald0 (pc := 44) h44 dX9_leads_44 ?_
        refine J_goto (pc := 45) (tgt := 49) (by decide) dX9_leads_45 ?_
        exact J_iret (pc := 49) (qi_of g_8) dX9_leads_49
  · rw [if_neg hc7] at g_2
    refine J_aload_n (pc := 10) (q := 0) rfl rfl dX9_leads_10 ?_
    obtain ⟨a11, h11, g_9⟩ := bnd g_2
    refine J_getR (pc := 11) (i := 6) clF9 (by decide) rfl fl_RX9_26 h11 dX9_leads_11 ?_
    refine J_iload_n (pc := 14) (q := 1) rfl rfl dX9_leads_14 ?_
    obtain ⟨a15, h15, g_10⟩ := bnd g_9
    refine J_ald0 (pc := 15) h15 dX9_leads_15 ?_
    refine J_goto (pc := 16) (tgt := 49) (by decide) dX9_leads_16 ?_
    exact J_iret (pc := 49) (qi_of g_10) dX9_leads_49
set_option maxHeartbeats 4000000 in
set_option maxRecDepth 100000 in
theorem jX9_isBeside_b67 {ad : Nat → Nat} {ca : Nat → ClassId} {D : va_G} {FU d : Nat} {r : Int32} {N : Mem}  {k5 : Int32 → Int32 → Mem → Option (Int32 × Mem)} {x0 : Nat} {x1 : Int32} {x2 : Int32} {x4 : Int32} {s0 : Int32} {M : Mem}  (hk5 : ∀ (y3 : Int32) (y4 : Int32) (M : Mem), k5 y3 y4 M = some (r, N) → J ad ca D cX9_isBeside RX9 5 (d + 0) (Gt ad ca D (some .boolean) (QI r N)) 5 [(0, vR (some x0)), (1, vI x1), (2, vI x2), (3, vI y3), (4, vI y4)] [] M) (h : fX9_isBeside_b67 FU  k5 x0 x1 x2 x4 s0 M = some (r, N)) : J ad ca D cX9_isBeside RX9 5 (d + 0) (Gt ad ca D (some .boolean) (QI r N)) 67 [(0, vR (some x0)), (1, vI x1), (2, vI x2), (4, vI x4)] [vI s0] M := by
  unfold fX9_isBeside_b67 at h
  refine J_istore_n (pc := 67) rfl (by decide) (lv' := [(0, vR (some x0)), (1, vI x1), (2, vI x2), (4, vI x4), (3, vI s0)]) rfl dX9_isBeside_67 ?_
  refine J_iinc (pc := 68) (q := 3) rfl (v := x4 + (1 : Int32)) rfl (by decide) (lv' := [(0, vR (some x0)), (1, vI x1), (2, vI x2), (3, vI s0), (4, vI (x4 + (1 : Int32)))]) rfl dX9_isBeside_68 ?_
  refine J_goto (pc := 71) (tgt := 5) (by decide) dX9_isBeside_71 ?_
  exact hk5 _ _ _ h
set_option maxHeartbeats 4000000 in
set_option maxRecDepth 100000 in
theorem jX9_isBeside_b62 {ad : Nat → Nat} {ca : Nat → ClassId} {D : va_G} {FU d : Nat} {r : Int32} {N : Mem}  {k5 : Int32 → Int32 → Mem → Option (Int32 × Mem)} {x0 : Nat} {x1 : Int32} {x2 : Int32} {x4 : Int32} {M : Mem}  (hk5 : ∀ (y3 : Int32) (y4 : Int32) (M : Mem), k5 y3 y4 M = some (r, N) → J ad ca D cX9_isBeside RX9 5 (d + 0) (Gt ad ca D (some .boolean) (QI r N)) 5 [(0, vR (some x0)), (1, vI x1), (2, vI x2), (3, vI y3), (4, vI y4)] [] M) (h : fX9_isBeside_b62 FU  k5 x0 x1 x2 x4 M = some (r, N)) : J ad ca D cX9_isBeside RX9 5 (d + 0) (Gt ad ca D (some .boolean) (QI r N)) 62 [(0, vR (some x0)), (1, vI x1), (2, vI x2), (4, vI x4)] [] M := by
  unfold fX9_isBeside_b62 at h
  refine J_iconst (pc := 62) (v := (1 : Int32)) (by decide) dX9_isBeside_62 ?_
  refine J_goto (pc := 63) (tgt := 67) (by decide) dX9_isBeside_63 ?_
  exact jX9_isBeside_b67 hk5 h
set_option maxHeartbeats 4000000 in
set_option maxRecDepth 100000 in
theorem jX9_isBeside_b66 {ad : Nat → Nat} {ca : Nat → ClassId} {D : va_G} {FU d : Nat} {r : Int32} {N : Mem}  {k5 : Int32 → Int32 → Mem → Option (Int32 × Mem)} {x0 : Nat} {x1 : Int32} {x2 : Int32} {x4 : Int32} {M : Mem}  (hk5 : ∀ (y3 : Int32) (y4 : Int32) (M : Mem), k5 y3 y4 M = some (r, N) → J ad ca D cX9_isBeside RX9 5 (d + 0) (Gt ad ca D (some .boolean) (QI r N)) 5 [(0, vR (some x0)), (1, vI x1), (2, vI x2), (3, vI y3), (4, vI y4)] [] M) (h : fX9_isBeside_b66 FU  k5 x0 x1 x2 x4 M = some (r, N)) : J ad ca D cX9_isBeside RX9 5 (d + 0) (Gt ad ca D (some .boolean) (QI r N)) 66 [(0, vR (some x0)), (1, vI x1), (2, vI x2), (4, vI x4)] [] M := by
  unfold fX9_isBeside_b66 at h
  refine J_iconst (pc := 66) (v := (0 : Int32)) (by decide) dX9_isBeside_66 ?_
  exact jX9_isBeside_b67 hk5 h
set_option maxHeartbeats 4000000 in
set_option maxRecDepth 100000 in
theorem jX9_isBeside_b40 {ad : Nat → Nat} {ca : Nat → ClassId} {D : va_G} {FU d : Nat} {r : Int32} {N : Mem}  {k5 : Int32 → Int32 → Mem → Option (Int32 × Mem)} {x0 : Nat} {x1 : Int32} {x2 : Int32} {x4 : Int32} {M : Mem}  (hk5 : ∀ (y3 : Int32) (y4 : Int32) (M : Mem), k5 y3 y4 M = some (r, N) → J ad ca D cX9_isBeside RX9 5 (d + 0) (Gt ad ca D (some .boolean) (QI r N)) 5 [(0, vR (some x0)), (1, vI x1), (2, vI x2), (3, vI y3), (4, vI y4)] [] M) (h : fX9_isBeside_b40 FU  k5 x0 x1 x2 x4 M = some (r, N)) : J ad ca D cX9_isBeside RX9 5 (d + 0) (Gt ad ca D (some .boolean) (QI r N)) 40 [(0, vR (some x0)), (1, vI x1), (2, vI x2), (4, vI x4)] [] M := by
  unfold fX9_isBeside_b40 at h
  refine J_aload_n (pc := 40) (q := 0) rfl rfl dX9_isBeside_40 ?_
  obtain ⟨a41, h41, g_1⟩ := bnd h
  refine J_getR (pc := 41) (i := 5) clF9 (by decide) rfl fl_RX9_23 h41 dX9_isBeside_41 ?_
  refine J_iload (pc := 44) (q := 3) rfl dX9_isBeside_44 ?_
  obtain ⟨a46, h46, g_2⟩ := bnd g_1
  refine J_ald0 (pc := 46) h46 dX9_isBeside_46 ?_
  refine J_iload_n (pc := 47) (q := 2) rfl rfl dX9_isBeside_47 ?_
  refine J_icne (pc := 48) (tgt := 66) (by decide) dX9_isBeside_48 (fun hc48 => ?_) (fun hc48 => ?_)
  · rw [if_pos hc48] at g_2
    exact jX9_isBeside_b66 hk5 g_2
  · rw [if_neg hc48] at g_2
    refine J_aload_n (pc := 51) (q := 0) rfl rfl dX9_isBeside_51 ?_
    obtain ⟨a52, h52, g_3⟩ := bnd g_2
    refine J_getR (pc := 52) (i := 6) clF9 (by decide) rfl fl_RX9_26 h52 dX9_isBeside_52 ?_
    refine J_iload (pc := 55) (q := 3) rfl dX9_isBeside_55 ?_
    obtain ⟨a57, h57, g_4⟩ := bnd g_3
    refine J_ald0 (pc := 57) h57 dX9_isBeside_57 ?_
    refine J_iload_n (pc := 58) (q := 1) rfl rfl dX9_isBeside_58 ?_
    refine J_icne (pc := 59) (tgt := 66) (by decide) dX9_isBeside_59 (fun hc59 => ?_) (fun hc59 => ?_)
    · rw [if_pos hc59] at g_4
      exact jX9_isBeside_b66 hk5 g_4
    · rw [if_neg hc59] at g_4
      exact jX9_isBeside_b62 hk5 g_4
set_option maxHeartbeats 4000000 in
set_option maxRecDepth 100000 in
theorem jX9_isBeside_L5 {ad : Nat → Nat} {ca : Nat → ClassId} {D : va_G} {FU d : Nat} {r : Int32} {N : Mem}   {x0 : Nat} {x1 : Int32} {x2 : Int32}   : ∀ (F : Nat) (x3 : Int32) (x4 : Int32) (M : Mem), fX9_isBeside_L5 FU  x0 x1 x2 F x3 x4 M = some (r, N) → J ad ca D cX9_isBeside RX9 5 (d + 0) (Gt ad ca D (some .boolean) (QI r N)) 5 [(0, vR (some x0)), (1, vI x1), (2, vI x2), (3, vI x3), (4, vI x4)] [] M := by
  intro F
  induction F with
  | zero =>
    intro x3 x4 M h
    rw [fX9_isBeside_L5] at h
    cases h
  | succ F hk5 =>
    intro x3 x4 M h
    rw [fX9_isBeside_L5] at h
    refine J_iload (pc := 5) (q := 4) rfl dX9_isBeside_5 ?_
    refine J_aload_n (pc := 7) (q := 0) rfl rfl dX9_isBeside_7 ?_
    obtain ⟨a8, h8, g_5⟩ := bnd h
    refine J_getI (pc := 8) (i := 1) clF9 (by decide) rfl fl_RX9_7 h8 dX9_isBeside_8 ?_
    refine J_icge (pc := 11) (tgt := 74) (by decide) dX9_isBeside_11 (fun hc11 => ?_) (fun hc11 => ?_)
    · rw [if_pos hc11] at g_5
      refine J_iload_n (pc := 74) (q := 3) rfl rfl dX9_isBeside_74 ?_
      obtain ⟨hz75, g_6⟩ := grd g_5
      exact J_zret (pc := 75) hz75 (qi_of g_6) dX9_isBeside_75
    · rw [if_neg hc11] at g_5
      refine J_iload_n (pc := 14) (q := 3) rfl rfl dX9_isBeside_14 ?_
      refine J_ifne (pc := 15) (tgt := 62) (by decide) dX9_isBeside_15 (fun hc15 => ?_) (fun hc15 => ?_)
      · rw [if_pos hc15] at g_5
        refine J_sub [0, 1, 2, 4] (lv' := [(0, vR (some x0)), (1, vI x1), (2, vI x2), (4, vI x4)]) rfl ?_
        exact jX9_isBeside_b62 hk5 g_5
      · rw [if_neg hc15] at g_5
        refine J_aload_n (pc := 18) (q := 0) rfl rfl dX9_isBeside_18 ?_
        obtain ⟨a19, h19, g_7⟩ := bnd g_5
        refine J_getR (pc := 19) (i := 5) clF9 (by decide) rfl fl_RX9_23 h19 dX9_isBeside_19 ?_
        refine J_iload (pc := 22) (q := 4) rfl dX9_isBeside_22 ?_
        obtain ⟨a24, h24, g_8⟩ := bnd g_7
        refine J_ald0 (pc := 24) h24 dX9_isBeside_24 ?_
        refine J_iload_n (pc := 25) (q := 1) rfl rfl dX9_isBeside_25 ?_
        refine J_icne (pc := 26) (tgt := 40) (by decide) dX9_isBeside_26 (fun hc26 => ?_) (fun hc26 => ?_)
        · rw [if_pos hc26] at g_8
          refine J_sub [0, 1, 2, 4] (lv' := [(0, vR (some x0)), (1, vI x1), (2, vI x2), (4, vI x4)]) rfl ?_
          exact jX9_isBeside_b40 hk5 g_8
        · rw [if_neg hc26] at g_8
          refine J_aload_n (pc := 29) (q := 0) rfl rfl dX9_isBeside_29 ?_
          obtain ⟨a30, h30, g_9⟩ := bnd g_8
          refine J_getR (pc := 30) (i := 6) clF9 (by decide) rfl fl_RX9_26 h30 dX9_isBeside_30 ?_
          refine J_iload (pc := 33) (q := 4) rfl dX9_isBeside_33 ?_
          obtain ⟨a35, h35, g_10⟩ := bnd g_9
          refine J_ald0 (pc := 35) h35 dX9_isBeside_35 ?_
          refine J_iload_n (pc := 36) (q := 2) rfl rfl dX9_isBeside_36 ?_
          refine J_iceq (pc := 37) (tgt := 62) (by decide) dX9_isBeside_37 (fun hc37 => ?_) (fun hc37 => ?_)
          · rw [if_pos hc37] at g_10
            refine J_sub [0, 1, 2, 4] (lv' := [(0, vR (some x0)), (1, vI x1), (2, vI x2), (4, vI x4)]) rfl ?_
            exact jX9_isBeside_b62 hk5 g_10
          · rw [if_neg hc37] at g_10
            refine J_sub [0, 1, 2, 4] (lv' := [(0, vR (some x0)), (1, vI x1), (2, vI x2), (4, vI x4)]) rfl ?_
            exact jX9_isBeside_b40 hk5 g_10
set_option maxHeartbeats 4000000 in
set_option maxRecDepth 100000 in
theorem tX9_isBeside {ad : Nat → Nat} {ca : Nat → ClassId} {D : va_G} {FU d : Nat} {r : Int32} {N : Mem}  {x0 : Nat} {x1 : Int32} {x2 : Int32} {M : Mem}  (h : fX9_isBeside FU  x0 x1 x2 M = some (r, N)) : Ct ad ca D yX9_isBeside cX9_isBeside 5 (some .boolean) (d + 0) [vR (some x0), vI x1, vI x2] M (QI r N) := by
  refine Ct_of (by decide) (Nat.le_of_ble_eq_true rfl) ?_
  show J ad ca D cX9_isBeside RX9 5 (d + 0) (Gt ad ca D (some .boolean) (QI r N)) 0 [(0, vR (some x0)), (1, vI x1), (2, vI x2)] [] M
  unfold fX9_isBeside at h
  refine J_iconst (pc := 0) (v := (0 : Int32)) (by decide) dX9_isBeside_0 ?_
  refine J_istore_n (pc := 1) rfl (by decide) (lv' := [(0, vR (some x0)), (1, vI x1), (2, vI x2), (3, vI (0 : Int32))]) rfl dX9_isBeside_1 ?_
  refine J_iconst (pc := 2) (v := (0 : Int32)) (by decide) dX9_isBeside_2 ?_
  refine J_istore (pc := 3) (by decide) (lv' := [(0, vR (some x0)), (1, vI x1), (2, vI x2), (3, vI (0 : Int32)), (4, vI (0 : Int32))]) rfl dX9_isBeside_3 ?_
  exact jX9_isBeside_L5  FU _ _ _ h
set_option maxHeartbeats 4000000 in
set_option maxRecDepth 100000 in
theorem jX9_isOpen_b26 {ad : Nat → Nat} {ca : Nat → ClassId} {D : va_G} {FU d : Nat} {r : Int32} {N : Mem}    {M : Mem}   (h : fX9_isOpen_b26 FU  M = some (r, N)) : J ad ca D cX9_isOpen RX9 4 (d + 2) (Gt ad ca D (some .boolean) (QI r N)) 26 [] [] M := by
  unfold fX9_isOpen_b26 at h
  refine J_iconst (pc := 26) (v := (1 : Int32)) (by decide) dX9_isOpen_26 ?_
  refine J_goto (pc := 27) (tgt := 31) (by decide) dX9_isOpen_27 ?_
  exact J_zret (pc := 31) (Or.inr rfl) (qi_of h) dX9_isOpen_31
set_option maxHeartbeats 4000000 in
set_option maxRecDepth 100000 in
theorem jX9_isOpen_b23 {ad : Nat → Nat} {ca : Nat → ClassId} {D : va_G} {FU d : Nat} {r : Int32} {N : Mem}   {s0 : Int32} {M : Mem}   (h : fX9_isOpen_b23 FU  s0 M = some (r, N)) : J ad ca D cX9_isOpen RX9 4 (d + 2) (Gt ad ca D (some .boolean) (QI r N)) 23 [] [vI s0] M := by
  unfold fX9_isOpen_b23 at h
  refine J_ifne (pc := 23) (tgt := 30) (by decide) dX9_isOpen_23 (fun hc23 => ?_) (fun hc23 => ?_)
  · rw [if_pos hc23] at h
    refine J_iconst (pc := 30) (v := (0 : Int32)) (by decide) dX9_isOpen_30 ?_
    exact J_zret (pc := 31) (Or.inl rfl) (qi_of h) dX9_isOpen_31
  · rw [if_neg hc23] at h
    exact jX9_isOpen_b26  h
set_option maxHeartbeats 4000000 in
set_option maxRecDepth 100000 in
theorem tX9_isOpen {ad : Nat → Nat} {ca : Nat → ClassId} {D : va_G} {FU d : Nat} {r : Int32} {N : Mem}  {x0 : Nat} {x1 : Int32} {x2 : Int32} {M : Mem}  (h : fX9_isOpen FU  x0 x1 x2 M = some (r, N)) : Ct ad ca D yX9_isOpen cX9_isOpen 4 (some .boolean) (d + 2) [vR (some x0), vI x1, vI x2] M (QI r N) := by
  refine Ct_of (by decide) (Nat.le_of_ble_eq_true rfl) ?_
  show J ad ca D cX9_isOpen RX9 4 (d + 2) (Gt ad ca D (some .boolean) (QI r N)) 0 [(0, vR (some x0)), (1, vI x1), (2, vI x2)] [] M
  unfold fX9_isOpen at h
  refine J_aload_n (pc := 0) (q := 0) rfl rfl dX9_isOpen_0 ?_
  refine J_iload_n (pc := 1) (q := 1) rfl rfl dX9_isOpen_1 ?_
  obtain ⟨b2, hb2, g_1⟩ := bnd h
  obtain ⟨r2, M2, h2, g_2⟩ := bnd2 g_1
  refine J_callVI (pc := 2) (as := [vI x1]) (tX9_shutterOf (d := d)  h2) cf_X9_shutterOf cv_X9_shutterOf clF9 hb2 ml_RX9_173 (by omega) (Nat.le_of_ble_eq_true rfl) dX9_isOpen_2 ?_
  refine J_istore_n (pc := 5) rfl (by decide) (lv' := [(0, vR (some x0)), (1, vI x1), (2, vI x2), (3, vI r2)]) rfl dX9_isOpen_5 ?_
  refine J_iload_n (pc := 6) (q := 3) rfl rfl dX9_isOpen_6 ?_
  refine J_iflt (pc := 7) (tgt := 26) (by decide) dX9_isOpen_7 (fun hc7 => ?_) (fun hc7 => ?_)
  · rw [if_pos hc7] at g_2
    refine J_sub [] (lv' := []) rfl ?_
    exact jX9_isOpen_b26  g_2
  · rw [if_neg hc7] at g_2
    refine J_iload_n (pc := 10) (q := 3) rfl rfl dX9_isOpen_10 ?_
    refine J_ifne (pc := 11) (tgt := 20) (by decide) dX9_isOpen_11 (fun hc11 => ?_) (fun hc11 => ?_)
    · rw [if_pos hc11] at g_2
      refine J_iload_n (pc := 20) (q := 2) rfl rfl dX9_isOpen_20 ?_
      refine J_iconst (pc := 21) (v := (3 : Int32)) (by decide) dX9_isOpen_21 ?_
      refine J_idiv (pc := 22) (by decide) dX9_isOpen_22 ?_
      refine J_sub [] (lv' := []) rfl ?_
      exact jX9_isOpen_b23  g_2
    · rw [if_neg hc11] at g_2
      refine J_iload_n (pc := 14) (q := 2) rfl rfl dX9_isOpen_14 ?_
      refine J_iconst (pc := 15) (v := (3 : Int32)) (by decide) dX9_isOpen_15 ?_
      refine J_irem (pc := 16) (by decide) dX9_isOpen_16 ?_
      refine J_goto (pc := 17) (tgt := 23) (by decide) dX9_isOpen_17 ?_
      refine J_sub [] (lv' := []) rfl ?_
      exact jX9_isOpen_b23  g_2
set_option maxHeartbeats 4000000 in
set_option maxRecDepth 100000 in
theorem jX9_shutBehind_b82 {ad : Nat → Nat} {ca : Nat → ClassId} {D : va_G} {FU d : Nat} {r : Int32} {N : Mem}   {x3 : Int32} {x4 : Int32} {M : Mem}   (h : fX9_shutBehind_b82 FU  x3 x4 M = some (r, N)) : J ad ca D cX9_shutBehind RX9 6 (d + 2) (Gt ad ca D (some .int) (QI r N)) 82 [(3, vI x3), (4, vI x4)] [] M := by
  unfold fX9_shutBehind_b82 at h
  refine J_iconst (pc := 82) (v := (3 : Int32)) (by decide) dX9_shutBehind_82 ?_
  refine J_iload (pc := 83) (q := 1) rfl dX9_shutBehind_83 ?_
  refine J_imul (pc := 85) dX9_shutBehind_85 ?_
  refine J_iload_n (pc := 86) (q := 0) rfl rfl dX9_shutBehind_86 ?_
  refine J_iadd (pc := 87) dX9_shutBehind_87 ?_
  exact J_iret (pc := 88) (qi_of h) dX9_shutBehind_88
set_option maxHeartbeats 4000000 in
set_option maxRecDepth 100000 in
theorem jX9_shutBehind_b64 {ad : Nat → Nat} {ca : Nat → ClassId} {D : va_G} {FU d : Nat} {r : Int32} {N : Mem}   {x0 : Nat} {x2 : Int32} {x3 : Int32} {x4 : Int32} {x5 : Int32} {M : Mem}   (h : fX9_shutBehind_b64 FU  x0 x2 x3 x4 x5 M = some (r, N)) : J ad ca D cX9_shutBehind RX9 6 (d + 2) (Gt ad ca D (some .int) (QI r N)) 64 [(0, vR (some x0)), (2, vI x2), (3, vI x3), (4, vI x4), (5, vI x5)] [] M := by
  unfold fX9_shutBehind_b64 at h
  refine J_iload (pc := 64) (q := 4) rfl dX9_shutBehind_64 ?_
  refine J_iconst (pc := 66) (v := (1 : Int32)) (by decide) dX9_shutBehind_66 ?_
  refine J_icne (pc := 67) (tgt := 82) (by decide) dX9_shutBehind_67 (fun hc67 => ?_) (fun hc67 => ?_)
  · rw [if_pos hc67] at h
    refine J_sub [2, 3] (lv' := [(3, vI x3), (4, vI x4)]) rfl ?_
    exact jX9_shutBehind_b82  h
  · rw [if_neg hc67] at h
    refine J_aload_n (pc := 70) (q := 0) rfl rfl dX9_shutBehind_70 ?_
    refine J_aload_n (pc := 71) (q := 0) rfl rfl dX9_shutBehind_71 ?_
    obtain ⟨a72, h72, g_1⟩ := bnd h
    refine J_getR (pc := 72) (i := 4) clF9 (by decide) rfl fl_RX9_19 h72 dX9_shutBehind_72 ?_
    refine J_iload_n (pc := 75) (q := 1) rfl rfl dX9_shutBehind_75 ?_
    obtain ⟨a76, h76, g_2⟩ := bnd g_1
    refine J_ald0 (pc := 76) h76 dX9_shutBehind_76 ?_
    obtain ⟨b77, hb77, g_3⟩ := bnd g_2
    obtain ⟨r77, M77, h77, g_4⟩ := bnd2 g_3
    refine J_callVI (pc := 77) (as := [vI a76]) (tX9_shutFor (d := d)  h77) cf_X9_shutFor cv_X9_shutFor clF9 hb77 ml_RX9_177 (by omega) (Nat.le_of_ble_eq_true rfl) dX9_shutBehind_77 ?_
    refine J_istore (pc := 80) (by decide) (lv' := [(0, vR (some x0)), (2, vI x2), (3, vI x3), (5, vI x5), (4, vI r77)]) rfl dX9_shutBehind_80 ?_
    refine J_sub [2, 4] (lv' := [(3, vI x3), (4, vI r77)]) rfl ?_
    exact jX9_shutBehind_b82  g_4
set_option maxHeartbeats 4000000 in
set_option maxRecDepth 100000 in
theorem jX9_shutBehind_b46 {ad : Nat → Nat} {ca : Nat → ClassId} {D : va_G} {FU d : Nat} {r : Int32} {N : Mem}   {x0 : Nat} {x2 : Int32} {x3 : Int32} {x4 : Int32} {s0 : Int32} {M : Mem}   (h : fX9_shutBehind_b46 FU  x0 x2 x3 x4 s0 M = some (r, N)) : J ad ca D cX9_shutBehind RX9 6 (d + 2) (Gt ad ca D (some .int) (QI r N)) 46 [(0, vR (some x0)), (2, vI x2), (3, vI x3), (4, vI x4)] [vI s0] M := by
  unfold fX9_shutBehind_b46 at h
  refine J_istore (pc := 46) (by decide) (lv' := [(0, vR (some x0)), (2, vI x2), (3, vI x3), (4, vI x4), (5, vI s0)]) rfl dX9_shutBehind_46 ?_
  refine J_iload (pc := 48) (q := 4) rfl dX9_shutBehind_48 ?_
  refine J_ifne (pc := 50) (tgt := 64) (by decide) dX9_shutBehind_50 (fun hc50 => ?_) (fun hc50 => ?_)
  · rw [if_pos hc50] at h
    exact jX9_shutBehind_b64  h
  · rw [if_neg hc50] at h
    refine J_aload_n (pc := 53) (q := 0) rfl rfl dX9_shutBehind_53 ?_
    refine J_aload_n (pc := 54) (q := 0) rfl rfl dX9_shutBehind_54 ?_
    obtain ⟨a55, h55, g_5⟩ := bnd h
    refine J_getR (pc := 55) (i := 4) clF9 (by decide) rfl fl_RX9_19 h55 dX9_shutBehind_55 ?_
    refine J_iload_n (pc := 58) (q := 1) rfl rfl dX9_shutBehind_58 ?_
    obtain ⟨a59, h59, g_6⟩ := bnd g_5
    refine J_ald0 (pc := 59) h59 dX9_shutBehind_59 ?_
    obtain ⟨b60, hb60, g_7⟩ := bnd g_6
    obtain ⟨r60, M60, h60, g_8⟩ := bnd2 g_7
    refine J_callVI (pc := 60) (as := [vI a59]) (tX9_shutFor (d := d)  h60) cf_X9_shutFor cv_X9_shutFor clF9 hb60 ml_RX9_177 (by omega) (Nat.le_of_ble_eq_true rfl) dX9_shutBehind_60 ?_
    refine J_istore_n (pc := 63) rfl (by decide) (lv' := [(0, vR (some x0)), (2, vI x2), (4, vI x4), (5, vI s0), (3, vI r60)]) rfl dX9_shutBehind_63 ?_
    refine J_sub [0, 1, 4, 2, 3] (lv' := [(0, vR (some x0)), (2, vI x2), (3, vI r60), (4, vI x4), (5, vI s0)]) rfl ?_
    exact jX9_shutBehind_b64  g_8
set_option maxHeartbeats 4000000 in
set_option maxRecDepth 100000 in
theorem jX9_shutBehind_b31 {ad : Nat → Nat} {ca : Nat → ClassId} {D : va_G} {FU d : Nat} {r : Int32} {N : Mem}   {x0 : Nat} {x2 : Int32} {x3 : Int32} {s0 : Int32} {M : Mem}   (h : fX9_shutBehind_b31 FU  x0 x2 x3 s0 M = some (r, N)) : J ad ca D cX9_shutBehind RX9 6 (d + 2) (Gt ad ca D (some .int) (QI r N)) 31 [(0, vR (some x0)), (2, vI x2), (3, vI x3)] [vI s0] M := by
  unfold fX9_shutBehind_b31 at h
  refine J_istore (pc := 31) (by decide) (lv' := [(0, vR (some x0)), (2, vI x2), (3, vI x3), (4, vI s0)]) rfl dX9_shutBehind_31 ?_
  refine J_iload_n (pc := 33) (q := 1) rfl rfl dX9_shutBehind_33 ?_
  refine J_ifge (pc := 34) (tgt := 41) (by decide) dX9_shutBehind_34 (fun hc34 => ?_) (fun hc34 => ?_)
  · rw [if_pos hc34] at h
    refine J_aload_n (pc := 41) (q := 0) rfl rfl dX9_shutBehind_41 ?_
    refine J_iload_n (pc := 42) (q := 1) rfl rfl dX9_shutBehind_42 ?_
    obtain ⟨b43, hb43, g_9⟩ := bnd h
    obtain ⟨r43, M43, h43, g_10⟩ := bnd2 g_9
    refine J_callVI (pc := 43) (as := [vI x2]) (tX9_shutterOf (d := d)  h43) cf_X9_shutterOf cv_X9_shutterOf clF9 hb43 ml_RX9_173 (by omega) (Nat.le_of_ble_eq_true rfl) dX9_shutBehind_43 ?_
    exact jX9_shutBehind_b46  g_10
  · rw [if_neg hc34] at h
    refine J_iconst (pc := 37) (v := (-1 : Int32)) (by decide) dX9_shutBehind_37 ?_
    refine J_goto (pc := 38) (tgt := 46) (by decide) dX9_shutBehind_38 ?_
    exact jX9_shutBehind_b46  h
set_option maxHeartbeats 4000000 in
set_option maxRecDepth 100000 in
theorem jX9_shutBehind_b15 {ad : Nat → Nat} {ca : Nat → ClassId} {D : va_G} {FU d : Nat} {r : Int32} {N : Mem}   {x0 : Nat} {x1 : Int32} {x2 : Int32} {s0 : Int32} {M : Mem}   (h : fX9_shutBehind_b15 FU  x0 x1 x2 s0 M = some (r, N)) : J ad ca D cX9_shutBehind RX9 6 (d + 2) (Gt ad ca D (some .int) (QI r N)) 15 [(0, vR (some x0)), (1, vI x1), (2, vI x2)] [vI s0] M := by
  unfold fX9_shutBehind_b15 at h
  refine J_istore_n (pc := 15) rfl (by decide) (lv' := [(0, vR (some x0)), (1, vI x1), (2, vI x2), (3, vI s0)]) rfl dX9_shutBehind_15 ?_
  refine J_iload_n (pc := 16) (q := 1) rfl rfl dX9_shutBehind_16 ?_
  refine J_iconst (pc := 17) (v := (3 : Int32)) (by decide) dX9_shutBehind_17 ?_
  refine J_idiv (pc := 18) (by decide) dX9_shutBehind_18 ?_
  refine J_ifle (pc := 19) (tgt := 30) (by decide) dX9_shutBehind_19 (fun hc19 => ?_) (fun hc19 => ?_)
  · rw [if_pos hc19] at h
    refine J_iconst (pc := 30) (v := (0 : Int32)) (by decide) dX9_shutBehind_30 ?_
    refine J_sub [0, 2, 3] (lv' := [(0, vR (some x0)), (2, vI x2), (3, vI s0)]) rfl ?_
    exact jX9_shutBehind_b31  h
  · rw [if_neg hc19] at h
    refine J_iload_n (pc := 22) (q := 1) rfl rfl dX9_shutBehind_22 ?_
    refine J_iconst (pc := 23) (v := (3 : Int32)) (by decide) dX9_shutBehind_23 ?_
    refine J_idiv (pc := 24) (by decide) dX9_shutBehind_24 ?_
    refine J_iconst (pc := 25) (v := (1 : Int32)) (by decide) dX9_shutBehind_25 ?_
    refine J_isub (pc := 26) dX9_shutBehind_26 ?_
    refine J_goto (pc := 27) (tgt := 31) (by decide) dX9_shutBehind_27 ?_
    refine J_sub [0, 2, 3] (lv' := [(0, vR (some x0)), (2, vI x2), (3, vI s0)]) rfl ?_
    exact jX9_shutBehind_b31  h
set_option maxHeartbeats 4000000 in
set_option maxRecDepth 100000 in
theorem tX9_shutBehind {ad : Nat → Nat} {ca : Nat → ClassId} {D : va_G} {FU d : Nat} {r : Int32} {N : Mem}  {x0 : Nat} {x1 : Int32} {x2 : Int32} {M : Mem}  (h : fX9_shutBehind FU  x0 x1 x2 M = some (r, N)) : Ct ad ca D yX9_shutBehind cX9_shutBehind 6 (some .int) (d + 2) [vR (some x0), vI x1, vI x2] M (QI r N) := by
  refine Ct_of (by decide) (Nat.le_of_ble_eq_true rfl) ?_
  show J ad ca D cX9_shutBehind RX9 6 (d + 2) (Gt ad ca D (some .int) (QI r N)) 0 [(0, vR (some x0)), (1, vI x1), (2, vI x2)] [] M
  unfold fX9_shutBehind at h
  refine J_iload_n (pc := 0) (q := 1) rfl rfl dX9_shutBehind_0 ?_
  refine J_iconst (pc := 1) (v := (3 : Int32)) (by decide) dX9_shutBehind_1 ?_
  refine J_irem (pc := 2) (by decide) dX9_shutBehind_2 ?_
  refine J_ifle (pc := 3) (tgt := 14) (by decide) dX9_shutBehind_3 (fun hc3 => ?_) (fun hc3 => ?_)
  · rw [if_pos hc3] at h
    refine J_iconst (pc := 14) (v := (0 : Int32)) (by decide) dX9_shutBehind_14 ?_
    exact jX9_shutBehind_b15  h
  · rw [if_neg hc3] at h
    refine J_iload_n (pc := 6) (q := 1) rfl rfl dX9_shutBehind_6 ?_
    refine J_iconst (pc := 7) (v := (3 : Int32)) (by decide) dX9_shutBehind_7 ?_
    refine J_irem (pc := 8) (by decide) dX9_shutBehind_8 ?_
    refine J_iconst (pc := 9) (v := (1 : Int32)) (by decide) dX9_shutBehind_9 ?_
    refine J_isub (pc := 10) dX9_shutBehind_10 ?_
    refine J_goto (pc := 11) (tgt := 15) (by decide) dX9_shutBehind_11 ?_
    exact jX9_shutBehind_b15  h
set_option maxHeartbeats 4000000 in
set_option maxRecDepth 100000 in
theorem tX9_sorted {ad : Nat → Nat} {ca : Nat → ClassId} {D : va_G} {FU d : Nat} {r : Int32} {N : Mem}  {x0 : Nat} {x1 : Int32} {x2 : Int32} {x3 : Int32} {x4 : Int32} {x5 : Int32} {M : Mem}  (h : fX9_sorted FU  x0 x1 x2 x3 x4 x5 M = some (r, N)) : Ct ad ca D yX9_sorted cX9_sorted 6 (some .int) (d + 1) [vR (some x0), vI x1, vI x2, vI x3, vI x4, vI x5] M (QI r N) := by
  refine Ct_of (by decide) (Nat.le_of_ble_eq_true rfl) ?_
  show J ad ca D cX9_sorted RX9 6 (d + 1) (Gt ad ca D (some .int) (QI r N)) 0 [(0, vR (some x0)), (1, vI x1), (2, vI x2), (3, vI x3), (4, vI x4), (5, vI x5)] [] M
  unfold fX9_sorted at h
  refine J_iload_n (pc := 0) (q := 1) rfl rfl dX9_sorted_0 ?_
  refine J_iload_n (pc := 1) (q := 2) rfl rfl dX9_sorted_1 ?_
  refine J_icge (pc := 2) (tgt := 19) (by decide) dX9_sorted_2 (fun hc2 => ?_) (fun hc2 => ?_)
  · rw [if_pos hc2] at h
    refine J_aload_n (pc := 19) (q := 0) rfl rfl dX9_sorted_19 ?_
    refine J_iload_n (pc := 20) (q := 2) rfl rfl dX9_sorted_20 ?_
    refine J_iload_n (pc := 21) (q := 1) rfl rfl dX9_sorted_21 ?_
    refine J_iload_n (pc := 22) (q := 3) rfl rfl dX9_sorted_22 ?_
    refine J_iload (pc := 23) (q := 4) rfl dX9_sorted_23 ?_
    refine J_iload (pc := 25) (q := 5) rfl dX9_sorted_25 ?_
    obtain ⟨b27, hb27, g_1⟩ := bnd h
    obtain ⟨r27, M27, h27, g_2⟩ := bnd2 g_1
    refine J_callVI (pc := 27) (as := [vI x2, vI x1, vI x3, vI x4, vI x5]) (tX9_standing (d := d)  h27) cf_X9_standing cv_X9_standing clF9 hb27 ml_RX9_180 (by omega) (Nat.le_of_ble_eq_true rfl) dX9_sorted_27 ?_
    exact J_iret (pc := 30) (qi_of g_2) dX9_sorted_30
  · rw [if_neg hc2] at h
    refine J_aload_n (pc := 5) (q := 0) rfl rfl dX9_sorted_5 ?_
    refine J_iload_n (pc := 6) (q := 1) rfl rfl dX9_sorted_6 ?_
    refine J_iload_n (pc := 7) (q := 2) rfl rfl dX9_sorted_7 ?_
    refine J_iload_n (pc := 8) (q := 3) rfl rfl dX9_sorted_8 ?_
    refine J_iload (pc := 9) (q := 4) rfl dX9_sorted_9 ?_
    refine J_iload (pc := 11) (q := 5) rfl dX9_sorted_11 ?_
    obtain ⟨b13, hb13, g_3⟩ := bnd h
    obtain ⟨r13, M13, h13, g_4⟩ := bnd2 g_3
    refine J_callVI (pc := 13) (as := [vI x1, vI x2, vI x3, vI x4, vI x5]) (tX9_standing (d := d)  h13) cf_X9_standing cv_X9_standing clF9 hb13 ml_RX9_180 (by omega) (Nat.le_of_ble_eq_true rfl) dX9_sorted_13 ?_
    refine J_goto (pc := 16) (tgt := 30) (by decide) dX9_sorted_16 ?_
    exact J_iret (pc := 30) (qi_of g_4) dX9_sorted_30
set_option maxHeartbeats 4000000 in
set_option maxRecDepth 100000 in
theorem jX9_mayRun_b60 {ad : Nat → Nat} {ca : Nat → ClassId} {D : va_G} {FU d : Nat} {r : Int32} {N : Mem}    {M : Mem}   (h : fX9_mayRun_b60 FU  M = some (r, N)) : J ad ca D cX9_mayRun RX9 6 (d + 3) (Gt ad ca D (some .boolean) (QI r N)) 60 [] [] M := by
  unfold fX9_mayRun_b60 at h
  refine J_iconst (pc := 60) (v := (1 : Int32)) (by decide) dX9_mayRun_60 ?_
  refine J_goto (pc := 61) (tgt := 65) (by decide) dX9_mayRun_61 ?_
  exact J_zret (pc := 65) (Or.inr rfl) (qi_of h) dX9_mayRun_65
set_option maxHeartbeats 4000000 in
set_option maxRecDepth 100000 in
theorem tX9_mayRun {ad : Nat → Nat} {ca : Nat → ClassId} {D : va_G} {FU d : Nat} {r : Int32} {N : Mem}  {x0 : Nat} {x1 : Int32} {x2 : Int32} {x3 : Int32} {x4 : Int32} {x5 : Int32} {M : Mem}  (h : fX9_mayRun FU  x0 x1 x2 x3 x4 x5 M = some (r, N)) : Ct ad ca D yX9_mayRun cX9_mayRun 6 (some .boolean) (d + 3) [vR (some x0), vI x1, vI x2, vI x3, vI x4, vI x5] M (QI r N) := by
  refine Ct_of (by decide) (Nat.le_of_ble_eq_true rfl) ?_
  show J ad ca D cX9_mayRun RX9 6 (d + 3) (Gt ad ca D (some .boolean) (QI r N)) 0 [(0, vR (some x0)), (1, vI x1), (2, vI x2), (3, vI x3), (4, vI x4), (5, vI x5)] [] M
  unfold fX9_mayRun at h
  refine J_aload_n (pc := 0) (q := 0) rfl rfl dX9_mayRun_0 ?_
  refine J_iload_n (pc := 1) (q := 1) rfl rfl dX9_mayRun_1 ?_
  refine J_iload_n (pc := 2) (q := 2) rfl rfl dX9_mayRun_2 ?_
  obtain ⟨b3, hb3, g_1⟩ := bnd h
  obtain ⟨r3, M3, h3, g_2⟩ := bnd2 g_1
  refine J_callVI (pc := 3) (as := [vI x1, vI x2]) (tX9_leads (d := d)  h3) cf_X9_leads cv_X9_leads clF9 hb3 ml_RX9_184 (by omega) (Nat.le_of_ble_eq_true rfl) dX9_mayRun_3 ?_
  refine J_iflt (pc := 6) (tgt := 29) (by decide) dX9_mayRun_6 (fun hc6 => ?_) (fun hc6 => ?_)
  · rw [if_pos hc6] at g_2
    refine J_iconst (pc := 29) (v := (0 : Int32)) (by decide) dX9_mayRun_29 ?_
    exact J_zret (pc := 30) (Or.inl rfl) (qi_of g_2) dX9_mayRun_30
  · rw [if_neg hc6] at g_2
    refine J_aload_n (pc := 9) (q := 0) rfl rfl dX9_mayRun_9 ?_
    obtain ⟨a10, h10, g_3⟩ := bnd g_2
    refine J_getR (pc := 10) (i := 4) clF9 (by decide) rfl fl_RX9_19 h10 dX9_mayRun_10 ?_
    refine J_iload_n (pc := 13) (q := 1) rfl rfl dX9_mayRun_13 ?_
    obtain ⟨a14, h14, g_4⟩ := bnd g_3
    refine J_ald0 (pc := 14) h14 dX9_mayRun_14 ?_
    refine J_iconst (pc := 15) (v := (3 : Int32)) (by decide) dX9_mayRun_15 ?_
    refine J_iceq (pc := 16) (tgt := 29) (by decide) dX9_mayRun_16 (fun hc16 => ?_) (fun hc16 => ?_)
    · rw [if_pos hc16] at g_4
      refine J_iconst (pc := 29) (v := (0 : Int32)) (by decide) dX9_mayRun_29 ?_
      exact J_zret (pc := 30) (Or.inl rfl) (qi_of g_4) dX9_mayRun_30
    · rw [if_neg hc16] at g_4
      refine J_aload_n (pc := 19) (q := 0) rfl rfl dX9_mayRun_19 ?_
      refine J_iload_n (pc := 20) (q := 1) rfl rfl dX9_mayRun_20 ?_
      refine J_iload (pc := 21) (q := 5) rfl dX9_mayRun_21 ?_
      obtain ⟨b23, hb23, g_5⟩ := bnd g_4
      obtain ⟨r23, M23, h23, g_6⟩ := bnd2 g_5
      refine J_callVI (pc := 23) (as := [vI x1, vI x5]) (tX9_isOpen (d := d)  h23) cf_X9_isOpen cv_X9_isOpen clF9 hb23 ml_RX9_188 (by omega) (Nat.le_of_ble_eq_true rfl) dX9_mayRun_23 ?_
      refine J_ifne (pc := 26) (tgt := 31) (by decide) dX9_mayRun_26 (fun hc26 => ?_) (fun hc26 => ?_)
      · rw [if_pos hc26] at g_6
        refine J_aload_n (pc := 31) (q := 0) rfl rfl dX9_mayRun_31 ?_
        obtain ⟨a32, h32, g_7⟩ := bnd g_6
        refine J_getR (pc := 32) (i := 4) clF9 (by decide) rfl fl_RX9_19 h32 dX9_mayRun_32 ?_
        refine J_iload_n (pc := 35) (q := 1) rfl rfl dX9_mayRun_35 ?_
        obtain ⟨a36, h36, g_8⟩ := bnd g_7
        refine J_ald0 (pc := 36) h36 dX9_mayRun_36 ?_
        refine J_iconst (pc := 37) (v := (4 : Int32)) (by decide) dX9_mayRun_37 ?_
        refine J_icne (pc := 38) (tgt := 60) (by decide) dX9_mayRun_38 (fun hc38 => ?_) (fun hc38 => ?_)
        · rw [if_pos hc38] at g_8
          refine J_sub [] (lv' := []) rfl ?_
          exact jX9_mayRun_b60  g_8
        · rw [if_neg hc38] at g_8
          refine J_aload_n (pc := 41) (q := 0) rfl rfl dX9_mayRun_41 ?_
          refine J_iload_n (pc := 42) (q := 3) rfl rfl dX9_mayRun_42 ?_
          refine J_iload_n (pc := 43) (q := 2) rfl rfl dX9_mayRun_43 ?_
          obtain ⟨b44, hb44, g_9⟩ := bnd g_8
          obtain ⟨r44, M44, h44, g_10⟩ := bnd2 g_9
          refine J_callVI (pc := 44) (as := [vI x3, vI x2]) (tX9_isBeside (d := d)  h44) cf_X9_isBeside cv_X9_isBeside clF9 hb44 ml_RX9_192 (by omega) (Nat.le_of_ble_eq_true rfl) dX9_mayRun_44 ?_
          refine J_ifne (pc := 47) (tgt := 64) (by decide) dX9_mayRun_47 (fun hc47 => ?_) (fun hc47 => ?_)
          · rw [if_pos hc47] at g_10
            refine J_iconst (pc := 64) (v := (0 : Int32)) (by decide) dX9_mayRun_64 ?_
            exact J_zret (pc := 65) (Or.inl rfl) (qi_of g_10) dX9_mayRun_65
          · rw [if_neg hc47] at g_10
            refine J_aload_n (pc := 50) (q := 0) rfl rfl dX9_mayRun_50 ?_
            refine J_iload (pc := 51) (q := 4) rfl dX9_mayRun_51 ?_
            refine J_iload_n (pc := 53) (q := 2) rfl rfl dX9_mayRun_53 ?_
            obtain ⟨b54, hb54, g_11⟩ := bnd g_10
            obtain ⟨r54, M54, h54, g_12⟩ := bnd2 g_11
            refine J_callVI (pc := 54) (as := [vI x4, vI x2]) (tX9_isBeside (d := d)  h54) cf_X9_isBeside cv_X9_isBeside clF9 hb54 ml_RX9_192 (by omega) (Nat.le_of_ble_eq_true rfl) dX9_mayRun_54 ?_
            refine J_ifne (pc := 57) (tgt := 64) (by decide) dX9_mayRun_57 (fun hc57 => ?_) (fun hc57 => ?_)
            · rw [if_pos hc57] at g_12
              refine J_iconst (pc := 64) (v := (0 : Int32)) (by decide) dX9_mayRun_64 ?_
              exact J_zret (pc := 65) (Or.inl rfl) (qi_of g_12) dX9_mayRun_65
            · rw [if_neg hc57] at g_12
              refine J_sub [] (lv' := []) rfl ?_
              exact jX9_mayRun_b60  g_12
      · rw [if_neg hc26] at g_6
        refine J_iconst (pc := 29) (v := (0 : Int32)) (by decide) dX9_mayRun_29 ?_
        exact J_zret (pc := 30) (Or.inl rfl) (qi_of g_6) dX9_mayRun_30
set_option maxHeartbeats 4000000 in
set_option maxRecDepth 100000 in
theorem jX9_behind_b212 {ad : Nat → Nat} {ca : Nat → ClassId} {D : va_G} {FU d : Nat} {r : Int32} {N : Mem}   {x0 : Nat} {x2 : Int32} {x3 : Int32} {x4 : Int32} {x5 : Int32} {x6 : Int32} {x7 : Int32} {s0 : Option Nat} {s1 : Int32} {s2 : Int32} {M : Mem}   (h : fX9_behind_b212 FU  x0 x2 x3 x4 x5 x6 x7 s0 s1 s2 M = some (r, N)) : J ad ca D cX9_behind RX9 10 (d + 4) (Gt ad ca D (some .int) (QI r N)) 212 [(0, vR (some x0)), (2, vI x2), (3, vI x3), (4, vI x4), (5, vI x5), (6, vI x6), (7, vI x7)] [vI s2, vI s1, vR s0] M := by
  unfold fX9_behind_b212 at h
  obtain ⟨b212, hb212, g_1⟩ := bnd h
  obtain ⟨r212, M212, h212, g_2⟩ := bnd2 g_1
  refine J_callVI (pc := 212) (as := [vI s1, vI s2]) (tX9_leads (d := d)  h212) cf_X9_leads cv_X9_leads clF9 hb212 ml_RX9_184 (by omega) (Nat.le_of_ble_eq_true rfl) dX9_behind_212 ?_
  refine J_istore (pc := 215) (by decide) (lv' := [(0, vR (some x0)), (2, vI x2), (3, vI x3), (4, vI x4), (5, vI x5), (6, vI x6), (7, vI x7), (8, vI r212)]) rfl dX9_behind_215 ?_
  refine J_iload (pc := 217) (q := 7) rfl dX9_behind_217 ?_
  refine J_iflt (pc := 219) (tgt := 255) (by decide) dX9_behind_219 (fun hc219 => ?_) (fun hc219 => ?_)
  · rw [if_pos hc219] at g_2
    refine J_iconst (pc := 255) (v := (-1 : Int32)) (by decide) dX9_behind_255 ?_
    exact J_iret (pc := 256) (qi_of g_2) dX9_behind_256
  · rw [if_neg hc219] at g_2
    refine J_aload_n (pc := 222) (q := 0) rfl rfl dX9_behind_222 ?_
    obtain ⟨a223, h223, g_3⟩ := bnd g_2
    refine J_getR (pc := 223) (i := 4) clF9 (by decide) rfl fl_RX9_19 h223 dX9_behind_223 ?_
    refine J_iload (pc := 226) (q := 6) rfl dX9_behind_226 ?_
    obtain ⟨a228, h228, g_4⟩ := bnd g_3
    refine J_ald0 (pc := 228) h228 dX9_behind_228 ?_
    refine J_iconst (pc := 229) (v := (1 : Int32)) (by decide) dX9_behind_229 ?_
    refine J_iceq (pc := 230) (tgt := 255) (by decide) dX9_behind_230 (fun hc230 => ?_) (fun hc230 => ?_)
    · rw [if_pos hc230] at g_4
      refine J_iconst (pc := 255) (v := (-1 : Int32)) (by decide) dX9_behind_255 ?_
      exact J_iret (pc := 256) (qi_of g_4) dX9_behind_256
    · rw [if_neg hc230] at g_4
      refine J_aload_n (pc := 233) (q := 0) rfl rfl dX9_behind_233 ?_
      obtain ⟨a234, h234, g_5⟩ := bnd g_4
      refine J_getR (pc := 234) (i := 4) clF9 (by decide) rfl fl_RX9_19 h234 dX9_behind_234 ?_
      refine J_iload (pc := 237) (q := 6) rfl dX9_behind_237 ?_
      obtain ⟨a239, h239, g_6⟩ := bnd g_5
      refine J_ald0 (pc := 239) h239 dX9_behind_239 ?_
      refine J_iconst (pc := 240) (v := (4 : Int32)) (by decide) dX9_behind_240 ?_
      refine J_iceq (pc := 241) (tgt := 255) (by decide) dX9_behind_241 (fun hc241 => ?_) (fun hc241 => ?_)
      · rw [if_pos hc241] at g_6
        refine J_iconst (pc := 255) (v := (-1 : Int32)) (by decide) dX9_behind_255 ?_
        exact J_iret (pc := 256) (qi_of g_6) dX9_behind_256
      · rw [if_neg hc241] at g_6
        refine J_aload_n (pc := 244) (q := 0) rfl rfl dX9_behind_244 ?_
        refine J_iload (pc := 245) (q := 6) rfl dX9_behind_245 ?_
        refine J_iload (pc := 247) (q := 5) rfl dX9_behind_247 ?_
        obtain ⟨b249, hb249, g_7⟩ := bnd g_6
        obtain ⟨r249, M249, h249, g_8⟩ := bnd2 g_7
        refine J_callVI (pc := 249) (as := [vI x7, vI x6]) (tX9_isOpen (d := d)  h249) cf_X9_isOpen cv_X9_isOpen clF9 hb249 ml_RX9_188 (by omega) (Nat.le_of_ble_eq_true rfl) dX9_behind_249 ?_
        refine J_ifne (pc := 252) (tgt := 257) (by decide) dX9_behind_252 (fun hc252 => ?_) (fun hc252 => ?_)
        · rw [if_pos hc252] at g_8
          refine J_aload_n (pc := 257) (q := 0) rfl rfl dX9_behind_257 ?_
          refine J_iload (pc := 258) (q := 5) rfl dX9_behind_258 ?_
          refine J_iload (pc := 260) (q := 6) rfl dX9_behind_260 ?_
          obtain ⟨b262, hb262, g_9⟩ := bnd g_8
          obtain ⟨r262, M262, h262, g_10⟩ := bnd2 g_9
          refine J_callVI (pc := 262) (as := [vI x6, vI x7]) (tX9_shutBehind (d := d)  h262) cf_X9_shutBehind cv_X9_shutBehind clF9 hb262 ml_RX9_210 (by omega) (Nat.le_of_ble_eq_true rfl) dX9_behind_262 ?_
          refine J_istore (pc := 265) (by decide) (lv' := [(0, vR (some x0)), (2, vI x2), (3, vI x3), (4, vI x4), (5, vI x5), (6, vI x6), (7, vI x7), (8, vI r212), (9, vI r262)]) rfl dX9_behind_265 ?_
          refine J_aload_n (pc := 267) (q := 0) rfl rfl dX9_behind_267 ?_
          obtain ⟨a268, h268, g_11⟩ := bnd g_10
          refine J_getI (pc := 268) (i := 2) clF9 (by decide) rfl fl_RX9_13 h268 dX9_behind_268 ?_
          refine J_iconst (pc := 271) (v := (1 : Int32)) (by decide) dX9_behind_271 ?_
          refine J_icne (pc := 272) (tgt := 291) (by decide) dX9_behind_272 (fun hc272 => ?_) (fun hc272 => ?_)
          · rw [if_pos hc272] at g_11
            refine J_iload_n (pc := 291) (q := 1) rfl rfl dX9_behind_291 ?_
            refine J_bipush (pc := 292) (v := (16 : Int32)) (by decide) dX9_behind_292 ?_
            refine J_icle (pc := 294) (tgt := 312) (by decide) dX9_behind_294 (fun hc294 => ?_) (fun hc294 => ?_)
            · rw [if_pos hc294] at g_11
              refine J_aload_n (pc := 312) (q := 0) rfl rfl dX9_behind_312 ?_
              refine J_iload (pc := 313) (q := 7) rfl dX9_behind_313 ?_
              refine J_iload (pc := 315) (q := 3) rfl dX9_behind_315 ?_
              refine J_iload (pc := 317) (q := 4) rfl dX9_behind_317 ?_
              refine J_iconst (pc := 319) (v := (1 : Int32)) (by decide) dX9_behind_319 ?_
              refine J_iload (pc := 320) (q := 8) rfl dX9_behind_320 ?_
              obtain ⟨b322, hb322, g_12⟩ := bnd g_11
              obtain ⟨r322, M322, h322, g_13⟩ := bnd2 g_12
              refine J_callVI (pc := 322) (as := [vI r212, vI x4, vI x5, vI (1 : Int32), vI r262]) (tX9_sorted (d := d)  h322) cf_X9_sorted cv_X9_sorted clF9 hb322 ml_RX9_217 (by omega) (Nat.le_of_ble_eq_true rfl) dX9_behind_322 ?_
              exact J_iret (pc := 325) (qi_of g_13) dX9_behind_325
            · rw [if_neg hc294] at g_11
              refine J_aload_n (pc := 297) (q := 0) rfl rfl dX9_behind_297 ?_
              refine J_iload_n (pc := 298) (q := 2) rfl rfl dX9_behind_298 ?_
              refine J_iload (pc := 299) (q := 7) rfl dX9_behind_299 ?_
              refine J_iload (pc := 301) (q := 4) rfl dX9_behind_301 ?_
              refine J_iconst (pc := 303) (v := (1 : Int32)) (by decide) dX9_behind_303 ?_
              refine J_iload (pc := 304) (q := 8) rfl dX9_behind_304 ?_
              obtain ⟨b306, hb306, g_14⟩ := bnd g_11
              obtain ⟨r306, M306, h306, g_15⟩ := bnd2 g_14
              refine J_callVI (pc := 306) (as := [vI x3, vI r212, vI x5, vI (1 : Int32), vI r262]) (tX9_sorted (d := d)  h306) cf_X9_sorted cv_X9_sorted clF9 hb306 ml_RX9_217 (by omega) (Nat.le_of_ble_eq_true rfl) dX9_behind_306 ?_
              refine J_goto (pc := 309) (tgt := 325) (by decide) dX9_behind_309 ?_
              exact J_iret (pc := 325) (qi_of g_15) dX9_behind_325
          · rw [if_neg hc272] at g_11
            refine J_aload_n (pc := 275) (q := 0) rfl rfl dX9_behind_275 ?_
            refine J_iload (pc := 276) (q := 7) rfl dX9_behind_276 ?_
            refine J_iload (pc := 278) (q := 7) rfl dX9_behind_278 ?_
            refine J_iload (pc := 280) (q := 4) rfl dX9_behind_280 ?_
            refine J_iconst (pc := 282) (v := (1 : Int32)) (by decide) dX9_behind_282 ?_
            refine J_iload (pc := 283) (q := 8) rfl dX9_behind_283 ?_
            obtain ⟨b285, hb285, g_16⟩ := bnd g_11
            obtain ⟨r285, M285, h285, g_17⟩ := bnd2 g_16
            refine J_callVI (pc := 285) (as := [vI r212, vI r212, vI x5, vI (1 : Int32), vI r262]) (tX9_standing (d := d)  h285) cf_X9_standing cv_X9_standing clF9 hb285 ml_RX9_180 (by omega) (Nat.le_of_ble_eq_true rfl) dX9_behind_285 ?_
            refine J_goto (pc := 288) (tgt := 325) (by decide) dX9_behind_288 ?_
            exact J_iret (pc := 325) (qi_of g_17) dX9_behind_325
        · rw [if_neg hc252] at g_8
          refine J_iconst (pc := 255) (v := (-1 : Int32)) (by decide) dX9_behind_255 ?_
          exact J_iret (pc := 256) (qi_of g_8) dX9_behind_256
set_option maxHeartbeats 4000000 in
set_option maxRecDepth 100000 in
theorem jX9_behind_b197 {ad : Nat → Nat} {ca : Nat → ClassId} {D : va_G} {FU d : Nat} {r : Int32} {N : Mem}   {x0 : Nat} {x2 : Int32} {x3 : Int32} {x4 : Int32} {x5 : Int32} {x6 : Int32} {x7 : Int32} {M : Mem}   (h : fX9_behind_b197 FU  x0 x2 x3 x4 x5 x6 x7 M = some (r, N)) : J ad ca D cX9_behind RX9 10 (d + 4) (Gt ad ca D (some .int) (QI r N)) 197 [(0, vR (some x0)), (2, vI x2), (3, vI x3), (4, vI x4), (5, vI x5), (6, vI x6), (7, vI x7)] [] M := by
  unfold fX9_behind_b197 at h
  refine J_aload_n (pc := 197) (q := 0) rfl rfl dX9_behind_197 ?_
  refine J_iload (pc := 198) (q := 6) rfl dX9_behind_198 ?_
  refine J_iload_n (pc := 200) (q := 1) rfl rfl dX9_behind_200 ?_
  refine J_bipush (pc := 201) (v := (16 : Int32)) (by decide) dX9_behind_201 ?_
  refine J_icle (pc := 203) (tgt := 211) (by decide) dX9_behind_203 (fun hc203 => ?_) (fun hc203 => ?_)
  · rw [if_pos hc203] at h
    refine J_iload_n (pc := 211) (q := 2) rfl rfl dX9_behind_211 ?_
    exact jX9_behind_b212  h
  · rw [if_neg hc203] at h
    refine J_iload (pc := 206) (q := 3) rfl dX9_behind_206 ?_
    refine J_goto (pc := 208) (tgt := 212) (by decide) dX9_behind_208 ?_
    exact jX9_behind_b212  h
set_option maxHeartbeats 4000000 in
set_option maxRecDepth 100000 in
theorem jX9_behind_b164 {ad : Nat → Nat} {ca : Nat → ClassId} {D : va_G} {FU d : Nat} {r : Int32} {N : Mem}   {x0 : Nat} {x2 : Int32} {x3 : Int32} {x4 : Int32} {x5 : Int32} {x6 : Int32} {s0 : Int32} {M : Mem}   (h : fX9_behind_b164 FU  x0 x2 x3 x4 x5 x6 s0 M = some (r, N)) : J ad ca D cX9_behind RX9 10 (d + 4) (Gt ad ca D (some .int) (QI r N)) 164 [(0, vR (some x0)), (2, vI x2), (3, vI x3), (4, vI x4), (5, vI x5), (6, vI x6)] [vI s0] M := by
  unfold fX9_behind_b164 at h
  refine J_istore (pc := 164) (by decide) (lv' := [(0, vR (some x0)), (2, vI x2), (3, vI x3), (4, vI x4), (5, vI x5), (6, vI x6), (7, vI s0)]) rfl dX9_behind_164 ?_
  refine J_iload (pc := 166) (q := 6) rfl dX9_behind_166 ?_
  refine J_aload_n (pc := 168) (q := 0) rfl rfl dX9_behind_168 ?_
  obtain ⟨a169, h169, g_18⟩ := bnd h
  refine J_getI (pc := 169) (i := 1) clF9 (by decide) rfl fl_RX9_7 h169 dX9_behind_169 ?_
  refine J_icge (pc := 172) (tgt := 195) (by decide) dX9_behind_172 (fun hc172 => ?_) (fun hc172 => ?_)
  · rw [if_pos hc172] at g_18
    refine J_iconst (pc := 195) (v := (-1 : Int32)) (by decide) dX9_behind_195 ?_
    exact J_iret (pc := 196) (qi_of g_18) dX9_behind_196
  · rw [if_neg hc172] at g_18
    refine J_iload_n (pc := 175) (q := 1) rfl rfl dX9_behind_175 ?_
    refine J_bipush (pc := 176) (v := (16 : Int32)) (by decide) dX9_behind_176 ?_
    refine J_icle (pc := 178) (tgt := 197) (by decide) dX9_behind_178 (fun hc178 => ?_) (fun hc178 => ?_)
    · rw [if_pos hc178] at g_18
      exact jX9_behind_b197  g_18
    · rw [if_neg hc178] at g_18
      refine J_aload_n (pc := 181) (q := 0) rfl rfl dX9_behind_181 ?_
      obtain ⟨a182, h182, g_19⟩ := bnd g_18
      refine J_getI (pc := 182) (i := 2) clF9 (by decide) rfl fl_RX9_13 h182 dX9_behind_182 ?_
      refine J_iconst (pc := 185) (v := (1 : Int32)) (by decide) dX9_behind_185 ?_
      refine J_iceq (pc := 186) (tgt := 195) (by decide) dX9_behind_186 (fun hc186 => ?_) (fun hc186 => ?_)
      · rw [if_pos hc186] at g_19
        refine J_iconst (pc := 195) (v := (-1 : Int32)) (by decide) dX9_behind_195 ?_
        exact J_iret (pc := 196) (qi_of g_19) dX9_behind_196
      · rw [if_neg hc186] at g_19
        refine J_iload_n (pc := 189) (q := 2) rfl rfl dX9_behind_189 ?_
        refine J_iload (pc := 190) (q := 3) rfl dX9_behind_190 ?_
        refine J_icne (pc := 192) (tgt := 197) (by decide) dX9_behind_192 (fun hc192 => ?_) (fun hc192 => ?_)
        · rw [if_pos hc192] at g_19
          exact jX9_behind_b197  g_19
        · rw [if_neg hc192] at g_19
          refine J_iconst (pc := 195) (v := (-1 : Int32)) (by decide) dX9_behind_195 ?_
          exact J_iret (pc := 196) (qi_of g_19) dX9_behind_196
set_option maxHeartbeats 4000000 in
set_option maxRecDepth 100000 in
theorem tX9_behind {ad : Nat → Nat} {ca : Nat → ClassId} {D : va_G} {FU d : Nat} {r : Int32} {N : Mem}  {x0 : Nat} {x1 : Int32} {x2 : Int32} {M : Mem}  (h : fX9_behind FU  x0 x1 x2 M = some (r, N)) : Ct ad ca D yX9_behind cX9_behind 10 (some .int) (d + 4) [vR (some x0), vI x1, vI x2] M (QI r N) := by
  refine Ct_of (by decide) (Nat.le_of_ble_eq_true rfl) ?_
  show J ad ca D cX9_behind RX9 10 (d + 4) (Gt ad ca D (some .int) (QI r N)) 0 [(0, vR (some x0)), (1, vI x1), (2, vI x2)] [] M
  unfold fX9_behind at h
  refine J_aload_n (pc := 0) (q := 0) rfl rfl dX9_behind_0 ?_
  refine J_iload_n (pc := 1) (q := 1) rfl rfl dX9_behind_1 ?_
  obtain ⟨b2, hb2, g_20⟩ := bnd h
  obtain ⟨r2, M2, h2, g_21⟩ := bnd2 g_20
  refine J_callVI (pc := 2) (as := [vI x1]) (tX9_firstOf (d := d)  h2) cf_X9_firstOf cv_X9_firstOf clF9 hb2 ml_RX9_195 (by omega) (Nat.le_of_ble_eq_true rfl) dX9_behind_2 ?_
  refine J_istore_n (pc := 5) rfl (by decide) (lv' := [(0, vR (some x0)), (1, vI x1), (2, vI x2), (3, vI r2)]) rfl dX9_behind_5 ?_
  refine J_aload_n (pc := 6) (q := 0) rfl rfl dX9_behind_6 ?_
  refine J_iload_n (pc := 7) (q := 1) rfl rfl dX9_behind_7 ?_
  obtain ⟨b8, hb8, g_22⟩ := bnd g_21
  obtain ⟨r8, M8, h8, g_23⟩ := bnd2 g_22
  refine J_callVI (pc := 8) (as := [vI x1]) (tX9_secondOf (d := d)  h8) cf_X9_secondOf cv_X9_secondOf clF9 hb8 ml_RX9_198 (by omega) (Nat.le_of_ble_eq_true rfl) dX9_behind_8 ?_
  refine J_istore (pc := 11) (by decide) (lv' := [(0, vR (some x0)), (1, vI x1), (2, vI x2), (3, vI r2), (4, vI r8)]) rfl dX9_behind_11 ?_
  refine J_aload_n (pc := 13) (q := 0) rfl rfl dX9_behind_13 ?_
  refine J_iload_n (pc := 14) (q := 1) rfl rfl dX9_behind_14 ?_
  obtain ⟨b15, hb15, g_24⟩ := bnd g_23
  obtain ⟨r15, M15, h15, g_25⟩ := bnd2 g_24
  refine J_callVI (pc := 15) (as := [vI x1]) (tX9_runnerOf (d := d)  h15) cf_X9_runnerOf cv_X9_runnerOf clF9 hb15 ml_RX9_201 (by omega) (Nat.le_of_ble_eq_true rfl) dX9_behind_15 ?_
  refine J_istore (pc := 18) (by decide) (lv' := [(0, vR (some x0)), (1, vI x1), (2, vI x2), (3, vI r2), (4, vI r8), (5, vI r15)]) rfl dX9_behind_18 ?_
  refine J_aload_n (pc := 20) (q := 0) rfl rfl dX9_behind_20 ?_
  refine J_iload_n (pc := 21) (q := 1) rfl rfl dX9_behind_21 ?_
  obtain ⟨b22, hb22, g_26⟩ := bnd g_25
  obtain ⟨r22, M22, h22, g_27⟩ := bnd2 g_26
  refine J_callVI (pc := 22) (as := [vI x1]) (tX9_shutOf (d := d)  h22) cf_X9_shutOf cv_X9_shutOf clF9 hb22 ml_RX9_204 (by omega) (Nat.le_of_ble_eq_true rfl) dX9_behind_22 ?_
  refine J_istore (pc := 25) (by decide) (lv' := [(0, vR (some x0)), (1, vI x1), (2, vI x2), (3, vI r2), (4, vI r8), (5, vI r15), (6, vI r22)]) rfl dX9_behind_25 ?_
  refine J_aload_n (pc := 27) (q := 0) rfl rfl dX9_behind_27 ?_
  refine J_iload_n (pc := 28) (q := 1) rfl rfl dX9_behind_28 ?_
  obtain ⟨b29, hb29, g_28⟩ := bnd g_27
  obtain ⟨r29, M29, h29, g_29⟩ := bnd2 g_28
  refine J_callVI (pc := 29) (as := [vI x1]) (tX9_turnOf (d := d)  h29) cf_X9_turnOf cv_X9_turnOf clF9 hb29 ml_RX9_207 (by omega) (Nat.le_of_ble_eq_true rfl) dX9_behind_29 ?_
  refine J_iconst (pc := 32) (v := (1 : Int32)) (by decide) dX9_behind_32 ?_
  refine J_icne (pc := 33) (tgt := 126) (by decide) dX9_behind_33 (fun hc33 => ?_) (fun hc33 => ?_)
  · rw [if_pos hc33] at g_29
    refine J_iload_n (pc := 126) (q := 2) rfl rfl dX9_behind_126 ?_
    refine J_ifne (pc := 127) (tgt := 148) (by decide) dX9_behind_127 (fun hc127 => ?_) (fun hc127 => ?_)
    · rw [if_pos hc127] at g_29
      refine J_iload_n (pc := 148) (q := 2) rfl rfl dX9_behind_148 ?_
      refine J_bipush (pc := 149) (v := (16 : Int32)) (by decide) dX9_behind_149 ?_
      refine J_icle (pc := 151) (tgt := 161) (by decide) dX9_behind_151 (fun hc151 => ?_) (fun hc151 => ?_)
      · rw [if_pos hc151] at g_29
        refine J_iload_n (pc := 161) (q := 2) rfl rfl dX9_behind_161 ?_
        refine J_iconst (pc := 162) (v := (1 : Int32)) (by decide) dX9_behind_162 ?_
        refine J_isub (pc := 163) dX9_behind_163 ?_
        refine J_sub [0, 2, 3, 4, 5, 6] (lv' := [(0, vR (some x0)), (2, vI x2), (3, vI r2), (4, vI r8), (5, vI r15), (6, vI r22)]) rfl ?_
        exact jX9_behind_b164  g_29
      · rw [if_neg hc151] at g_29
        refine J_iload_n (pc := 154) (q := 2) rfl rfl dX9_behind_154 ?_
        refine J_bipush (pc := 155) (v := (17 : Int32)) (by decide) dX9_behind_155 ?_
        refine J_isub (pc := 157) dX9_behind_157 ?_
        refine J_goto (pc := 158) (tgt := 164) (by decide) dX9_behind_158 ?_
        refine J_sub [0, 2, 3, 4, 5, 6] (lv' := [(0, vR (some x0)), (2, vI x2), (3, vI r2), (4, vI r8), (5, vI r15), (6, vI r22)]) rfl ?_
        exact jX9_behind_b164  g_29
    · rw [if_neg hc127] at g_29
      refine J_aload_n (pc := 130) (q := 0) rfl rfl dX9_behind_130 ?_
      refine J_iload_n (pc := 131) (q := 3) rfl rfl dX9_behind_131 ?_
      refine J_iload (pc := 132) (q := 4) rfl dX9_behind_132 ?_
      refine J_iload (pc := 134) (q := 5) rfl dX9_behind_134 ?_
      refine J_iconst (pc := 136) (v := (1 : Int32)) (by decide) dX9_behind_136 ?_
      refine J_aload_n (pc := 137) (q := 0) rfl rfl dX9_behind_137 ?_
      refine J_iload (pc := 138) (q := 6) rfl dX9_behind_138 ?_
      refine J_iconst (pc := 140) (v := (-1 : Int32)) (by decide) dX9_behind_140 ?_
      obtain ⟨b141, hb141, g_30⟩ := bnd g_29
      obtain ⟨r141, M141, h141, g_31⟩ := bnd2 g_30
      refine J_callVI (pc := 141) (as := [vI r22, vI (-1 : Int32)]) (tX9_shutBehind (d := d)  h141) cf_X9_shutBehind cv_X9_shutBehind clF9 hb141 ml_RX9_210 (by omega) (Nat.le_of_ble_eq_true rfl) dX9_behind_141 ?_
      obtain ⟨b144, hb144, g_32⟩ := bnd g_31
      obtain ⟨r144, M144, h144, g_33⟩ := bnd2 g_32
      refine J_callVI (pc := 144) (as := [vI r2, vI r8, vI r15, vI (1 : Int32), vI r141]) (tX9_standing (d := d)  h144) cf_X9_standing cv_X9_standing clF9 hb144 ml_RX9_180 (by omega) (Nat.le_of_ble_eq_true rfl) dX9_behind_144 ?_
      exact J_iret (pc := 147) (qi_of g_33) dX9_behind_147
  · rw [if_neg hc33] at g_29
    refine J_iload_n (pc := 36) (q := 2) rfl rfl dX9_behind_36 ?_
    refine J_ifne (pc := 37) (tgt := 72) (by decide) dX9_behind_37 (fun hc37 => ?_) (fun hc37 => ?_)
    · rw [if_pos hc37] at g_29
      refine J_iload_n (pc := 72) (q := 2) rfl rfl dX9_behind_72 ?_
      refine J_aload_n (pc := 73) (q := 0) rfl rfl dX9_behind_73 ?_
      obtain ⟨a74, h74, g_34⟩ := bnd g_29
      refine J_getI (pc := 74) (i := 1) clF9 (by decide) rfl fl_RX9_7 h74 dX9_behind_74 ?_
      refine J_icgt (pc := 77) (tgt := 97) (by decide) dX9_behind_77 (fun hc77 => ?_) (fun hc77 => ?_)
      · rw [if_pos hc77] at g_34
        refine J_iconst (pc := 97) (v := (-1 : Int32)) (by decide) dX9_behind_97 ?_
        exact J_iret (pc := 98) (qi_of g_34) dX9_behind_98
      · rw [if_neg hc77] at g_34
        refine J_aload_n (pc := 80) (q := 0) rfl rfl dX9_behind_80 ?_
        refine J_iload_n (pc := 81) (q := 2) rfl rfl dX9_behind_81 ?_
        refine J_iconst (pc := 82) (v := (1 : Int32)) (by decide) dX9_behind_82 ?_
        refine J_isub (pc := 83) dX9_behind_83 ?_
        refine J_iload (pc := 84) (q := 5) rfl dX9_behind_84 ?_
        refine J_iload_n (pc := 86) (q := 3) rfl rfl dX9_behind_86 ?_
        refine J_iload (pc := 87) (q := 4) rfl dX9_behind_87 ?_
        refine J_iload (pc := 89) (q := 6) rfl dX9_behind_89 ?_
        obtain ⟨b91, hb91, g_35⟩ := bnd g_34
        obtain ⟨r91, M91, h91, g_36⟩ := bnd2 g_35
        refine J_callVI (pc := 91) (as := [vI (x2 - (1 : Int32)), vI r15, vI r2, vI r8, vI r22]) (tX9_mayRun (d := d)  h91) cf_X9_mayRun cv_X9_mayRun clF9 hb91 ml_RX9_213 (by omega) (Nat.le_of_ble_eq_true rfl) dX9_behind_91 ?_
        refine J_ifne (pc := 94) (tgt := 99) (by decide) dX9_behind_94 (fun hc94 => ?_) (fun hc94 => ?_)
        · rw [if_pos hc94] at g_36
          refine J_aload_n (pc := 99) (q := 0) rfl rfl dX9_behind_99 ?_
          refine J_iload_n (pc := 100) (q := 3) rfl rfl dX9_behind_100 ?_
          refine J_iload (pc := 101) (q := 4) rfl dX9_behind_101 ?_
          refine J_aload_n (pc := 103) (q := 0) rfl rfl dX9_behind_103 ?_
          refine J_iload_n (pc := 104) (q := 2) rfl rfl dX9_behind_104 ?_
          refine J_iconst (pc := 105) (v := (1 : Int32)) (by decide) dX9_behind_105 ?_
          refine J_isub (pc := 106) dX9_behind_106 ?_
          refine J_iload (pc := 107) (q := 5) rfl dX9_behind_107 ?_
          obtain ⟨b109, hb109, g_37⟩ := bnd g_36
          obtain ⟨r109, M109, h109, g_38⟩ := bnd2 g_37
          refine J_callVI (pc := 109) (as := [vI (x2 - (1 : Int32)), vI r15]) (tX9_leads (d := d)  h109) cf_X9_leads cv_X9_leads clF9 hb109 ml_RX9_184 (by omega) (Nat.le_of_ble_eq_true rfl) dX9_behind_109 ?_
          refine J_iconst (pc := 112) (v := (0 : Int32)) (by decide) dX9_behind_112 ?_
          refine J_aload_n (pc := 113) (q := 0) rfl rfl dX9_behind_113 ?_
          refine J_iload (pc := 114) (q := 6) rfl dX9_behind_114 ?_
          refine J_iload_n (pc := 116) (q := 2) rfl rfl dX9_behind_116 ?_
          refine J_iconst (pc := 117) (v := (1 : Int32)) (by decide) dX9_behind_117 ?_
          refine J_isub (pc := 118) dX9_behind_118 ?_
          obtain ⟨b119, hb119, g_39⟩ := bnd g_38
          obtain ⟨r119, M119, h119, g_40⟩ := bnd2 g_39
          refine J_callVI (pc := 119) (as := [vI r22, vI (x2 - (1 : Int32))]) (tX9_shutBehind (d := d)  h119) cf_X9_shutBehind cv_X9_shutBehind clF9 hb119 ml_RX9_210 (by omega) (Nat.le_of_ble_eq_true rfl) dX9_behind_119 ?_
          obtain ⟨b122, hb122, g_41⟩ := bnd g_40
          obtain ⟨r122, M122, h122, g_42⟩ := bnd2 g_41
          refine J_callVI (pc := 122) (as := [vI r2, vI r8, vI r109, vI (0 : Int32), vI r119]) (tX9_standing (d := d)  h122) cf_X9_standing cv_X9_standing clF9 hb122 ml_RX9_180 (by omega) (Nat.le_of_ble_eq_true rfl) dX9_behind_122 ?_
          exact J_iret (pc := 125) (qi_of g_42) dX9_behind_125
        · rw [if_neg hc94] at g_36
          refine J_iconst (pc := 97) (v := (-1 : Int32)) (by decide) dX9_behind_97 ?_
          exact J_iret (pc := 98) (qi_of g_36) dX9_behind_98
    · rw [if_neg hc37] at g_29
      refine J_aload_n (pc := 40) (q := 0) rfl rfl dX9_behind_40 ?_
      obtain ⟨a41, h41, g_43⟩ := bnd g_29
      refine J_getR (pc := 41) (i := 7) clF9 (by decide) rfl fl_RX9_29 h41 dX9_behind_41 ?_
      refine J_iload (pc := 44) (q := 5) rfl dX9_behind_44 ?_
      obtain ⟨a46, h46, g_44⟩ := bnd g_43
      refine J_ald1 (pc := 46) h46 dX9_behind_46 ?_
      refine J_ifeq (pc := 47) (tgt := 70) (by decide) dX9_behind_47 (fun hc47 => ?_) (fun hc47 => ?_)
      · rw [if_pos hc47] at g_44
        refine J_iconst (pc := 70) (v := (-1 : Int32)) (by decide) dX9_behind_70 ?_
        exact J_iret (pc := 71) (qi_of g_44) dX9_behind_71
      · rw [if_neg hc47] at g_44
        refine J_aload_n (pc := 50) (q := 0) rfl rfl dX9_behind_50 ?_
        refine J_iload_n (pc := 51) (q := 3) rfl rfl dX9_behind_51 ?_
        refine J_iload (pc := 52) (q := 4) rfl dX9_behind_52 ?_
        refine J_iload (pc := 54) (q := 5) rfl dX9_behind_54 ?_
        refine J_iconst (pc := 56) (v := (0 : Int32)) (by decide) dX9_behind_56 ?_
        refine J_aload_n (pc := 57) (q := 0) rfl rfl dX9_behind_57 ?_
        refine J_iload (pc := 58) (q := 6) rfl dX9_behind_58 ?_
        refine J_iconst (pc := 60) (v := (-1 : Int32)) (by decide) dX9_behind_60 ?_
        obtain ⟨b61, hb61, g_45⟩ := bnd g_44
        obtain ⟨r61, M61, h61, g_46⟩ := bnd2 g_45
        refine J_callVI (pc := 61) (as := [vI r22, vI (-1 : Int32)]) (tX9_shutBehind (d := d)  h61) cf_X9_shutBehind cv_X9_shutBehind clF9 hb61 ml_RX9_210 (by omega) (Nat.le_of_ble_eq_true rfl) dX9_behind_61 ?_
        obtain ⟨b64, hb64, g_47⟩ := bnd g_46
        obtain ⟨r64, M64, h64, g_48⟩ := bnd2 g_47
        refine J_callVI (pc := 64) (as := [vI r2, vI r8, vI r15, vI (0 : Int32), vI r61]) (tX9_standing (d := d)  h64) cf_X9_standing cv_X9_standing clF9 hb64 ml_RX9_180 (by omega) (Nat.le_of_ble_eq_true rfl) dX9_behind_64 ?_
        refine J_goto (pc := 67) (tgt := 71) (by decide) dX9_behind_67 ?_
        exact J_iret (pc := 71) (qi_of g_48) dX9_behind_71
set_option maxHeartbeats 4000000 in
set_option maxRecDepth 100000 in
theorem jX9_movesOf_b39 {ad : Nat → Nat} {ca : Nat → ClassId} {D : va_G} {FU d : Nat} {r : Int32} {N : Mem}  {k4 : Int32 → Int32 → Mem → Option (Int32 × Mem)} {x0 : Nat} {x1 : Int32} {x3 : Int32} {s0 : Int32} {s1 : Int32} {M : Mem}  (hk4 : ∀ (y2 : Int32) (y3 : Int32) (M : Mem), k4 y2 y3 M = some (r, N) → J ad ca D cX9_movesOf RX9 4 (d + 5) (Gt ad ca D (some .int) (QI r N)) 4 [(0, vR (some x0)), (1, vI x1), (2, vI y2), (3, vI y3)] [] M) (h : fX9_movesOf_b39 FU  k4 x0 x1 x3 s0 s1 M = some (r, N)) : J ad ca D cX9_movesOf RX9 4 (d + 5) (Gt ad ca D (some .int) (QI r N)) 39 [(0, vR (some x0)), (1, vI x1), (3, vI x3)] [vI s1, vI s0] M := by
  unfold fX9_movesOf_b39 at h
  refine J_iadd (pc := 39) dX9_movesOf_39 ?_
  refine J_istore_n (pc := 40) rfl (by decide) (lv' := [(0, vR (some x0)), (1, vI x1), (3, vI x3), (2, vI (s0 + s1))]) rfl dX9_movesOf_40 ?_
  refine J_iinc (pc := 41) (q := 2) rfl (v := x3 + (1 : Int32)) rfl (by decide) (lv' := [(0, vR (some x0)), (1, vI x1), (2, vI (s0 + s1)), (3, vI (x3 + (1 : Int32)))]) rfl dX9_movesOf_41 ?_
  refine J_goto (pc := 44) (tgt := 4) (by decide) dX9_movesOf_44 ?_
  exact hk4 _ _ _ h
set_option maxHeartbeats 4000000 in
set_option maxRecDepth 100000 in
theorem jX9_movesOf_b38 {ad : Nat → Nat} {ca : Nat → ClassId} {D : va_G} {FU d : Nat} {r : Int32} {N : Mem}  {k4 : Int32 → Int32 → Mem → Option (Int32 × Mem)} {x0 : Nat} {x1 : Int32} {x3 : Int32} {s0 : Int32} {M : Mem}  (hk4 : ∀ (y2 : Int32) (y3 : Int32) (M : Mem), k4 y2 y3 M = some (r, N) → J ad ca D cX9_movesOf RX9 4 (d + 5) (Gt ad ca D (some .int) (QI r N)) 4 [(0, vR (some x0)), (1, vI x1), (2, vI y2), (3, vI y3)] [] M) (h : fX9_movesOf_b38 FU  k4 x0 x1 x3 s0 M = some (r, N)) : J ad ca D cX9_movesOf RX9 4 (d + 5) (Gt ad ca D (some .int) (QI r N)) 38 [(0, vR (some x0)), (1, vI x1), (3, vI x3)] [vI s0] M := by
  unfold fX9_movesOf_b38 at h
  refine J_iconst (pc := 38) (v := (0 : Int32)) (by decide) dX9_movesOf_38 ?_
  exact jX9_movesOf_b39 hk4 h
set_option maxHeartbeats 4000000 in
set_option maxRecDepth 100000 in
theorem jX9_movesOf_b25 {ad : Nat → Nat} {ca : Nat → ClassId} {D : va_G} {FU d : Nat} {r : Int32} {N : Mem}  {k4 : Int32 → Int32 → Mem → Option (Int32 × Mem)} {x0 : Nat} {x1 : Int32} {x3 : Int32} {s0 : Int32} {M : Mem}  (hk4 : ∀ (y2 : Int32) (y3 : Int32) (M : Mem), k4 y2 y3 M = some (r, N) → J ad ca D cX9_movesOf RX9 4 (d + 5) (Gt ad ca D (some .int) (QI r N)) 4 [(0, vR (some x0)), (1, vI x1), (2, vI y2), (3, vI y3)] [] M) (h : fX9_movesOf_b25 FU  k4 x0 x1 x3 s0 M = some (r, N)) : J ad ca D cX9_movesOf RX9 4 (d + 5) (Gt ad ca D (some .int) (QI r N)) 25 [(0, vR (some x0)), (1, vI x1), (3, vI x3)] [vI s0] M := by
  unfold fX9_movesOf_b25 at h
  refine J_aload_n (pc := 25) (q := 0) rfl rfl dX9_movesOf_25 ?_
  refine J_iload_n (pc := 26) (q := 1) rfl rfl dX9_movesOf_26 ?_
  refine J_iload_n (pc := 27) (q := 2) rfl rfl dX9_movesOf_27 ?_
  obtain ⟨b28, hb28, g_1⟩ := bnd h
  obtain ⟨r28, M28, h28, g_2⟩ := bnd2 g_1
  refine J_callVI (pc := 28) (as := [vI x1, vI x3]) (tX9_behind (d := d)  h28) cf_X9_behind cv_X9_behind clF9 hb28 ml_RX9_220 (by omega) (Nat.le_of_ble_eq_true rfl) dX9_movesOf_28 ?_
  refine J_iflt (pc := 31) (tgt := 38) (by decide) dX9_movesOf_31 (fun hc31 => ?_) (fun hc31 => ?_)
  · rw [if_pos hc31] at g_2
    exact jX9_movesOf_b38 hk4 g_2
  · rw [if_neg hc31] at g_2
    refine J_iconst (pc := 34) (v := (1 : Int32)) (by decide) dX9_movesOf_34 ?_
    refine J_goto (pc := 35) (tgt := 39) (by decide) dX9_movesOf_35 ?_
    exact jX9_movesOf_b39 hk4 g_2
set_option maxHeartbeats 4000000 in
set_option maxRecDepth 100000 in
theorem jX9_movesOf_L4 {ad : Nat → Nat} {ca : Nat → ClassId} {D : va_G} {FU d : Nat} {r : Int32} {N : Mem}   {x0 : Nat} {x1 : Int32}   : ∀ (F : Nat) (x2 : Int32) (x3 : Int32) (M : Mem), fX9_movesOf_L4 FU  x0 x1 F x2 x3 M = some (r, N) → J ad ca D cX9_movesOf RX9 4 (d + 5) (Gt ad ca D (some .int) (QI r N)) 4 [(0, vR (some x0)), (1, vI x1), (2, vI x2), (3, vI x3)] [] M := by
  intro F
  induction F with
  | zero =>
    intro x2 x3 M h
    rw [fX9_movesOf_L4] at h
    cases h
  | succ F hk4 =>
    intro x2 x3 M h
    rw [fX9_movesOf_L4] at h
    refine J_iload_n (pc := 4) (q := 3) rfl rfl dX9_movesOf_4 ?_
    refine J_bipush (pc := 5) (v := (32 : Int32)) (by decide) dX9_movesOf_5 ?_
    refine J_icgt (pc := 7) (tgt := 47) (by decide) dX9_movesOf_7 (fun hc7 => ?_) (fun hc7 => ?_)
    · rw [if_pos hc7] at h
      refine J_iload_n (pc := 47) (q := 2) rfl rfl dX9_movesOf_47 ?_
      exact J_iret (pc := 48) (qi_of h) dX9_movesOf_48
    · rw [if_neg hc7] at h
      refine J_iload_n (pc := 10) (q := 2) rfl rfl dX9_movesOf_10 ?_
      refine J_iload_n (pc := 11) (q := 3) rfl rfl dX9_movesOf_11 ?_
      refine J_bipush (pc := 12) (v := (16 : Int32)) (by decide) dX9_movesOf_12 ?_
      refine J_icle (pc := 14) (tgt := 25) (by decide) dX9_movesOf_14 (fun hc14 => ?_) (fun hc14 => ?_)
      · rw [if_pos hc14] at h
        refine J_sub [0, 1, 3] (lv' := [(0, vR (some x0)), (1, vI x1), (3, vI x3)]) rfl ?_
        exact jX9_movesOf_b25 hk4 h
      · rw [if_neg hc14] at h
        refine J_aload_n (pc := 17) (q := 0) rfl rfl dX9_movesOf_17 ?_
        refine J_iload_n (pc := 18) (q := 1) rfl rfl dX9_movesOf_18 ?_
        obtain ⟨b19, hb19, g_3⟩ := bnd h
        obtain ⟨r19, M19, h19, g_4⟩ := bnd2 g_3
        refine J_callVI (pc := 19) (as := [vI x1]) (tX9_turnOf (d := d)  h19) cf_X9_turnOf cv_X9_turnOf clF9 hb19 ml_RX9_207 (by omega) (Nat.le_of_ble_eq_true rfl) dX9_movesOf_19 ?_
        refine J_ifne (pc := 22) (tgt := 38) (by decide) dX9_movesOf_22 (fun hc22 => ?_) (fun hc22 => ?_)
        · rw [if_pos hc22] at g_4
          refine J_sub [0, 1, 3] (lv' := [(0, vR (some x0)), (1, vI x1), (3, vI x3)]) rfl ?_
          exact jX9_movesOf_b38 hk4 g_4
        · rw [if_neg hc22] at g_4
          refine J_sub [0, 1, 3] (lv' := [(0, vR (some x0)), (1, vI x1), (3, vI x3)]) rfl ?_
          exact jX9_movesOf_b25 hk4 g_4
set_option maxHeartbeats 4000000 in
set_option maxRecDepth 100000 in
theorem tX9_movesOf {ad : Nat → Nat} {ca : Nat → ClassId} {D : va_G} {FU d : Nat} {r : Int32} {N : Mem}  {x0 : Nat} {x1 : Int32} {M : Mem}  (h : fX9_movesOf FU  x0 x1 M = some (r, N)) : Ct ad ca D yX9_movesOf cX9_movesOf 4 (some .int) (d + 5) [vR (some x0), vI x1] M (QI r N) := by
  refine Ct_of (by decide) (Nat.le_of_ble_eq_true rfl) ?_
  show J ad ca D cX9_movesOf RX9 4 (d + 5) (Gt ad ca D (some .int) (QI r N)) 0 [(0, vR (some x0)), (1, vI x1)] [] M
  unfold fX9_movesOf at h
  refine J_iconst (pc := 0) (v := (0 : Int32)) (by decide) dX9_movesOf_0 ?_
  refine J_istore_n (pc := 1) rfl (by decide) (lv' := [(0, vR (some x0)), (1, vI x1), (2, vI (0 : Int32))]) rfl dX9_movesOf_1 ?_
  refine J_iconst (pc := 2) (v := (0 : Int32)) (by decide) dX9_movesOf_2 ?_
  refine J_istore_n (pc := 3) rfl (by decide) (lv' := [(0, vR (some x0)), (1, vI x1), (2, vI (0 : Int32)), (3, vI (0 : Int32))]) rfl dX9_movesOf_3 ?_
  exact jX9_movesOf_L4  FU _ _ _ h
set_option maxHeartbeats 4000000 in
set_option maxRecDepth 100000 in
theorem jX9_isTaken_b26 {ad : Nat → Nat} {ca : Nat → ClassId} {D : va_G} {FU d : Nat} {r : Int32} {N : Mem}    {M : Mem}   (h : fX9_isTaken_b26 FU  M = some (r, N)) : J ad ca D cX9_isTaken RX9 2 (d + 1) (Gt ad ca D (some .boolean) (QI r N)) 26 [] [] M := by
  unfold fX9_isTaken_b26 at h
  refine J_iconst (pc := 26) (v := (1 : Int32)) (by decide) dX9_isTaken_26 ?_
  refine J_goto (pc := 27) (tgt := 31) (by decide) dX9_isTaken_27 ?_
  exact J_zret (pc := 31) (Or.inr rfl) (qi_of h) dX9_isTaken_31
set_option maxHeartbeats 4000000 in
set_option maxRecDepth 100000 in
theorem tX9_isTaken {ad : Nat → Nat} {ca : Nat → ClassId} {D : va_G} {FU d : Nat} {r : Int32} {N : Mem}  {x0 : Nat} {x1 : Int32} {M : Mem}  (h : fX9_isTaken FU  x0 x1 M = some (r, N)) : Ct ad ca D yX9_isTaken cX9_isTaken 2 (some .boolean) (d + 1) [vR (some x0), vI x1] M (QI r N) := by
  refine Ct_of (by decide) (Nat.le_of_ble_eq_true rfl) ?_
  show J ad ca D cX9_isTaken RX9 2 (d + 1) (Gt ad ca D (some .boolean) (QI r N)) 0 [(0, vR (some x0)), (1, vI x1)] [] M
  unfold fX9_isTaken at h
  refine J_aload_n (pc := 0) (q := 0) rfl rfl dX9_isTaken_0 ?_
  refine J_iload_n (pc := 1) (q := 1) rfl rfl dX9_isTaken_1 ?_
  obtain ⟨b2, hb2, g_1⟩ := bnd h
  obtain ⟨r2, M2, h2, g_2⟩ := bnd2 g_1
  refine J_callVI (pc := 2) (as := [vI x1]) (tX9_firstOf (d := d)  h2) cf_X9_firstOf cv_X9_firstOf clF9 hb2 ml_RX9_195 (by omega) (Nat.le_of_ble_eq_true rfl) dX9_isTaken_2 ?_
  refine J_aload_n (pc := 5) (q := 0) rfl rfl dX9_isTaken_5 ?_
  refine J_iload_n (pc := 6) (q := 1) rfl rfl dX9_isTaken_6 ?_
  obtain ⟨b7, hb7, g_3⟩ := bnd g_2
  obtain ⟨r7, M7, h7, g_4⟩ := bnd2 g_3
  refine J_callVI (pc := 7) (as := [vI x1]) (tX9_runnerOf (d := d)  h7) cf_X9_runnerOf cv_X9_runnerOf clF9 hb7 ml_RX9_201 (by omega) (Nat.le_of_ble_eq_true rfl) dX9_isTaken_7 ?_
  refine J_iceq (pc := 10) (tgt := 26) (by decide) dX9_isTaken_10 (fun hc10 => ?_) (fun hc10 => ?_)
  · rw [if_pos hc10] at g_4
    refine J_sub [] (lv' := []) rfl ?_
    exact jX9_isTaken_b26  g_4
  · rw [if_neg hc10] at g_4
    refine J_aload_n (pc := 13) (q := 0) rfl rfl dX9_isTaken_13 ?_
    refine J_iload_n (pc := 14) (q := 1) rfl rfl dX9_isTaken_14 ?_
    obtain ⟨b15, hb15, g_5⟩ := bnd g_4
    obtain ⟨r15, M15, h15, g_6⟩ := bnd2 g_5
    refine J_callVI (pc := 15) (as := [vI x1]) (tX9_secondOf (d := d)  h15) cf_X9_secondOf cv_X9_secondOf clF9 hb15 ml_RX9_198 (by omega) (Nat.le_of_ble_eq_true rfl) dX9_isTaken_15 ?_
    refine J_aload_n (pc := 18) (q := 0) rfl rfl dX9_isTaken_18 ?_
    refine J_iload_n (pc := 19) (q := 1) rfl rfl dX9_isTaken_19 ?_
    obtain ⟨b20, hb20, g_7⟩ := bnd g_6
    obtain ⟨r20, M20, h20, g_8⟩ := bnd2 g_7
    refine J_callVI (pc := 20) (as := [vI x1]) (tX9_runnerOf (d := d)  h20) cf_X9_runnerOf cv_X9_runnerOf clF9 hb20 ml_RX9_201 (by omega) (Nat.le_of_ble_eq_true rfl) dX9_isTaken_20 ?_
    refine J_icne (pc := 23) (tgt := 30) (by decide) dX9_isTaken_23 (fun hc23 => ?_) (fun hc23 => ?_)
    · rw [if_pos hc23] at g_8
      refine J_iconst (pc := 30) (v := (0 : Int32)) (by decide) dX9_isTaken_30 ?_
      exact J_zret (pc := 31) (Or.inl rfl) (qi_of g_8) dX9_isTaken_31
    · rw [if_neg hc23] at g_8
      refine J_sub [] (lv' := []) rfl ?_
      exact jX9_isTaken_b26  g_8
set_option maxHeartbeats 4000000 in
set_option maxRecDepth 100000 in
theorem jX9_isCaught_b25 {ad : Nat → Nat} {ca : Nat → ClassId} {D : va_G} {FU d : Nat} {r : Int32} {N : Mem}    {M : Mem}   (h : fX9_isCaught_b25 FU  M = some (r, N)) : J ad ca D cX9_isCaught RX9 2 (d + 6) (Gt ad ca D (some .boolean) (QI r N)) 25 [] [] M := by
  unfold fX9_isCaught_b25 at h
  refine J_iconst (pc := 25) (v := (1 : Int32)) (by decide) dX9_isCaught_25 ?_
  refine J_goto (pc := 26) (tgt := 30) (by decide) dX9_isCaught_26 ?_
  exact J_zret (pc := 30) (Or.inr rfl) (qi_of h) dX9_isCaught_30
set_option maxHeartbeats 4000000 in
set_option maxRecDepth 100000 in
theorem tX9_isCaught {ad : Nat → Nat} {ca : Nat → ClassId} {D : va_G} {FU d : Nat} {r : Int32} {N : Mem}  {x0 : Nat} {x1 : Int32} {M : Mem}  (h : fX9_isCaught FU  x0 x1 M = some (r, N)) : Ct ad ca D yX9_isCaught cX9_isCaught 2 (some .boolean) (d + 6) [vR (some x0), vI x1] M (QI r N) := by
  refine Ct_of (by decide) (Nat.le_of_ble_eq_true rfl) ?_
  show J ad ca D cX9_isCaught RX9 2 (d + 6) (Gt ad ca D (some .boolean) (QI r N)) 0 [(0, vR (some x0)), (1, vI x1)] [] M
  unfold fX9_isCaught at h
  refine J_aload_n (pc := 0) (q := 0) rfl rfl dX9_isCaught_0 ?_
  refine J_iload_n (pc := 1) (q := 1) rfl rfl dX9_isCaught_1 ?_
  obtain ⟨b2, hb2, g_1⟩ := bnd h
  obtain ⟨r2, M2, h2, g_2⟩ := bnd2 g_1
  refine J_callVI (pc := 2) (as := [vI x1]) (tX9_isTaken (d := d)  h2) cf_X9_isTaken cv_X9_isTaken clF9 hb2 ml_RX9_223 (by omega) (Nat.le_of_ble_eq_true rfl) dX9_isCaught_2 ?_
  refine J_ifne (pc := 5) (tgt := 25) (by decide) dX9_isCaught_5 (fun hc5 => ?_) (fun hc5 => ?_)
  · rw [if_pos hc5] at g_2
    refine J_sub [] (lv' := []) rfl ?_
    exact jX9_isCaught_b25  g_2
  · rw [if_neg hc5] at g_2
    refine J_aload_n (pc := 8) (q := 0) rfl rfl dX9_isCaught_8 ?_
    refine J_iload_n (pc := 9) (q := 1) rfl rfl dX9_isCaught_9 ?_
    obtain ⟨b10, hb10, g_3⟩ := bnd g_2
    obtain ⟨r10, M10, h10, g_4⟩ := bnd2 g_3
    refine J_callVI (pc := 10) (as := [vI x1]) (tX9_turnOf (d := d)  h10) cf_X9_turnOf cv_X9_turnOf clF9 hb10 ml_RX9_207 (by omega) (Nat.le_of_ble_eq_true rfl) dX9_isCaught_10 ?_
    refine J_iconst (pc := 13) (v := (1 : Int32)) (by decide) dX9_isCaught_13 ?_
    refine J_icne (pc := 14) (tgt := 29) (by decide) dX9_isCaught_14 (fun hc14 => ?_) (fun hc14 => ?_)
    · rw [if_pos hc14] at g_4
      refine J_iconst (pc := 29) (v := (0 : Int32)) (by decide) dX9_isCaught_29 ?_
      exact J_zret (pc := 30) (Or.inl rfl) (qi_of g_4) dX9_isCaught_30
    · rw [if_neg hc14] at g_4
      refine J_aload_n (pc := 17) (q := 0) rfl rfl dX9_isCaught_17 ?_
      refine J_iload_n (pc := 18) (q := 1) rfl rfl dX9_isCaught_18 ?_
      obtain ⟨b19, hb19, g_5⟩ := bnd g_4
      obtain ⟨r19, M19, h19, g_6⟩ := bnd2 g_5
      refine J_callVI (pc := 19) (as := [vI x1]) (tX9_movesOf (d := d)  h19) cf_X9_movesOf cv_X9_movesOf clF9 hb19 ml_RX9_226 (by omega) (Nat.le_of_ble_eq_true rfl) dX9_isCaught_19 ?_
      refine J_ifne (pc := 22) (tgt := 29) (by decide) dX9_isCaught_22 (fun hc22 => ?_) (fun hc22 => ?_)
      · rw [if_pos hc22] at g_6
        refine J_iconst (pc := 29) (v := (0 : Int32)) (by decide) dX9_isCaught_29 ?_
        exact J_zret (pc := 30) (Or.inl rfl) (qi_of g_6) dX9_isCaught_30
      · rw [if_neg hc22] at g_6
        refine J_sub [] (lv' := []) rfl ?_
        exact jX9_isCaught_b25  g_6
set_option maxHeartbeats 4000000 in
set_option maxRecDepth 100000 in
theorem jX9_isShutRight_b24 {ad : Nat → Nat} {ca : Nat → ClassId} {D : va_G} {FU d : Nat} {r : Int32} {N : Mem}    {M : Mem}   (h : fX9_isShutRight_b24 FU  M = some (r, N)) : J ad ca D cX9_isShutRight RX9 2 (d + 2) (Gt ad ca D (some .boolean) (QI r N)) 24 [] [] M := by
  unfold fX9_isShutRight_b24 at h
  refine J_iconst (pc := 24) (v := (1 : Int32)) (by decide) dX9_isShutRight_24 ?_
  refine J_goto (pc := 25) (tgt := 29) (by decide) dX9_isShutRight_25 ?_
  exact J_zret (pc := 29) (Or.inr rfl) (qi_of h) dX9_isShutRight_29
set_option maxHeartbeats 4000000 in
set_option maxRecDepth 100000 in
theorem tX9_isShutRight {ad : Nat → Nat} {ca : Nat → ClassId} {D : va_G} {FU d : Nat} {r : Int32} {N : Mem}  {x0 : Nat} {x1 : Int32} {M : Mem}  (h : fX9_isShutRight FU  x0 x1 M = some (r, N)) : Ct ad ca D yX9_isShutRight cX9_isShutRight 2 (some .boolean) (d + 2) [vR (some x0), vI x1] M (QI r N) := by
  refine Ct_of (by decide) (Nat.le_of_ble_eq_true rfl) ?_
  show J ad ca D cX9_isShutRight RX9 2 (d + 2) (Gt ad ca D (some .boolean) (QI r N)) 0 [(0, vR (some x0)), (1, vI x1)] [] M
  unfold fX9_isShutRight at h
  refine J_iload_n (pc := 0) (q := 1) rfl rfl dX9_isShutRight_0 ?_
  refine J_ifeq (pc := 1) (tgt := 24) (by decide) dX9_isShutRight_1 (fun hc1 => ?_) (fun hc1 => ?_)
  · rw [if_pos hc1] at h
    refine J_sub [] (lv' := []) rfl ?_
    exact jX9_isShutRight_b24  h
  · rw [if_neg hc1] at h
    refine J_aload_n (pc := 4) (q := 0) rfl rfl dX9_isShutRight_4 ?_
    obtain ⟨b5, hb5, g_1⟩ := bnd h
    obtain ⟨r5, M5, h5, g_2⟩ := bnd2 g_1
    refine J_callVI (pc := 5) (as := []) (tX9_shutters (d := d)  h5) cf_X9_shutters cv_X9_shutters clF9 hb5 ml_RX9_166 (by omega) (Nat.le_of_ble_eq_true rfl) dX9_isShutRight_5 ?_
    refine J_ifle (pc := 8) (tgt := 28) (by decide) dX9_isShutRight_8 (fun hc8 => ?_) (fun hc8 => ?_)
    · rw [if_pos hc8] at g_2
      refine J_iconst (pc := 28) (v := (0 : Int32)) (by decide) dX9_isShutRight_28 ?_
      exact J_zret (pc := 29) (Or.inl rfl) (qi_of g_2) dX9_isShutRight_29
    · rw [if_neg hc8] at g_2
      refine J_iload_n (pc := 11) (q := 1) rfl rfl dX9_isShutRight_11 ?_
      refine J_iconst (pc := 12) (v := (3 : Int32)) (by decide) dX9_isShutRight_12 ?_
      refine J_iclt (pc := 13) (tgt := 24) (by decide) dX9_isShutRight_13 (fun hc13 => ?_) (fun hc13 => ?_)
      · rw [if_pos hc13] at g_2
        refine J_sub [] (lv' := []) rfl ?_
        exact jX9_isShutRight_b24  g_2
      · rw [if_neg hc13] at g_2
        refine J_aload_n (pc := 16) (q := 0) rfl rfl dX9_isShutRight_16 ?_
        obtain ⟨b17, hb17, g_3⟩ := bnd g_2
        obtain ⟨r17, M17, h17, g_4⟩ := bnd2 g_3
        refine J_callVI (pc := 17) (as := []) (tX9_shutters (d := d)  h17) cf_X9_shutters cv_X9_shutters clF9 hb17 ml_RX9_166 (by omega) (Nat.le_of_ble_eq_true rfl) dX9_isShutRight_17 ?_
        refine J_iconst (pc := 20) (v := (2 : Int32)) (by decide) dX9_isShutRight_20 ?_
        refine J_icne (pc := 21) (tgt := 28) (by decide) dX9_isShutRight_21 (fun hc21 => ?_) (fun hc21 => ?_)
        · rw [if_pos hc21] at g_4
          refine J_iconst (pc := 28) (v := (0 : Int32)) (by decide) dX9_isShutRight_28 ?_
          exact J_zret (pc := 29) (Or.inl rfl) (qi_of g_4) dX9_isShutRight_29
        · rw [if_neg hc21] at g_4
          refine J_sub [] (lv' := []) rfl ?_
          exact jX9_isShutRight_b24  g_4
set_option maxHeartbeats 4000000 in
set_option maxRecDepth 100000 in
theorem jX9_isOne_b58 {ad : Nat → Nat} {ca : Nat → ClassId} {D : va_G} {FU d : Nat} {r : Int32} {N : Mem}   {x0 : Nat} {x1 : Int32} {M : Mem}   (h : fX9_isOne_b58 FU  x0 x1 M = some (r, N)) : J ad ca D cX9_isOne RX9 2 (d + 3) (Gt ad ca D (some .boolean) (QI r N)) 58 [(0, vR (some x0)), (1, vI x1)] [] M := by
  unfold fX9_isOne_b58 at h
  refine J_aload_n (pc := 58) (q := 0) rfl rfl dX9_isOne_58 ?_
  refine J_aload_n (pc := 59) (q := 0) rfl rfl dX9_isOne_59 ?_
  refine J_iload_n (pc := 60) (q := 1) rfl rfl dX9_isOne_60 ?_
  obtain ⟨b61, hb61, g_1⟩ := bnd h
  obtain ⟨r61, M61, h61, g_2⟩ := bnd2 g_1
  refine J_callVI (pc := 61) (as := [vI x1]) (tX9_shutOf (d := d)  h61) cf_X9_shutOf cv_X9_shutOf clF9 hb61 ml_RX9_204 (by omega) (Nat.le_of_ble_eq_true rfl) dX9_isOne_61 ?_
  obtain ⟨b64, hb64, g_3⟩ := bnd g_2
  obtain ⟨r64, M64, h64, g_4⟩ := bnd2 g_3
  refine J_callVI (pc := 64) (as := [vI r61]) (tX9_isShutRight (d := d)  h64) cf_X9_isShutRight cv_X9_isShutRight clF9 hb64 ml_RX9_229 (by omega) (Nat.le_of_ble_eq_true rfl) dX9_isOne_64 ?_
  refine J_ifeq (pc := 67) (tgt := 74) (by decide) dX9_isOne_67 (fun hc67 => ?_) (fun hc67 => ?_)
  · rw [if_pos hc67] at g_4
    refine J_iconst (pc := 74) (v := (0 : Int32)) (by decide) dX9_isOne_74 ?_
    exact J_zret (pc := 75) (Or.inl rfl) (qi_of g_4) dX9_isOne_75
  · rw [if_neg hc67] at g_4
    refine J_iconst (pc := 70) (v := (1 : Int32)) (by decide) dX9_isOne_70 ?_
    refine J_goto (pc := 71) (tgt := 75) (by decide) dX9_isOne_71 ?_
    exact J_zret (pc := 75) (Or.inr rfl) (qi_of g_4) dX9_isOne_75
set_option maxHeartbeats 4000000 in
set_option maxRecDepth 100000 in
theorem tX9_isOne {ad : Nat → Nat} {ca : Nat → ClassId} {D : va_G} {FU d : Nat} {r : Int32} {N : Mem}  {x0 : Nat} {x1 : Int32} {M : Mem}  (h : fX9_isOne FU  x0 x1 M = some (r, N)) : Ct ad ca D yX9_isOne cX9_isOne 2 (some .boolean) (d + 3) [vR (some x0), vI x1] M (QI r N) := by
  refine Ct_of (by decide) (Nat.le_of_ble_eq_true rfl) ?_
  show J ad ca D cX9_isOne RX9 2 (d + 3) (Gt ad ca D (some .boolean) (QI r N)) 0 [(0, vR (some x0)), (1, vI x1)] [] M
  unfold fX9_isOne at h
  refine J_aload_n (pc := 0) (q := 0) rfl rfl dX9_isOne_0 ?_
  refine J_iload_n (pc := 1) (q := 1) rfl rfl dX9_isOne_1 ?_
  obtain ⟨b2, hb2, g_5⟩ := bnd h
  obtain ⟨r2, M2, h2, g_6⟩ := bnd2 g_5
  refine J_callVI (pc := 2) (as := [vI x1]) (tX9_firstOf (d := d)  h2) cf_X9_firstOf cv_X9_firstOf clF9 hb2 ml_RX9_195 (by omega) (Nat.le_of_ble_eq_true rfl) dX9_isOne_2 ?_
  refine J_aload_n (pc := 5) (q := 0) rfl rfl dX9_isOne_5 ?_
  refine J_iload_n (pc := 6) (q := 1) rfl rfl dX9_isOne_6 ?_
  obtain ⟨b7, hb7, g_7⟩ := bnd g_6
  obtain ⟨r7, M7, h7, g_8⟩ := bnd2 g_7
  refine J_callVI (pc := 7) (as := [vI x1]) (tX9_secondOf (d := d)  h7) cf_X9_secondOf cv_X9_secondOf clF9 hb7 ml_RX9_198 (by omega) (Nat.le_of_ble_eq_true rfl) dX9_isOne_7 ?_
  refine J_icgt (pc := 10) (tgt := 74) (by decide) dX9_isOne_10 (fun hc10 => ?_) (fun hc10 => ?_)
  · rw [if_pos hc10] at g_8
    refine J_iconst (pc := 74) (v := (0 : Int32)) (by decide) dX9_isOne_74 ?_
    exact J_zret (pc := 75) (Or.inl rfl) (qi_of g_8) dX9_isOne_75
  · rw [if_neg hc10] at g_8
    refine J_aload_n (pc := 13) (q := 0) rfl rfl dX9_isOne_13 ?_
    refine J_iload_n (pc := 14) (q := 1) rfl rfl dX9_isOne_14 ?_
    obtain ⟨b15, hb15, g_9⟩ := bnd g_8
    obtain ⟨r15, M15, h15, g_10⟩ := bnd2 g_9
    refine J_callVI (pc := 15) (as := [vI x1]) (tX9_secondOf (d := d)  h15) cf_X9_secondOf cv_X9_secondOf clF9 hb15 ml_RX9_198 (by omega) (Nat.le_of_ble_eq_true rfl) dX9_isOne_15 ?_
    refine J_aload_n (pc := 18) (q := 0) rfl rfl dX9_isOne_18 ?_
    obtain ⟨a19, h19, g_11⟩ := bnd g_10
    refine J_getI (pc := 19) (i := 0) clF9 (by decide) rfl fl_RX9_149 h19 dX9_isOne_19 ?_
    refine J_icge (pc := 22) (tgt := 74) (by decide) dX9_isOne_22 (fun hc22 => ?_) (fun hc22 => ?_)
    · rw [if_pos hc22] at g_11
      refine J_iconst (pc := 74) (v := (0 : Int32)) (by decide) dX9_isOne_74 ?_
      exact J_zret (pc := 75) (Or.inl rfl) (qi_of g_11) dX9_isOne_75
    · rw [if_neg hc22] at g_11
      refine J_aload_n (pc := 25) (q := 0) rfl rfl dX9_isOne_25 ?_
      refine J_iload_n (pc := 26) (q := 1) rfl rfl dX9_isOne_26 ?_
      obtain ⟨b27, hb27, g_12⟩ := bnd g_11
      obtain ⟨r27, M27, h27, g_13⟩ := bnd2 g_12
      refine J_callVI (pc := 27) (as := [vI x1]) (tX9_runnerOf (d := d)  h27) cf_X9_runnerOf cv_X9_runnerOf clF9 hb27 ml_RX9_201 (by omega) (Nat.le_of_ble_eq_true rfl) dX9_isOne_27 ?_
      refine J_aload_n (pc := 30) (q := 0) rfl rfl dX9_isOne_30 ?_
      obtain ⟨a31, h31, g_14⟩ := bnd g_13
      refine J_getI (pc := 31) (i := 0) clF9 (by decide) rfl fl_RX9_149 h31 dX9_isOne_31 ?_
      refine J_icge (pc := 34) (tgt := 74) (by decide) dX9_isOne_34 (fun hc34 => ?_) (fun hc34 => ?_)
      · rw [if_pos hc34] at g_14
        refine J_iconst (pc := 74) (v := (0 : Int32)) (by decide) dX9_isOne_74 ?_
        exact J_zret (pc := 75) (Or.inl rfl) (qi_of g_14) dX9_isOne_75
      · rw [if_neg hc34] at g_14
        refine J_aload_n (pc := 37) (q := 0) rfl rfl dX9_isOne_37 ?_
        obtain ⟨a38, h38, g_15⟩ := bnd g_14
        refine J_getI (pc := 38) (i := 2) clF9 (by decide) rfl fl_RX9_13 h38 dX9_isOne_38 ?_
        refine J_iconst (pc := 41) (v := (2 : Int32)) (by decide) dX9_isOne_41 ?_
        refine J_iceq (pc := 42) (tgt := 58) (by decide) dX9_isOne_42 (fun hc42 => ?_) (fun hc42 => ?_)
        · rw [if_pos hc42] at g_15
          exact jX9_isOne_b58  g_15
        · rw [if_neg hc42] at g_15
          refine J_aload_n (pc := 45) (q := 0) rfl rfl dX9_isOne_45 ?_
          refine J_iload_n (pc := 46) (q := 1) rfl rfl dX9_isOne_46 ?_
          obtain ⟨b47, hb47, g_16⟩ := bnd g_15
          obtain ⟨r47, M47, h47, g_17⟩ := bnd2 g_16
          refine J_callVI (pc := 47) (as := [vI x1]) (tX9_firstOf (d := d)  h47) cf_X9_firstOf cv_X9_firstOf clF9 hb47 ml_RX9_195 (by omega) (Nat.le_of_ble_eq_true rfl) dX9_isOne_47 ?_
          refine J_aload_n (pc := 50) (q := 0) rfl rfl dX9_isOne_50 ?_
          refine J_iload_n (pc := 51) (q := 1) rfl rfl dX9_isOne_51 ?_
          obtain ⟨b52, hb52, g_18⟩ := bnd g_17
          obtain ⟨r52, M52, h52, g_19⟩ := bnd2 g_18
          refine J_callVI (pc := 52) (as := [vI x1]) (tX9_secondOf (d := d)  h52) cf_X9_secondOf cv_X9_secondOf clF9 hb52 ml_RX9_198 (by omega) (Nat.le_of_ble_eq_true rfl) dX9_isOne_52 ?_
          refine J_icne (pc := 55) (tgt := 74) (by decide) dX9_isOne_55 (fun hc55 => ?_) (fun hc55 => ?_)
          · rw [if_pos hc55] at g_19
            refine J_iconst (pc := 74) (v := (0 : Int32)) (by decide) dX9_isOne_74 ?_
            exact J_zret (pc := 75) (Or.inl rfl) (qi_of g_19) dX9_isOne_75
          · rw [if_neg hc55] at g_19
            exact jX9_isOne_b58  g_19
set_option maxHeartbeats 4000000 in
set_option maxRecDepth 100000 in
theorem jX9_isOf_b95 {ad : Nat → Nat} {ca : Nat → ClassId} {D : va_G} {FU d : Nat} {r : Int32} {N : Mem}  {k21 : Int32 → Int32 → Mem → Option (Int32 × Mem)} {x0 : Nat} {x1 : Int32} {x2 : Int32} {x3 : Int32} {x4 : Int32} {x5 : Int32} {M : Mem}  (hk21 : ∀ (y4 : Int32) (y5 : Int32) (M : Mem), k21 y4 y5 M = some (r, N) → J ad ca D cX9_isOf RX9 7 (d + 5) (Gt ad ca D (some .boolean) (QI r N)) 21 [(0, vR (some x0)), (1, vI x1), (2, vI x2), (3, vI x3), (4, vI y4), (5, vI y5)] [] M) (h : fX9_isOf_b95 FU  k21 x0 x1 x2 x3 x4 x5 M = some (r, N)) : J ad ca D cX9_isOf RX9 7 (d + 5) (Gt ad ca D (some .boolean) (QI r N)) 95 [(0, vR (some x0)), (1, vI x1), (2, vI x2), (3, vI x3), (4, vI x4), (5, vI x5)] [] M := by
  unfold fX9_isOf_b95 at h
  refine J_iinc (pc := 95) (q := 5) rfl (v := x5 + (1 : Int32)) rfl (by decide) (lv' := [(0, vR (some x0)), (1, vI x1), (2, vI x2), (3, vI x3), (4, vI x4), (5, vI (x5 + (1 : Int32)))]) rfl dX9_isOf_95 ?_
  refine J_goto (pc := 98) (tgt := 21) (by decide) dX9_isOf_98 ?_
  exact hk21 _ _ _ h
set_option maxHeartbeats 4000000 in
set_option maxRecDepth 100000 in
theorem jX9_isOf_b93 {ad : Nat → Nat} {ca : Nat → ClassId} {D : va_G} {FU d : Nat} {r : Int32} {N : Mem}  {k21 : Int32 → Int32 → Mem → Option (Int32 × Mem)} {x0 : Nat} {x1 : Int32} {x2 : Int32} {x3 : Int32} {x5 : Int32} {s0 : Int32} {M : Mem}  (hk21 : ∀ (y4 : Int32) (y5 : Int32) (M : Mem), k21 y4 y5 M = some (r, N) → J ad ca D cX9_isOf RX9 7 (d + 5) (Gt ad ca D (some .boolean) (QI r N)) 21 [(0, vR (some x0)), (1, vI x1), (2, vI x2), (3, vI x3), (4, vI y4), (5, vI y5)] [] M) (h : fX9_isOf_b93 FU  k21 x0 x1 x2 x3 x5 s0 M = some (r, N)) : J ad ca D cX9_isOf RX9 7 (d + 5) (Gt ad ca D (some .boolean) (QI r N)) 93 [(0, vR (some x0)), (1, vI x1), (2, vI x2), (3, vI x3), (5, vI x5)] [vI s0] M := by
  unfold fX9_isOf_b93 at h
  refine J_istore (pc := 93) (by decide) (lv' := [(0, vR (some x0)), (1, vI x1), (2, vI x2), (3, vI x3), (5, vI x5), (4, vI s0)]) rfl dX9_isOf_93 ?_
  refine J_sub [0, 1, 2, 3, 5, 4] (lv' := [(0, vR (some x0)), (1, vI x1), (2, vI x2), (3, vI x3), (4, vI s0), (5, vI x5)]) rfl ?_
  exact jX9_isOf_b95 hk21 h
set_option maxHeartbeats 4000000 in
set_option maxRecDepth 100000 in
theorem jX9_isOf_b88 {ad : Nat → Nat} {ca : Nat → ClassId} {D : va_G} {FU d : Nat} {r : Int32} {N : Mem}  {k21 : Int32 → Int32 → Mem → Option (Int32 × Mem)} {x0 : Nat} {x1 : Int32} {x2 : Int32} {x3 : Int32} {x5 : Int32} {M : Mem}  (hk21 : ∀ (y4 : Int32) (y5 : Int32) (M : Mem), k21 y4 y5 M = some (r, N) → J ad ca D cX9_isOf RX9 7 (d + 5) (Gt ad ca D (some .boolean) (QI r N)) 21 [(0, vR (some x0)), (1, vI x1), (2, vI x2), (3, vI x3), (4, vI y4), (5, vI y5)] [] M) (h : fX9_isOf_b88 FU  k21 x0 x1 x2 x3 x5 M = some (r, N)) : J ad ca D cX9_isOf RX9 7 (d + 5) (Gt ad ca D (some .boolean) (QI r N)) 88 [(0, vR (some x0)), (1, vI x1), (2, vI x2), (3, vI x3), (5, vI x5)] [] M := by
  unfold fX9_isOf_b88 at h
  refine J_iconst (pc := 88) (v := (1 : Int32)) (by decide) dX9_isOf_88 ?_
  refine J_goto (pc := 89) (tgt := 93) (by decide) dX9_isOf_89 ?_
  exact jX9_isOf_b93 hk21 h
set_option maxHeartbeats 4000000 in
set_option maxRecDepth 100000 in
theorem jX9_isOf_b70 {ad : Nat → Nat} {ca : Nat → ClassId} {D : va_G} {FU d : Nat} {r : Int32} {N : Mem}  {k21 : Int32 → Int32 → Mem → Option (Int32 × Mem)} {x0 : Nat} {x1 : Int32} {x2 : Int32} {x3 : Int32} {x4 : Int32} {x5 : Int32} {x6 : Int32} {M : Mem}  (hk21 : ∀ (y4 : Int32) (y5 : Int32) (M : Mem), k21 y4 y5 M = some (r, N) → J ad ca D cX9_isOf RX9 7 (d + 5) (Gt ad ca D (some .boolean) (QI r N)) 21 [(0, vR (some x0)), (1, vI x1), (2, vI x2), (3, vI x3), (4, vI y4), (5, vI y5)] [] M) (h : fX9_isOf_b70 FU  k21 x0 x1 x2 x3 x4 x5 x6 M = some (r, N)) : J ad ca D cX9_isOf RX9 7 (d + 5) (Gt ad ca D (some .boolean) (QI r N)) 70 [(0, vR (some x0)), (1, vI x1), (2, vI x2), (3, vI x3), (4, vI x4), (5, vI x5), (6, vI x6)] [] M := by
  unfold fX9_isOf_b70 at h
  refine J_iload (pc := 70) (q := 4) rfl dX9_isOf_70 ?_
  refine J_ifne (pc := 72) (tgt := 88) (by decide) dX9_isOf_72 (fun hc72 => ?_) (fun hc72 => ?_)
  · rw [if_pos hc72] at h
    refine J_sub [0, 1, 2, 3, 5] (lv' := [(0, vR (some x0)), (1, vI x1), (2, vI x2), (3, vI x3), (5, vI x5)]) rfl ?_
    exact jX9_isOf_b88 hk21 h
  · rw [if_neg hc72] at h
    refine J_aload_n (pc := 75) (q := 0) rfl rfl dX9_isOf_75 ?_
    obtain ⟨a76, h76, g_1⟩ := bnd h
    refine J_getR (pc := 76) (i := 10) clF9 (by decide) rfl fl_RX9_40 h76 dX9_isOf_76 ?_
    refine J_iload (pc := 79) (q := 6) rfl dX9_isOf_79 ?_
    obtain ⟨a81, h81, g_2⟩ := bnd g_1
    refine J_ald0 (pc := 81) h81 dX9_isOf_81 ?_
    refine J_iload_n (pc := 82) (q := 2) rfl rfl dX9_isOf_82 ?_
    refine J_iconst (pc := 83) (v := (1 : Int32)) (by decide) dX9_isOf_83 ?_
    refine J_isub (pc := 84) dX9_isOf_84 ?_
    refine J_icne (pc := 85) (tgt := 92) (by decide) dX9_isOf_85 (fun hc85 => ?_) (fun hc85 => ?_)
    · rw [if_pos hc85] at g_2
      refine J_iconst (pc := 92) (v := (0 : Int32)) (by decide) dX9_isOf_92 ?_
      refine J_sub [0, 1, 2, 3, 5] (lv' := [(0, vR (some x0)), (1, vI x1), (2, vI x2), (3, vI x3), (5, vI x5)]) rfl ?_
      exact jX9_isOf_b93 hk21 g_2
    · rw [if_neg hc85] at g_2
      refine J_sub [0, 1, 2, 3, 5] (lv' := [(0, vR (some x0)), (1, vI x1), (2, vI x2), (3, vI x3), (5, vI x5)]) rfl ?_
      exact jX9_isOf_b88 hk21 g_2
set_option maxHeartbeats 4000000 in
set_option maxRecDepth 100000 in
theorem jX9_isOf_b34 {ad : Nat → Nat} {ca : Nat → ClassId} {D : va_G} {FU d : Nat} {r : Int32} {N : Mem}  {k21 : Int32 → Int32 → Mem → Option (Int32 × Mem)} {x0 : Nat} {x1 : Int32} {x2 : Int32} {x3 : Int32} {x4 : Int32} {x5 : Int32} {s0 : Int32} {s1 : Int32} {M : Mem}  (hk21 : ∀ (y4 : Int32) (y5 : Int32) (M : Mem), k21 y4 y5 M = some (r, N) → J ad ca D cX9_isOf RX9 7 (d + 5) (Gt ad ca D (some .boolean) (QI r N)) 21 [(0, vR (some x0)), (1, vI x1), (2, vI x2), (3, vI x3), (4, vI y4), (5, vI y5)] [] M) (h : fX9_isOf_b34 FU  k21 x0 x1 x2 x3 x4 x5 s0 s1 M = some (r, N)) : J ad ca D cX9_isOf RX9 7 (d + 5) (Gt ad ca D (some .boolean) (QI r N)) 34 [(0, vR (some x0)), (1, vI x1), (2, vI x2), (3, vI x3), (4, vI x4), (5, vI x5)] [vI s1, vI s0] M := by
  unfold fX9_isOf_b34 at h
  refine J_icgt (pc := 34) (tgt := 101) (by decide) dX9_isOf_34 (fun hc34 => ?_) (fun hc34 => ?_)
  · rw [if_pos hc34] at h
    refine J_iload (pc := 101) (q := 4) rfl dX9_isOf_101 ?_
    obtain ⟨hz103, g_3⟩ := grd h
    exact J_zret (pc := 103) hz103 (qi_of g_3) dX9_isOf_103
  · rw [if_neg hc34] at h
    refine J_aload_n (pc := 37) (q := 0) rfl rfl dX9_isOf_37 ?_
    refine J_iload_n (pc := 38) (q := 1) rfl rfl dX9_isOf_38 ?_
    refine J_iload (pc := 39) (q := 5) rfl dX9_isOf_39 ?_
    obtain ⟨b41, hb41, g_4⟩ := bnd h
    obtain ⟨r41, M41, h41, g_5⟩ := bnd2 g_4
    refine J_callVI (pc := 41) (as := [vI x1, vI x5]) (tX9_behind (d := d)  h41) cf_X9_behind cv_X9_behind clF9 hb41 ml_RX9_220 (by omega) (Nat.le_of_ble_eq_true rfl) dX9_isOf_41 ?_
    refine J_istore (pc := 44) (by decide) (lv' := [(0, vR (some x0)), (1, vI x1), (2, vI x2), (3, vI x3), (4, vI x4), (5, vI x5), (6, vI r41)]) rfl dX9_isOf_44 ?_
    refine J_iload (pc := 46) (q := 6) rfl dX9_isOf_46 ?_
    refine J_ifge (pc := 48) (tgt := 54) (by decide) dX9_isOf_48 (fun hc48 => ?_) (fun hc48 => ?_)
    · rw [if_pos hc48] at g_5
      refine J_aload_n (pc := 54) (q := 0) rfl rfl dX9_isOf_54 ?_
      obtain ⟨a55, h55, g_6⟩ := bnd g_5
      refine J_getR (pc := 55) (i := 10) clF9 (by decide) rfl fl_RX9_40 h55 dX9_isOf_55 ?_
      refine J_iload (pc := 58) (q := 6) rfl dX9_isOf_58 ?_
      obtain ⟨a60, h60, g_7⟩ := bnd g_6
      refine J_ald0 (pc := 60) h60 dX9_isOf_60 ?_
      refine J_ifge (pc := 61) (tgt := 70) (by decide) dX9_isOf_61 (fun hc61 => ?_) (fun hc61 => ?_)
      · rw [if_pos hc61] at g_7
        exact jX9_isOf_b70 hk21 g_7
      · rw [if_neg hc61] at g_7
        refine J_iload_n (pc := 64) (q := 3) rfl rfl dX9_isOf_64 ?_
        refine J_ifeq (pc := 65) (tgt := 70) (by decide) dX9_isOf_65 (fun hc65 => ?_) (fun hc65 => ?_)
        · rw [if_pos hc65] at g_7
          exact jX9_isOf_b70 hk21 g_7
        · rw [if_neg hc65] at g_7
          refine J_iconst (pc := 68) (v := (0 : Int32)) (by decide) dX9_isOf_68 ?_
          exact J_zret (pc := 69) (Or.inl rfl) (qi_of g_7) dX9_isOf_69
    · rw [if_neg hc48] at g_5
      refine J_goto (pc := 51) (tgt := 95) (by decide) dX9_isOf_51 ?_
      refine J_sub [0, 1, 2, 3, 4, 5] (lv' := [(0, vR (some x0)), (1, vI x1), (2, vI x2), (3, vI x3), (4, vI x4), (5, vI x5)]) rfl ?_
      exact jX9_isOf_b95 hk21 g_5
set_option maxHeartbeats 4000000 in
set_option maxRecDepth 100000 in
theorem jX9_isOf_L21 {ad : Nat → Nat} {ca : Nat → ClassId} {D : va_G} {FU d : Nat} {r : Int32} {N : Mem}   {x0 : Nat} {x1 : Int32} {x2 : Int32} {x3 : Int32}   : ∀ (F : Nat) (x4 : Int32) (x5 : Int32) (M : Mem), fX9_isOf_L21 FU  x0 x1 x2 x3 F x4 x5 M = some (r, N) → J ad ca D cX9_isOf RX9 7 (d + 5) (Gt ad ca D (some .boolean) (QI r N)) 21 [(0, vR (some x0)), (1, vI x1), (2, vI x2), (3, vI x3), (4, vI x4), (5, vI x5)] [] M := by
  intro F
  induction F with
  | zero =>
    intro x4 x5 M h
    rw [fX9_isOf_L21] at h
    cases h
  | succ F hk21 =>
    intro x4 x5 M h
    rw [fX9_isOf_L21] at h
    refine J_iload (pc := 21) (q := 5) rfl dX9_isOf_21 ?_
    refine J_iload_n (pc := 23) (q := 3) rfl rfl dX9_isOf_23 ?_
    refine J_ifeq (pc := 24) (tgt := 32) (by decide) dX9_isOf_24 (fun hc24 => ?_) (fun hc24 => ?_)
    · rw [if_pos hc24] at h
      refine J_bipush (pc := 32) (v := (32 : Int32)) (by decide) dX9_isOf_32 ?_
      exact jX9_isOf_b34 hk21 h
    · rw [if_neg hc24] at h
      refine J_bipush (pc := 27) (v := (16 : Int32)) (by decide) dX9_isOf_27 ?_
      refine J_goto (pc := 29) (tgt := 34) (by decide) dX9_isOf_29 ?_
      exact jX9_isOf_b34 hk21 h
set_option maxHeartbeats 4000000 in
set_option maxRecDepth 100000 in
theorem jX9_isOf_b14 {ad : Nat → Nat} {ca : Nat → ClassId} {D : va_G} {FU d : Nat} {r : Int32} {N : Mem}   {x0 : Nat} {x1 : Int32} {x2 : Int32} {s0 : Int32} {M : Mem}   (h : fX9_isOf_b14 FU  x0 x1 x2 s0 M = some (r, N)) : J ad ca D cX9_isOf RX9 7 (d + 5) (Gt ad ca D (some .boolean) (QI r N)) 14 [(0, vR (some x0)), (1, vI x1), (2, vI x2)] [vI s0] M := by
  unfold fX9_isOf_b14 at h
  refine J_istore_n (pc := 14) rfl (by decide) (lv' := [(0, vR (some x0)), (1, vI x1), (2, vI x2), (3, vI s0)]) rfl dX9_isOf_14 ?_
  refine J_iconst (pc := 15) (v := (0 : Int32)) (by decide) dX9_isOf_15 ?_
  refine J_istore (pc := 16) (by decide) (lv' := [(0, vR (some x0)), (1, vI x1), (2, vI x2), (3, vI s0), (4, vI (0 : Int32))]) rfl dX9_isOf_16 ?_
  refine J_iconst (pc := 18) (v := (0 : Int32)) (by decide) dX9_isOf_18 ?_
  refine J_istore (pc := 19) (by decide) (lv' := [(0, vR (some x0)), (1, vI x1), (2, vI x2), (3, vI s0), (4, vI (0 : Int32)), (5, vI (0 : Int32))]) rfl dX9_isOf_19 ?_
  exact jX9_isOf_L21  FU _ _ _ h
set_option maxHeartbeats 4000000 in
set_option maxRecDepth 100000 in
theorem tX9_isOf {ad : Nat → Nat} {ca : Nat → ClassId} {D : va_G} {FU d : Nat} {r : Int32} {N : Mem}  {x0 : Nat} {x1 : Int32} {x2 : Int32} {M : Mem}  (h : fX9_isOf FU  x0 x1 x2 M = some (r, N)) : Ct ad ca D yX9_isOf cX9_isOf 7 (some .boolean) (d + 5) [vR (some x0), vI x1, vI x2] M (QI r N) := by
  refine Ct_of (by decide) (Nat.le_of_ble_eq_true rfl) ?_
  show J ad ca D cX9_isOf RX9 7 (d + 5) (Gt ad ca D (some .boolean) (QI r N)) 0 [(0, vR (some x0)), (1, vI x1), (2, vI x2)] [] M
  unfold fX9_isOf at h
  refine J_aload_n (pc := 0) (q := 0) rfl rfl dX9_isOf_0 ?_
  refine J_iload_n (pc := 1) (q := 1) rfl rfl dX9_isOf_1 ?_
  obtain ⟨b2, hb2, g_8⟩ := bnd h
  obtain ⟨r2, M2, h2, g_9⟩ := bnd2 g_8
  refine J_callVI (pc := 2) (as := [vI x1]) (tX9_turnOf (d := d)  h2) cf_X9_turnOf cv_X9_turnOf clF9 hb2 ml_RX9_207 (by omega) (Nat.le_of_ble_eq_true rfl) dX9_isOf_2 ?_
  refine J_iconst (pc := 5) (v := (1 : Int32)) (by decide) dX9_isOf_5 ?_
  refine J_icne (pc := 6) (tgt := 13) (by decide) dX9_isOf_6 (fun hc6 => ?_) (fun hc6 => ?_)
  · rw [if_pos hc6] at g_9
    refine J_iconst (pc := 13) (v := (0 : Int32)) (by decide) dX9_isOf_13 ?_
    exact jX9_isOf_b14  g_9
  · rw [if_neg hc6] at g_9
    refine J_iconst (pc := 9) (v := (1 : Int32)) (by decide) dX9_isOf_9 ?_
    refine J_goto (pc := 10) (tgt := 14) (by decide) dX9_isOf_10 ?_
    exact jX9_isOf_b14  g_9
set_option maxHeartbeats 4000000 in
set_option maxRecDepth 100000 in
theorem jX9_solve_b48 {ad : Nat → Nat} {ca : Nat → ClassId} {D : va_G} {FU d : Nat} {N : Mem}  {k15 : Int32 → Mem → Option (Mem)} {x0 : Nat} {x1 : Int32} {s0 : Option Nat} {s1 : Int32} {s2 : Int32} {M : Mem}  (hk15 : ∀ (y1 : Int32) (M : Mem), k15 y1 M = some N → J ad ca D cX9_solve RX9 4 (d + 7) (Gt ad ca D none (QV N)) 15 [(0, vR (some x0)), (1, vI y1)] [] M) (h : fX9_solve_b48 FU  k15 x0 x1 s0 s1 s2 M = some N) : J ad ca D cX9_solve RX9 4 (d + 7) (Gt ad ca D none (QV N)) 48 [(0, vR (some x0)), (1, vI x1)] [vI s2, vI s1, vR s0] M := by
  unfold fX9_solve_b48 at h
  obtain ⟨M48, h48, g_1⟩ := bnd h
  refine J_ast0 (pc := 48) h48 dX9_solve_48 ?_
  refine J_iinc (pc := 49) (q := 1) rfl (v := x1 + (1 : Int32)) rfl (by decide) (lv' := [(0, vR (some x0)), (1, vI (x1 + (1 : Int32)))]) rfl dX9_solve_49 ?_
  refine J_goto (pc := 52) (tgt := 15) (by decide) dX9_solve_52 ?_
  exact hk15 _ _ g_1
set_option maxHeartbeats 4000000 in
set_option maxRecDepth 100000 in
theorem jX9_solve_b47 {ad : Nat → Nat} {ca : Nat → ClassId} {D : va_G} {FU d : Nat} {N : Mem}  {k15 : Int32 → Mem → Option (Mem)} {x0 : Nat} {x1 : Int32} {s0 : Option Nat} {s1 : Int32} {M : Mem}  (hk15 : ∀ (y1 : Int32) (M : Mem), k15 y1 M = some N → J ad ca D cX9_solve RX9 4 (d + 7) (Gt ad ca D none (QV N)) 15 [(0, vR (some x0)), (1, vI y1)] [] M) (h : fX9_solve_b47 FU  k15 x0 x1 s0 s1 M = some N) : J ad ca D cX9_solve RX9 4 (d + 7) (Gt ad ca D none (QV N)) 47 [(0, vR (some x0)), (1, vI x1)] [vI s1, vR s0] M := by
  unfold fX9_solve_b47 at h
  refine J_iconst (pc := 47) (v := (-1 : Int32)) (by decide) dX9_solve_47 ?_
  exact jX9_solve_b48 hk15 h
set_option maxHeartbeats 4000000 in
set_option maxRecDepth 100000 in
theorem jX9_solve_b110 {ad : Nat → Nat} {ca : Nat → ClassId} {D : va_G} {FU d : Nat} {N : Mem}  {k59 : Int32 → Int32 → Mem → Option (Mem)} {k67 : Int32 → Mem → Option (Mem)} {x0 : Nat} {x1 : Int32} {x2 : Int32} {x3 : Int32} {s0 : Option Nat} {s1 : Int32} {s2 : Int32} {M : Mem}  (hk59 : ∀ (y1 : Int32) (y2 : Int32) (M : Mem), k59 y1 y2 M = some N → J ad ca D cX9_solve RX9 4 (d + 7) (Gt ad ca D none (QV N)) 59 [(0, vR (some x0)), (1, vI y1), (2, vI y2)] [] M) (hk67 : ∀ (y3 : Int32) (M : Mem), k67 y3 M = some N → J ad ca D cX9_solve RX9 4 (d + 7) (Gt ad ca D none (QV N)) 67 [(0, vR (some x0)), (1, vI x1), (2, vI x2), (3, vI y3)] [] M) (h : fX9_solve_b110 FU  k59 k67 x0 x1 x2 x3 s0 s1 s2 M = some N) : J ad ca D cX9_solve RX9 4 (d + 7) (Gt ad ca D none (QV N)) 110 [(0, vR (some x0)), (1, vI x1), (2, vI x2), (3, vI x3)] [vI s2, vI s1, vR s0] M := by
  unfold fX9_solve_b110 at h
  obtain ⟨M110, h110, g_2⟩ := bnd h
  refine J_ast1 (pc := 110) h110 dX9_solve_110 ?_
  refine J_iinc (pc := 111) (q := 3) rfl (v := x3 + (1 : Int32)) rfl (by decide) (lv' := [(0, vR (some x0)), (1, vI x1), (2, vI x2), (3, vI (x3 + (1 : Int32)))]) rfl dX9_solve_111 ?_
  refine J_goto (pc := 114) (tgt := 67) (by decide) dX9_solve_114 ?_
  exact hk67 _ _ g_2
set_option maxHeartbeats 4000000 in
set_option maxRecDepth 100000 in
theorem jX9_solve_b109 {ad : Nat → Nat} {ca : Nat → ClassId} {D : va_G} {FU d : Nat} {N : Mem}  {k59 : Int32 → Int32 → Mem → Option (Mem)} {k67 : Int32 → Mem → Option (Mem)} {x0 : Nat} {x1 : Int32} {x2 : Int32} {x3 : Int32} {s0 : Option Nat} {s1 : Int32} {M : Mem}  (hk59 : ∀ (y1 : Int32) (y2 : Int32) (M : Mem), k59 y1 y2 M = some N → J ad ca D cX9_solve RX9 4 (d + 7) (Gt ad ca D none (QV N)) 59 [(0, vR (some x0)), (1, vI y1), (2, vI y2)] [] M) (hk67 : ∀ (y3 : Int32) (M : Mem), k67 y3 M = some N → J ad ca D cX9_solve RX9 4 (d + 7) (Gt ad ca D none (QV N)) 67 [(0, vR (some x0)), (1, vI x1), (2, vI x2), (3, vI y3)] [] M) (h : fX9_solve_b109 FU  k59 k67 x0 x1 x2 x3 s0 s1 M = some N) : J ad ca D cX9_solve RX9 4 (d + 7) (Gt ad ca D none (QV N)) 109 [(0, vR (some x0)), (1, vI x1), (2, vI x2), (3, vI x3)] [vI s1, vR s0] M := by
  unfold fX9_solve_b109 at h
  refine J_iconst (pc := 109) (v := (0 : Int32)) (by decide) dX9_solve_109 ?_
  exact jX9_solve_b110 hk59 hk67 h
set_option maxHeartbeats 4000000 in
set_option maxRecDepth 100000 in
theorem jX9_solve_b147 {ad : Nat → Nat} {ca : Nat → ClassId} {D : va_G} {FU d : Nat} {N : Mem}  {k59 : Int32 → Int32 → Mem → Option (Mem)} {k119 : Int32 → Int32 → Mem → Option (Mem)} {x0 : Nat} {x1 : Int32} {x2 : Int32} {x3 : Int32} {M : Mem}  (hk59 : ∀ (y1 : Int32) (y2 : Int32) (M : Mem), k59 y1 y2 M = some N → J ad ca D cX9_solve RX9 4 (d + 7) (Gt ad ca D none (QV N)) 59 [(0, vR (some x0)), (1, vI y1), (2, vI y2)] [] M) (hk119 : ∀ (y1 : Int32) (y3 : Int32) (M : Mem), k119 y1 y3 M = some N → J ad ca D cX9_solve RX9 4 (d + 7) (Gt ad ca D none (QV N)) 119 [(0, vR (some x0)), (1, vI y1), (2, vI x2), (3, vI y3)] [] M) (h : fX9_solve_b147 FU  k59 k119 x0 x1 x2 x3 M = some N) : J ad ca D cX9_solve RX9 4 (d + 7) (Gt ad ca D none (QV N)) 147 [(0, vR (some x0)), (1, vI x1), (2, vI x2), (3, vI x3)] [] M := by
  unfold fX9_solve_b147 at h
  refine J_iinc (pc := 147) (q := 3) rfl (v := x3 + (1 : Int32)) rfl (by decide) (lv' := [(0, vR (some x0)), (1, vI x1), (2, vI x2), (3, vI (x3 + (1 : Int32)))]) rfl dX9_solve_147 ?_
  refine J_goto (pc := 150) (tgt := 119) (by decide) dX9_solve_150 ?_
  exact hk119 _ _ _ h
set_option maxHeartbeats 4000000 in
set_option maxRecDepth 100000 in
theorem jX9_solve_L119 {ad : Nat → Nat} {ca : Nat → ClassId} {D : va_G} {FU d : Nat} {N : Mem}  {k59 : Int32 → Int32 → Mem → Option (Mem)} {x0 : Nat} {x2 : Int32}  (hk59 : ∀ (y1 : Int32) (y2 : Int32) (M : Mem), k59 y1 y2 M = some N → J ad ca D cX9_solve RX9 4 (d + 7) (Gt ad ca D none (QV N)) 59 [(0, vR (some x0)), (1, vI y1), (2, vI y2)] [] M) : ∀ (F : Nat) (x1 : Int32) (x3 : Int32) (M : Mem), fX9_solve_L119 FU  k59 x0 x2 F x1 x3 M = some N → J ad ca D cX9_solve RX9 4 (d + 7) (Gt ad ca D none (QV N)) 119 [(0, vR (some x0)), (1, vI x1), (2, vI x2), (3, vI x3)] [] M := by
  intro F
  induction F with
  | zero =>
    intro x1 x3 M h
    rw [fX9_solve_L119] at h
    cases h
  | succ F hk119 =>
    intro x1 x3 M h
    rw [fX9_solve_L119] at h
    refine J_iload_n (pc := 119) (q := 3) rfl rfl dX9_solve_119 ?_
    refine J_sipush (pc := 120) (v := (9216 : Int32)) (by decide) dX9_solve_120 ?_
    refine J_icge (pc := 123) (tgt := 153) (by decide) dX9_solve_123 (fun hc123 => ?_) (fun hc123 => ?_)
    · rw [if_pos hc123] at h
      refine J_iinc (pc := 153) (q := 2) rfl (v := x2 + (1 : Int32)) rfl (by decide) (lv' := [(0, vR (some x0)), (1, vI x1), (3, vI x3), (2, vI (x2 + (1 : Int32)))]) rfl dX9_solve_153 ?_
      refine J_goto (pc := 156) (tgt := 59) (by decide) dX9_solve_156 ?_
      refine J_sub [0, 1, 3] (lv' := [(0, vR (some x0)), (1, vI x1), (2, vI (x2 + (1 : Int32)))]) rfl ?_
      exact hk59 _ _ _ h
    · rw [if_neg hc123] at h
      refine J_aload_n (pc := 126) (q := 0) rfl rfl dX9_solve_126 ?_
      obtain ⟨a127, h127, g_3⟩ := bnd h
      refine J_getR (pc := 127) (i := 11) clF9 (by decide) rfl fl_RX9_43 h127 dX9_solve_127 ?_
      refine J_iload_n (pc := 130) (q := 3) rfl rfl dX9_solve_130 ?_
      obtain ⟨a131, h131, g_4⟩ := bnd g_3
      refine J_ald1 (pc := 131) h131 dX9_solve_131 ?_
      refine J_ifne (pc := 132) (tgt := 138) (by decide) dX9_solve_132 (fun hc132 => ?_) (fun hc132 => ?_)
      · rw [if_pos hc132] at g_4
        refine J_aload_n (pc := 138) (q := 0) rfl rfl dX9_solve_138 ?_
        obtain ⟨a139, h139, g_5⟩ := bnd g_4
        refine J_getR (pc := 139) (i := 10) clF9 (by decide) rfl fl_RX9_40 h139 dX9_solve_139 ?_
        refine J_iload_n (pc := 142) (q := 3) rfl rfl dX9_solve_142 ?_
        refine J_iload_n (pc := 143) (q := 2) rfl rfl dX9_solve_143 ?_
        obtain ⟨M144, h144, g_6⟩ := bnd g_5
        refine J_ast0 (pc := 144) h144 dX9_solve_144 ?_
        refine J_iconst (pc := 145) (v := (1 : Int32)) (by decide) dX9_solve_145 ?_
        refine J_istore_n (pc := 146) rfl (by decide) (lv' := [(0, vR (some x0)), (2, vI x2), (3, vI x3), (1, vI (1 : Int32))]) rfl dX9_solve_146 ?_
        refine J_sub [0, 3, 1, 2] (lv' := [(0, vR (some x0)), (1, vI (1 : Int32)), (2, vI x2), (3, vI x3)]) rfl ?_
        exact jX9_solve_b147 hk59 hk119 g_6
      · rw [if_neg hc132] at g_4
        refine J_goto (pc := 135) (tgt := 147) (by decide) dX9_solve_135 ?_
        exact jX9_solve_b147 hk59 hk119 g_4
set_option maxHeartbeats 4000000 in
set_option maxRecDepth 100000 in
theorem jX9_solve_L67 {ad : Nat → Nat} {ca : Nat → ClassId} {D : va_G} {FU d : Nat} {N : Mem}  {k59 : Int32 → Int32 → Mem → Option (Mem)} {x0 : Nat} {x1 : Int32} {x2 : Int32}  (hk59 : ∀ (y1 : Int32) (y2 : Int32) (M : Mem), k59 y1 y2 M = some N → J ad ca D cX9_solve RX9 4 (d + 7) (Gt ad ca D none (QV N)) 59 [(0, vR (some x0)), (1, vI y1), (2, vI y2)] [] M) : ∀ (F : Nat) (x3 : Int32) (M : Mem), fX9_solve_L67 FU  k59 x0 x1 x2 F x3 M = some N → J ad ca D cX9_solve RX9 4 (d + 7) (Gt ad ca D none (QV N)) 67 [(0, vR (some x0)), (1, vI x1), (2, vI x2), (3, vI x3)] [] M := by
  intro F
  induction F with
  | zero =>
    intro x3 M h
    rw [fX9_solve_L67] at h
    cases h
  | succ F hk67 =>
    intro x3 M h
    rw [fX9_solve_L67] at h
    refine J_iload_n (pc := 67) (q := 3) rfl rfl dX9_solve_67 ?_
    refine J_sipush (pc := 68) (v := (9216 : Int32)) (by decide) dX9_solve_68 ?_
    refine J_icge (pc := 71) (tgt := 117) (by decide) dX9_solve_71 (fun hc71 => ?_) (fun hc71 => ?_)
    · rw [if_pos hc71] at h
      refine J_iconst (pc := 117) (v := (0 : Int32)) (by decide) dX9_solve_117 ?_
      refine J_istore_n (pc := 118) rfl (by decide) (lv' := [(0, vR (some x0)), (1, vI x1), (2, vI x2), (3, vI (0 : Int32))]) rfl dX9_solve_118 ?_
      exact jX9_solve_L119 hk59 FU _ _ _ h
    · rw [if_neg hc71] at h
      refine J_aload_n (pc := 74) (q := 0) rfl rfl dX9_solve_74 ?_
      obtain ⟨a75, h75, g_7⟩ := bnd h
      refine J_getR (pc := 75) (i := 11) clF9 (by decide) rfl fl_RX9_43 h75 dX9_solve_75 ?_
      refine J_iload_n (pc := 78) (q := 3) rfl rfl dX9_solve_78 ?_
      refine J_aload_n (pc := 79) (q := 0) rfl rfl dX9_solve_79 ?_
      obtain ⟨a80, h80, g_8⟩ := bnd g_7
      refine J_getR (pc := 80) (i := 10) clF9 (by decide) rfl fl_RX9_40 h80 dX9_solve_80 ?_
      refine J_iload_n (pc := 83) (q := 3) rfl rfl dX9_solve_83 ?_
      obtain ⟨a84, h84, g_9⟩ := bnd g_8
      refine J_ald0 (pc := 84) h84 dX9_solve_84 ?_
      refine J_ifge (pc := 85) (tgt := 109) (by decide) dX9_solve_85 (fun hc85 => ?_) (fun hc85 => ?_)
      · rw [if_pos hc85] at g_9
        exact jX9_solve_b109 hk59 hk67 g_9
      · rw [if_neg hc85] at g_9
        refine J_aload_n (pc := 88) (q := 0) rfl rfl dX9_solve_88 ?_
        refine J_iload_n (pc := 89) (q := 3) rfl rfl dX9_solve_89 ?_
        obtain ⟨b90, hb90, g_10⟩ := bnd g_9
        obtain ⟨r90, M90, h90, g_11⟩ := bnd2 g_10
        refine J_callVI (pc := 90) (as := [vI x3]) (tX9_isOne (d := d)  h90) cf_X9_isOne cv_X9_isOne clF9 hb90 ml_RX9_232 (by omega) (Nat.le_of_ble_eq_true rfl) dX9_solve_90 ?_
        refine J_ifeq (pc := 93) (tgt := 109) (by decide) dX9_solve_93 (fun hc93 => ?_) (fun hc93 => ?_)
        · rw [if_pos hc93] at g_11
          exact jX9_solve_b109 hk59 hk67 g_11
        · rw [if_neg hc93] at g_11
          refine J_aload_n (pc := 96) (q := 0) rfl rfl dX9_solve_96 ?_
          refine J_iload_n (pc := 97) (q := 3) rfl rfl dX9_solve_97 ?_
          refine J_iload_n (pc := 98) (q := 2) rfl rfl dX9_solve_98 ?_
          obtain ⟨b99, hb99, g_12⟩ := bnd g_11
          obtain ⟨r99, M99, h99, g_13⟩ := bnd2 g_12
          refine J_callVI (pc := 99) (as := [vI x3, vI x2]) (tX9_isOf (d := d)  h99) cf_X9_isOf cv_X9_isOf clF9 hb99 ml_RX9_238 (by omega) (Nat.le_of_ble_eq_true rfl) dX9_solve_99 ?_
          refine J_ifeq (pc := 102) (tgt := 109) (by decide) dX9_solve_102 (fun hc102 => ?_) (fun hc102 => ?_)
          · rw [if_pos hc102] at g_13
            exact jX9_solve_b109 hk59 hk67 g_13
          · rw [if_neg hc102] at g_13
            refine J_iconst (pc := 105) (v := (1 : Int32)) (by decide) dX9_solve_105 ?_
            refine J_goto (pc := 106) (tgt := 110) (by decide) dX9_solve_106 ?_
            exact jX9_solve_b110 hk59 hk67 g_13
set_option maxHeartbeats 4000000 in
set_option maxRecDepth 100000 in
theorem jX9_solve_L59 {ad : Nat → Nat} {ca : Nat → ClassId} {D : va_G} {FU d : Nat} {N : Mem}   {x0 : Nat}   : ∀ (F : Nat) (x1 : Int32) (x2 : Int32) (M : Mem), fX9_solve_L59 FU  x0 F x1 x2 M = some N → J ad ca D cX9_solve RX9 4 (d + 7) (Gt ad ca D none (QV N)) 59 [(0, vR (some x0)), (1, vI x1), (2, vI x2)] [] M := by
  intro F
  induction F with
  | zero =>
    intro x1 x2 M h
    rw [fX9_solve_L59] at h
    cases h
  | succ F hk59 =>
    intro x1 x2 M h
    rw [fX9_solve_L59] at h
    refine J_iload_n (pc := 59) (q := 1) rfl rfl dX9_solve_59 ?_
    refine J_ifeq (pc := 60) (tgt := 159) (by decide) dX9_solve_60 (fun hc60 => ?_) (fun hc60 => ?_)
    · rw [if_pos hc60] at h
      exact J_vret (pc := 159) (qv_of h) dX9_solve_159
    · rw [if_neg hc60] at h
      refine J_iconst (pc := 63) (v := (0 : Int32)) (by decide) dX9_solve_63 ?_
      refine J_istore_n (pc := 64) rfl (by decide) (lv' := [(0, vR (some x0)), (2, vI x2), (1, vI (0 : Int32))]) rfl dX9_solve_64 ?_
      refine J_iconst (pc := 65) (v := (0 : Int32)) (by decide) dX9_solve_65 ?_
      refine J_istore_n (pc := 66) rfl (by decide) (lv' := [(0, vR (some x0)), (2, vI x2), (1, vI (0 : Int32)), (3, vI (0 : Int32))]) rfl dX9_solve_66 ?_
      refine J_sub [0, 2, 1, 3] (lv' := [(0, vR (some x0)), (1, vI (0 : Int32)), (2, vI x2), (3, vI (0 : Int32))]) rfl ?_
      exact jX9_solve_L67 hk59 FU _ _ h
set_option maxHeartbeats 4000000 in
set_option maxRecDepth 100000 in
theorem jX9_solve_L15 {ad : Nat → Nat} {ca : Nat → ClassId} {D : va_G} {FU d : Nat} {N : Mem}   {x0 : Nat}   : ∀ (F : Nat) (x1 : Int32) (M : Mem), fX9_solve_L15 FU  x0 F x1 M = some N → J ad ca D cX9_solve RX9 4 (d + 7) (Gt ad ca D none (QV N)) 15 [(0, vR (some x0)), (1, vI x1)] [] M := by
  intro F
  induction F with
  | zero =>
    intro x1 M h
    rw [fX9_solve_L15] at h
    cases h
  | succ F hk15 =>
    intro x1 M h
    rw [fX9_solve_L15] at h
    refine J_iload_n (pc := 15) (q := 1) rfl rfl dX9_solve_15 ?_
    refine J_sipush (pc := 16) (v := (9216 : Int32)) (by decide) dX9_solve_16 ?_
    refine J_icge (pc := 19) (tgt := 55) (by decide) dX9_solve_19 (fun hc19 => ?_) (fun hc19 => ?_)
    · rw [if_pos hc19] at h
      refine J_iconst (pc := 55) (v := (1 : Int32)) (by decide) dX9_solve_55 ?_
      refine J_istore_n (pc := 56) rfl (by decide) (lv' := [(0, vR (some x0)), (1, vI (1 : Int32))]) rfl dX9_solve_56 ?_
      refine J_iconst (pc := 57) (v := (1 : Int32)) (by decide) dX9_solve_57 ?_
      refine J_istore_n (pc := 58) rfl (by decide) (lv' := [(0, vR (some x0)), (1, vI (1 : Int32)), (2, vI (1 : Int32))]) rfl dX9_solve_58 ?_
      exact jX9_solve_L59  FU _ _ _ h
    · rw [if_neg hc19] at h
      refine J_aload_n (pc := 22) (q := 0) rfl rfl dX9_solve_22 ?_
      obtain ⟨a23, h23, g_14⟩ := bnd h
      refine J_getR (pc := 23) (i := 10) clF9 (by decide) rfl fl_RX9_40 h23 dX9_solve_23 ?_
      refine J_iload_n (pc := 26) (q := 1) rfl rfl dX9_solve_26 ?_
      refine J_aload_n (pc := 27) (q := 0) rfl rfl dX9_solve_27 ?_
      refine J_iload_n (pc := 28) (q := 1) rfl rfl dX9_solve_28 ?_
      obtain ⟨b29, hb29, g_15⟩ := bnd g_14
      obtain ⟨r29, M29, h29, g_16⟩ := bnd2 g_15
      refine J_callVI (pc := 29) (as := [vI x1]) (tX9_isOne (d := d)  h29) cf_X9_isOne cv_X9_isOne clF9 hb29 ml_RX9_232 (by omega) (Nat.le_of_ble_eq_true rfl) dX9_solve_29 ?_
      refine J_ifeq (pc := 32) (tgt := 47) (by decide) dX9_solve_32 (fun hc32 => ?_) (fun hc32 => ?_)
      · rw [if_pos hc32] at g_16
        exact jX9_solve_b47 hk15 g_16
      · rw [if_neg hc32] at g_16
        refine J_aload_n (pc := 35) (q := 0) rfl rfl dX9_solve_35 ?_
        refine J_iload_n (pc := 36) (q := 1) rfl rfl dX9_solve_36 ?_
        obtain ⟨b37, hb37, g_17⟩ := bnd g_16
        obtain ⟨r37, M37, h37, g_18⟩ := bnd2 g_17
        refine J_callVI (pc := 37) (as := [vI x1]) (tX9_isCaught (d := d)  h37) cf_X9_isCaught cv_X9_isCaught clF9 hb37 ml_RX9_235 (by omega) (Nat.le_of_ble_eq_true rfl) dX9_solve_37 ?_
        refine J_ifeq (pc := 40) (tgt := 47) (by decide) dX9_solve_40 (fun hc40 => ?_) (fun hc40 => ?_)
        · rw [if_pos hc40] at g_18
          exact jX9_solve_b47 hk15 g_18
        · rw [if_neg hc40] at g_18
          refine J_iconst (pc := 43) (v := (0 : Int32)) (by decide) dX9_solve_43 ?_
          refine J_goto (pc := 44) (tgt := 48) (by decide) dX9_solve_44 ?_
          exact jX9_solve_b48 hk15 g_18
set_option maxHeartbeats 4000000 in
set_option maxRecDepth 100000 in
theorem tX9_solve {ad : Nat → Nat} {ca : Nat → ClassId} {D : va_G} {FU d : Nat} {N : Mem}  {x0 : Nat} {M : Mem}  (h : fX9_solve FU  x0 M = some N) : Ct ad ca D yX9_solve cX9_solve 4 none (d + 7) [vR (some x0)] M (QV N) := by
  refine Ct_of (by decide) (Nat.le_of_ble_eq_true rfl) ?_
  show J ad ca D cX9_solve RX9 4 (d + 7) (Gt ad ca D none (QV N)) 0 [(0, vR (some x0))] [] M
  unfold fX9_solve at h
  refine J_aload_n (pc := 0) (q := 0) rfl rfl dX9_solve_0 ?_
  obtain ⟨a1, h1, g_19⟩ := bnd h
  refine J_getI (pc := 1) (i := 9) clF9 (by decide) rfl fl_RX9_36 h1 dX9_solve_1 ?_
  refine J_ifeq (pc := 4) (tgt := 8) (by decide) dX9_solve_4 (fun hc4 => ?_) (fun hc4 => ?_)
  · rw [if_pos hc4] at g_19
    refine J_aload_n (pc := 8) (q := 0) rfl rfl dX9_solve_8 ?_
    refine J_iconst (pc := 9) (v := (1 : Int32)) (by decide) dX9_solve_9 ?_
    obtain ⟨M10, h10, g_20⟩ := bnd g_19
    refine J_putZ (pc := 10) (i := 9) clF9 (by decide) rfl fl_RX9_36 rfl rfl (Or.inr rfl) h10 dX9_solve_10 ?_
    refine J_iconst (pc := 13) (v := (0 : Int32)) (by decide) dX9_solve_13 ?_
    refine J_istore_n (pc := 14) rfl (by decide) (lv' := [(0, vR (some x0)), (1, vI (0 : Int32))]) rfl dX9_solve_14 ?_
    exact jX9_solve_L15  FU _ _ g_20
  · rw [if_neg hc4] at g_19
    exact J_vret (pc := 7) (qv_of g_19) dX9_solve_7
set_option maxHeartbeats 4000000 in
set_option maxRecDepth 100000 in
theorem jX9_standingOf_b88 {ad : Nat → Nat} {ca : Nat → ClassId} {D : va_G} {FU d : Nat} {r : Int32} {N : Mem}   {x0 : Nat} {x1 : Int32} {x3 : Int32} {x4 : Int32} {x5 : Int32} {x6 : Int32} {M : Mem}   (h : fX9_standingOf_b88 FU  x0 x1 x3 x4 x5 x6 M = some (r, N)) : J ad ca D cX9_standingOf RX9 7 (d + 3) (Gt ad ca D (some .int) (QI r N)) 88 [(0, vR (some x0)), (1, vI x1), (3, vI x3), (4, vI x4), (5, vI x5), (6, vI x6)] [] M := by
  unfold fX9_standingOf_b88 at h
  refine J_aload_n (pc := 88) (q := 0) rfl rfl dX9_standingOf_88 ?_
  refine J_iload_n (pc := 89) (q := 1) rfl rfl dX9_standingOf_89 ?_
  refine J_iload (pc := 90) (q := 5) rfl dX9_standingOf_90 ?_
  refine J_iload_n (pc := 92) (q := 2) rfl rfl dX9_standingOf_92 ?_
  refine J_iload (pc := 93) (q := 3) rfl dX9_standingOf_93 ?_
  refine J_iload (pc := 95) (q := 4) rfl dX9_standingOf_95 ?_
  obtain ⟨b97, hb97, g_1⟩ := bnd h
  obtain ⟨r97, M97, h97, g_2⟩ := bnd2 g_1
  refine J_callVI (pc := 97) (as := [vI x1, vI x6, vI x3, vI x4, vI x5]) (tX9_sorted (d := d)  h97) cf_X9_sorted cv_X9_sorted clF9 hb97 ml_RX9_217 (by omega) (Nat.le_of_ble_eq_true rfl) dX9_standingOf_97 ?_
  exact J_iret (pc := 100) (qi_of g_2) dX9_standingOf_100
set_option maxHeartbeats 4000000 in
set_option maxRecDepth 100000 in
theorem jX9_standingOf_b13 {ad : Nat → Nat} {ca : Nat → ClassId} {D : va_G} {FU d : Nat} {r : Int32} {N : Mem}   {x0 : Nat} {x1 : Int32} {x3 : Int32} {x4 : Int32} {x5 : Int32} {s0 : Int32} {M : Mem}   (h : fX9_standingOf_b13 FU  x0 x1 x3 x4 x5 s0 M = some (r, N)) : J ad ca D cX9_standingOf RX9 7 (d + 3) (Gt ad ca D (some .int) (QI r N)) 13 [(0, vR (some x0)), (1, vI x1), (3, vI x3), (4, vI x4), (5, vI x5)] [vI s0] M := by
  unfold fX9_standingOf_b13 at h
  refine J_istore (pc := 13) (by decide) (lv' := [(0, vR (some x0)), (1, vI x1), (3, vI x3), (4, vI x4), (5, vI x5), (6, vI s0)]) rfl dX9_standingOf_13 ?_
  refine J_aload_n (pc := 15) (q := 0) rfl rfl dX9_standingOf_15 ?_
  refine J_iload_n (pc := 16) (q := 1) rfl rfl dX9_standingOf_16 ?_
  obtain ⟨b17, hb17, g_3⟩ := bnd h
  obtain ⟨r17, M17, h17, g_4⟩ := bnd2 g_3
  refine J_callVI (pc := 17) (as := [vI x1]) (tX9_isPlace (d := d)  h17) cf_X9_isPlace cv_X9_isPlace clF9 hb17 ml_RX9_163 (by omega) (Nat.le_of_ble_eq_true rfl) dX9_standingOf_17 ?_
  refine J_ifeq (pc := 20) (tgt := 86) (by decide) dX9_standingOf_20 (fun hc20 => ?_) (fun hc20 => ?_)
  · rw [if_pos hc20] at g_4
    refine J_iconst (pc := 86) (v := (-1 : Int32)) (by decide) dX9_standingOf_86 ?_
    exact J_iret (pc := 87) (qi_of g_4) dX9_standingOf_87
  · rw [if_neg hc20] at g_4
    refine J_aload_n (pc := 23) (q := 0) rfl rfl dX9_standingOf_23 ?_
    refine J_iload (pc := 24) (q := 5) rfl dX9_standingOf_24 ?_
    obtain ⟨b26, hb26, g_5⟩ := bnd g_4
    obtain ⟨r26, M26, h26, g_6⟩ := bnd2 g_5
    refine J_callVI (pc := 26) (as := [vI s0]) (tX9_isPlace (d := d)  h26) cf_X9_isPlace cv_X9_isPlace clF9 hb26 ml_RX9_163 (by omega) (Nat.le_of_ble_eq_true rfl) dX9_standingOf_26 ?_
    refine J_ifeq (pc := 29) (tgt := 86) (by decide) dX9_standingOf_29 (fun hc29 => ?_) (fun hc29 => ?_)
    · rw [if_pos hc29] at g_6
      refine J_iconst (pc := 86) (v := (-1 : Int32)) (by decide) dX9_standingOf_86 ?_
      exact J_iret (pc := 87) (qi_of g_6) dX9_standingOf_87
    · rw [if_neg hc29] at g_6
      refine J_aload_n (pc := 32) (q := 0) rfl rfl dX9_standingOf_32 ?_
      refine J_iload_n (pc := 33) (q := 2) rfl rfl dX9_standingOf_33 ?_
      obtain ⟨b34, hb34, g_7⟩ := bnd g_6
      obtain ⟨r34, M34, h34, g_8⟩ := bnd2 g_7
      refine J_callVI (pc := 34) (as := [vI x3]) (tX9_isPlace (d := d)  h34) cf_X9_isPlace cv_X9_isPlace clF9 hb34 ml_RX9_163 (by omega) (Nat.le_of_ble_eq_true rfl) dX9_standingOf_34 ?_
      refine J_ifeq (pc := 37) (tgt := 86) (by decide) dX9_standingOf_37 (fun hc37 => ?_) (fun hc37 => ?_)
      · rw [if_pos hc37] at g_8
        refine J_iconst (pc := 86) (v := (-1 : Int32)) (by decide) dX9_standingOf_86 ?_
        exact J_iret (pc := 87) (qi_of g_8) dX9_standingOf_87
      · rw [if_neg hc37] at g_8
        refine J_aload_n (pc := 40) (q := 0) rfl rfl dX9_standingOf_40 ?_
        refine J_iload (pc := 41) (q := 3) rfl dX9_standingOf_41 ?_
        refine J_iconst (pc := 43) (v := (0 : Int32)) (by decide) dX9_standingOf_43 ?_
        refine J_iconst (pc := 44) (v := (1 : Int32)) (by decide) dX9_standingOf_44 ?_
        obtain ⟨b45, hb45, g_9⟩ := bnd g_8
        obtain ⟨r45, M45, h45, g_10⟩ := bnd2 g_9
        refine J_callVI (pc := 45) (as := [vI x4, vI (0 : Int32), vI (1 : Int32)]) (tX9_in (d := d)  h45) cf_X9_in cv_X9_in clF9 hb45 ml_RX9_155 (by omega) (Nat.le_of_ble_eq_true rfl) dX9_standingOf_45 ?_
        refine J_ifeq (pc := 48) (tgt := 86) (by decide) dX9_standingOf_48 (fun hc48 => ?_) (fun hc48 => ?_)
        · rw [if_pos hc48] at g_10
          refine J_iconst (pc := 86) (v := (-1 : Int32)) (by decide) dX9_standingOf_86 ?_
          exact J_iret (pc := 87) (qi_of g_10) dX9_standingOf_87
        · rw [if_neg hc48] at g_10
          refine J_aload_n (pc := 51) (q := 0) rfl rfl dX9_standingOf_51 ?_
          refine J_iload (pc := 52) (q := 4) rfl dX9_standingOf_52 ?_
          refine J_iconst (pc := 54) (v := (0 : Int32)) (by decide) dX9_standingOf_54 ?_
          refine J_bipush (pc := 55) (v := (8 : Int32)) (by decide) dX9_standingOf_55 ?_
          obtain ⟨b57, hb57, g_11⟩ := bnd g_10
          obtain ⟨r57, M57, h57, g_12⟩ := bnd2 g_11
          refine J_callVI (pc := 57) (as := [vI x5, vI (0 : Int32), vI (8 : Int32)]) (tX9_in (d := d)  h57) cf_X9_in cv_X9_in clF9 hb57 ml_RX9_155 (by omega) (Nat.le_of_ble_eq_true rfl) dX9_standingOf_57 ?_
          refine J_ifeq (pc := 60) (tgt := 86) (by decide) dX9_standingOf_60 (fun hc60 => ?_) (fun hc60 => ?_)
          · rw [if_pos hc60] at g_12
            refine J_iconst (pc := 86) (v := (-1 : Int32)) (by decide) dX9_standingOf_86 ?_
            exact J_iret (pc := 87) (qi_of g_12) dX9_standingOf_87
          · rw [if_neg hc60] at g_12
            refine J_aload_n (pc := 63) (q := 0) rfl rfl dX9_standingOf_63 ?_
            refine J_iload (pc := 64) (q := 4) rfl dX9_standingOf_64 ?_
            obtain ⟨b66, hb66, g_13⟩ := bnd g_12
            obtain ⟨r66, M66, h66, g_14⟩ := bnd2 g_13
            refine J_callVI (pc := 66) (as := [vI x5]) (tX9_isShutRight (d := d)  h66) cf_X9_isShutRight cv_X9_isShutRight clF9 hb66 ml_RX9_229 (by omega) (Nat.le_of_ble_eq_true rfl) dX9_standingOf_66 ?_
            refine J_ifeq (pc := 69) (tgt := 86) (by decide) dX9_standingOf_69 (fun hc69 => ?_) (fun hc69 => ?_)
            · rw [if_pos hc69] at g_14
              refine J_iconst (pc := 86) (v := (-1 : Int32)) (by decide) dX9_standingOf_86 ?_
              exact J_iret (pc := 87) (qi_of g_14) dX9_standingOf_87
            · rw [if_neg hc69] at g_14
              refine J_iload (pc := 72) (q := 4) rfl dX9_standingOf_72 ?_
              refine J_iconst (pc := 74) (v := (3 : Int32)) (by decide) dX9_standingOf_74 ?_
              refine J_irem (pc := 75) (by decide) dX9_standingOf_75 ?_
              refine J_ifle (pc := 76) (tgt := 88) (by decide) dX9_standingOf_76 (fun hc76 => ?_) (fun hc76 => ?_)
              · rw [if_pos hc76] at g_14
                exact jX9_standingOf_b88  g_14
              · rw [if_neg hc76] at g_14
                refine J_aload_n (pc := 79) (q := 0) rfl rfl dX9_standingOf_79 ?_
                obtain ⟨b80, hb80, g_15⟩ := bnd g_14
                obtain ⟨r80, M80, h80, g_16⟩ := bnd2 g_15
                refine J_callVI (pc := 80) (as := []) (tX9_shutters (d := d)  h80) cf_X9_shutters cv_X9_shutters clF9 hb80 ml_RX9_166 (by omega) (Nat.le_of_ble_eq_true rfl) dX9_standingOf_80 ?_
                refine J_ifne (pc := 83) (tgt := 88) (by decide) dX9_standingOf_83 (fun hc83 => ?_) (fun hc83 => ?_)
                · rw [if_pos hc83] at g_16
                  exact jX9_standingOf_b88  g_16
                · rw [if_neg hc83] at g_16
                  refine J_iconst (pc := 86) (v := (-1 : Int32)) (by decide) dX9_standingOf_86 ?_
                  exact J_iret (pc := 87) (qi_of g_16) dX9_standingOf_87
set_option maxHeartbeats 4000000 in
set_option maxRecDepth 100000 in
theorem tX9_standingOf {ad : Nat → Nat} {ca : Nat → ClassId} {D : va_G} {FU d : Nat} {r : Int32} {N : Mem}  {x0 : Nat} {x1 : Int32} {x2 : Int32} {x3 : Int32} {x4 : Int32} {x5 : Int32} {M : Mem}  (h : fX9_standingOf FU  x0 x1 x2 x3 x4 x5 M = some (r, N)) : Ct ad ca D yX9_standingOf cX9_standingOf 7 (some .int) (d + 3) [vR (some x0), vI x1, vI x2, vI x3, vI x4, vI x5] M (QI r N) := by
  refine Ct_of (by decide) (Nat.le_of_ble_eq_true rfl) ?_
  show J ad ca D cX9_standingOf RX9 7 (d + 3) (Gt ad ca D (some .int) (QI r N)) 0 [(0, vR (some x0)), (1, vI x1), (2, vI x2), (3, vI x3), (4, vI x4), (5, vI x5)] [] M
  unfold fX9_standingOf at h
  refine J_aload_n (pc := 0) (q := 0) rfl rfl dX9_standingOf_0 ?_
  obtain ⟨a1, h1, g_17⟩ := bnd h
  refine J_getI (pc := 1) (i := 2) clF9 (by decide) rfl fl_RX9_13 h1 dX9_standingOf_1 ?_
  refine J_iconst (pc := 4) (v := (1 : Int32)) (by decide) dX9_standingOf_4 ?_
  refine J_icne (pc := 5) (tgt := 12) (by decide) dX9_standingOf_5 (fun hc5 => ?_) (fun hc5 => ?_)
  · rw [if_pos hc5] at g_17
    refine J_iload_n (pc := 12) (q := 2) rfl rfl dX9_standingOf_12 ?_
    refine J_sub [0, 1, 3, 4, 5] (lv' := [(0, vR (some x0)), (1, vI x1), (3, vI x3), (4, vI x4), (5, vI x5)]) rfl ?_
    exact jX9_standingOf_b13  g_17
  · rw [if_neg hc5] at g_17
    refine J_iload_n (pc := 8) (q := 1) rfl rfl dX9_standingOf_8 ?_
    refine J_goto (pc := 9) (tgt := 13) (by decide) dX9_standingOf_9 ?_
    refine J_sub [0, 1, 3, 4, 5] (lv' := [(0, vR (some x0)), (1, vI x1), (3, vI x3), (4, vI x4), (5, vI x5)]) rfl ?_
    exact jX9_standingOf_b13  g_17
set_option maxHeartbeats 4000000 in
set_option maxRecDepth 100000 in
theorem tX9_length {ad : Nat → Nat} {ca : Nat → ClassId} {D : va_G} {FU d : Nat} {r : Int32} {N : Mem}  {x0 : Nat} {x1 : Int32} {x2 : Int32} {x3 : Int32} {x4 : Int32} {x5 : Int32} {M : Mem}  (h : fX9_length FU  x0 x1 x2 x3 x4 x5 M = some (r, N)) : Ct ad ca D yX9_length cX9_length 7 (some .int) (d + 8) [vR (some x0), vI x1, vI x2, vI x3, vI x4, vI x5] M (QI r N) := by
  refine Ct_of (by decide) (Nat.le_of_ble_eq_true rfl) ?_
  show J ad ca D cX9_length RX9 7 (d + 8) (Gt ad ca D (some .int) (QI r N)) 0 [(0, vR (some x0)), (1, vI x1), (2, vI x2), (3, vI x3), (4, vI x4), (5, vI x5)] [] M
  unfold fX9_length at h
  refine J_aload_n (pc := 0) (q := 0) rfl rfl dX9_length_0 ?_
  refine J_iload_n (pc := 1) (q := 1) rfl rfl dX9_length_1 ?_
  refine J_iload_n (pc := 2) (q := 2) rfl rfl dX9_length_2 ?_
  refine J_iload_n (pc := 3) (q := 3) rfl rfl dX9_length_3 ?_
  refine J_iload (pc := 4) (q := 4) rfl dX9_length_4 ?_
  refine J_iload (pc := 6) (q := 5) rfl dX9_length_6 ?_
  obtain ⟨b8, hb8, g_1⟩ := bnd h
  obtain ⟨r8, M8, h8, g_2⟩ := bnd2 g_1
  refine J_callVI (pc := 8) (as := [vI x1, vI x2, vI x3, vI x4, vI x5]) (tX9_standingOf (d := d)  h8) cf_X9_standingOf cv_X9_standingOf clF9 hb8 ml_RX9_241 (by omega) (Nat.le_of_ble_eq_true rfl) dX9_length_8 ?_
  refine J_istore (pc := 11) (by decide) (lv' := [(0, vR (some x0)), (1, vI x1), (2, vI x2), (3, vI x3), (4, vI x4), (5, vI x5), (6, vI r8)]) rfl dX9_length_11 ?_
  refine J_iload (pc := 13) (q := 6) rfl dX9_length_13 ?_
  refine J_ifge (pc := 15) (tgt := 21) (by decide) dX9_length_15 (fun hc15 => ?_) (fun hc15 => ?_)
  · rw [if_pos hc15] at g_2
    refine J_aload_n (pc := 21) (q := 0) rfl rfl dX9_length_21 ?_
    obtain ⟨b22, hb22, g_3⟩ := bnd g_2
    obtain ⟨M22, h22, g_4⟩ := bnd g_3
    refine J_callVV (pc := 22) (as := []) (tX9_solve (d := d)  h22) cf_X9_solve cv_X9_solve clF9 hb22 ml_RX9_244 (by omega) (Nat.le_of_ble_eq_true rfl) dX9_length_22 ?_
    refine J_aload_n (pc := 25) (q := 0) rfl rfl dX9_length_25 ?_
    obtain ⟨a26, h26, g_5⟩ := bnd g_4
    refine J_getR (pc := 26) (i := 10) clF9 (by decide) rfl fl_RX9_40 h26 dX9_length_26 ?_
    refine J_iload (pc := 29) (q := 6) rfl dX9_length_29 ?_
    obtain ⟨a31, h31, g_6⟩ := bnd g_5
    refine J_ald0 (pc := 31) h31 dX9_length_31 ?_
    exact J_iret (pc := 32) (qi_of g_6) dX9_length_32
  · rw [if_neg hc15] at g_2
    refine J_bipush (pc := 18) (v := (-2 : Int32)) (by decide) dX9_length_18 ?_
    exact J_iret (pc := 20) (qi_of g_2) dX9_length_20
set_option maxHeartbeats 4000000 in
set_option maxRecDepth 100000 in
theorem jX9_bestOf_b118 {ad : Nat → Nat} {ca : Nat → ClassId} {D : va_G} {FU d : Nat} {r : Int32} {N : Mem}  {k27 : Int32 → Int32 → Int32 → Mem → Option (Int32 × Mem)} {x0 : Nat} {x1 : Int32} {x2 : Int32} {x3 : Int32} {x4 : Int32} {x5 : Int32} {M : Mem}  (hk27 : ∀ (y2 : Int32) (y3 : Int32) (y5 : Int32) (M : Mem), k27 y2 y3 y5 M = some (r, N) → J ad ca D cX9_bestOf RX9 8 (d + 8) (Gt ad ca D (some .int) (QI r N)) 27 [(0, vR (some x0)), (1, vI x1), (2, vI y2), (3, vI y3), (4, vI x4), (5, vI y5)] [] M) (h : fX9_bestOf_b118 FU  k27 x0 x1 x2 x3 x4 x5 M = some (r, N)) : J ad ca D cX9_bestOf RX9 8 (d + 8) (Gt ad ca D (some .int) (QI r N)) 118 [(0, vR (some x0)), (1, vI x1), (2, vI x2), (3, vI x3), (4, vI x4), (5, vI x5)] [] M := by
  unfold fX9_bestOf_b118 at h
  refine J_iinc (pc := 118) (q := 5) rfl (v := x5 + (1 : Int32)) rfl (by decide) (lv' := [(0, vR (some x0)), (1, vI x1), (2, vI x2), (3, vI x3), (4, vI x4), (5, vI (x5 + (1 : Int32)))]) rfl dX9_bestOf_118 ?_
  refine J_goto (pc := 121) (tgt := 27) (by decide) dX9_bestOf_121 ?_
  exact hk27 _ _ _ _ h
set_option maxHeartbeats 4000000 in
set_option maxRecDepth 100000 in
theorem jX9_bestOf_b112 {ad : Nat → Nat} {ca : Nat → ClassId} {D : va_G} {FU d : Nat} {r : Int32} {N : Mem}  {k27 : Int32 → Int32 → Int32 → Mem → Option (Int32 × Mem)} {x0 : Nat} {x1 : Int32} {x4 : Int32} {x5 : Int32} {x7 : Int32} {M : Mem}  (hk27 : ∀ (y2 : Int32) (y3 : Int32) (y5 : Int32) (M : Mem), k27 y2 y3 y5 M = some (r, N) → J ad ca D cX9_bestOf RX9 8 (d + 8) (Gt ad ca D (some .int) (QI r N)) 27 [(0, vR (some x0)), (1, vI x1), (2, vI y2), (3, vI y3), (4, vI x4), (5, vI y5)] [] M) (h : fX9_bestOf_b112 FU  k27 x0 x1 x4 x5 x7 M = some (r, N)) : J ad ca D cX9_bestOf RX9 8 (d + 8) (Gt ad ca D (some .int) (QI r N)) 112 [(0, vR (some x0)), (1, vI x1), (4, vI x4), (5, vI x5), (7, vI x7)] [] M := by
  unfold fX9_bestOf_b112 at h
  refine J_iload (pc := 112) (q := 3) rfl dX9_bestOf_112 ?_
  refine J_istore_n (pc := 114) rfl (by decide) (lv' := [(0, vR (some x0)), (1, vI x1), (4, vI x4), (5, vI x5), (7, vI x7), (2, vI x5)]) rfl dX9_bestOf_114 ?_
  refine J_iload (pc := 115) (q := 4) rfl dX9_bestOf_115 ?_
  refine J_istore_n (pc := 117) rfl (by decide) (lv' := [(0, vR (some x0)), (1, vI x1), (4, vI x4), (5, vI x5), (7, vI x7), (2, vI x5), (3, vI x7)]) rfl dX9_bestOf_117 ?_
  refine J_sub [0, 1, 5, 6, 2, 3] (lv' := [(0, vR (some x0)), (1, vI x1), (2, vI x5), (3, vI x7), (4, vI x4), (5, vI x5)]) rfl ?_
  exact jX9_bestOf_b118 hk27 h
set_option maxHeartbeats 4000000 in
set_option maxRecDepth 100000 in
theorem jX9_bestOf_b83 {ad : Nat → Nat} {ca : Nat → ClassId} {D : va_G} {FU d : Nat} {r : Int32} {N : Mem}  {k27 : Int32 → Int32 → Int32 → Mem → Option (Int32 × Mem)} {x0 : Nat} {x1 : Int32} {x2 : Int32} {x3 : Int32} {x4 : Int32} {x5 : Int32} {s0 : Int32} {M : Mem}  (hk27 : ∀ (y2 : Int32) (y3 : Int32) (y5 : Int32) (M : Mem), k27 y2 y3 y5 M = some (r, N) → J ad ca D cX9_bestOf RX9 8 (d + 8) (Gt ad ca D (some .int) (QI r N)) 27 [(0, vR (some x0)), (1, vI x1), (2, vI y2), (3, vI y3), (4, vI x4), (5, vI y5)] [] M) (h : fX9_bestOf_b83 FU  k27 x0 x1 x2 x3 x4 x5 s0 M = some (r, N)) : J ad ca D cX9_bestOf RX9 8 (d + 8) (Gt ad ca D (some .int) (QI r N)) 83 [(0, vR (some x0)), (1, vI x1), (2, vI x2), (3, vI x3), (4, vI x4), (5, vI x5)] [vI s0] M := by
  unfold fX9_bestOf_b83 at h
  refine J_istore (pc := 83) (by decide) (lv' := [(0, vR (some x0)), (1, vI x1), (2, vI x2), (3, vI x3), (4, vI x4), (5, vI x5), (7, vI s0)]) rfl dX9_bestOf_83 ?_
  refine J_iload_n (pc := 85) (q := 2) rfl rfl dX9_bestOf_85 ?_
  refine J_iflt (pc := 86) (tgt := 112) (by decide) dX9_bestOf_86 (fun hc86 => ?_) (fun hc86 => ?_)
  · rw [if_pos hc86] at h
    refine J_sub [0, 1, 4, 5, 6] (lv' := [(0, vR (some x0)), (1, vI x1), (4, vI x4), (5, vI x5), (7, vI s0)]) rfl ?_
    exact jX9_bestOf_b112 hk27 h
  · rw [if_neg hc86] at h
    refine J_iload (pc := 89) (q := 4) rfl dX9_bestOf_89 ?_
    refine J_ifeq (pc := 91) (tgt := 103) (by decide) dX9_bestOf_91 (fun hc91 => ?_) (fun hc91 => ?_)
    · rw [if_pos hc91] at h
      refine J_iload (pc := 103) (q := 6) rfl dX9_bestOf_103 ?_
      refine J_iload_n (pc := 105) (q := 3) rfl rfl dX9_bestOf_105 ?_
      refine J_iclt (pc := 106) (tgt := 112) (by decide) dX9_bestOf_106 (fun hc106 => ?_) (fun hc106 => ?_)
      · rw [if_pos hc106] at h
        refine J_sub [0, 1, 4, 5, 6] (lv' := [(0, vR (some x0)), (1, vI x1), (4, vI x4), (5, vI x5), (7, vI s0)]) rfl ?_
        exact jX9_bestOf_b112 hk27 h
      · rw [if_neg hc106] at h
        refine J_goto (pc := 109) (tgt := 118) (by decide) dX9_bestOf_109 ?_
        refine J_sub [0, 1, 2, 3, 4, 5] (lv' := [(0, vR (some x0)), (1, vI x1), (2, vI x2), (3, vI x3), (4, vI x4), (5, vI x5)]) rfl ?_
        exact jX9_bestOf_b118 hk27 h
    · rw [if_neg hc91] at h
      refine J_iload (pc := 94) (q := 6) rfl dX9_bestOf_94 ?_
      refine J_iload_n (pc := 96) (q := 3) rfl rfl dX9_bestOf_96 ?_
      refine J_icgt (pc := 97) (tgt := 112) (by decide) dX9_bestOf_97 (fun hc97 => ?_) (fun hc97 => ?_)
      · rw [if_pos hc97] at h
        refine J_sub [0, 1, 4, 5, 6] (lv' := [(0, vR (some x0)), (1, vI x1), (4, vI x4), (5, vI x5), (7, vI s0)]) rfl ?_
        exact jX9_bestOf_b112 hk27 h
      · rw [if_neg hc97] at h
        refine J_goto (pc := 100) (tgt := 118) (by decide) dX9_bestOf_100 ?_
        refine J_sub [0, 1, 2, 3, 4, 5] (lv' := [(0, vR (some x0)), (1, vI x1), (2, vI x2), (3, vI x3), (4, vI x4), (5, vI x5)]) rfl ?_
        exact jX9_bestOf_b118 hk27 h
set_option maxHeartbeats 4000000 in
set_option maxRecDepth 100000 in
theorem jX9_bestOf_b41 {ad : Nat → Nat} {ca : Nat → ClassId} {D : va_G} {FU d : Nat} {r : Int32} {N : Mem}  {k27 : Int32 → Int32 → Int32 → Mem → Option (Int32 × Mem)} {x0 : Nat} {x1 : Int32} {x2 : Int32} {x3 : Int32} {x4 : Int32} {x5 : Int32} {s0 : Int32} {s1 : Int32} {M : Mem}  (hk27 : ∀ (y2 : Int32) (y3 : Int32) (y5 : Int32) (M : Mem), k27 y2 y3 y5 M = some (r, N) → J ad ca D cX9_bestOf RX9 8 (d + 8) (Gt ad ca D (some .int) (QI r N)) 27 [(0, vR (some x0)), (1, vI x1), (2, vI y2), (3, vI y3), (4, vI x4), (5, vI y5)] [] M) (h : fX9_bestOf_b41 FU  k27 x0 x1 x2 x3 x4 x5 s0 s1 M = some (r, N)) : J ad ca D cX9_bestOf RX9 8 (d + 8) (Gt ad ca D (some .int) (QI r N)) 41 [(0, vR (some x0)), (1, vI x1), (2, vI x2), (3, vI x3), (4, vI x4), (5, vI x5)] [vI s1, vI s0] M := by
  unfold fX9_bestOf_b41 at h
  refine J_icgt (pc := 41) (tgt := 124) (by decide) dX9_bestOf_41 (fun hc41 => ?_) (fun hc41 => ?_)
  · rw [if_pos hc41] at h
    refine J_iload_n (pc := 124) (q := 2) rfl rfl dX9_bestOf_124 ?_
    exact J_iret (pc := 125) (qi_of h) dX9_bestOf_125
  · rw [if_neg hc41] at h
    refine J_aload_n (pc := 44) (q := 0) rfl rfl dX9_bestOf_44 ?_
    refine J_iload_n (pc := 45) (q := 1) rfl rfl dX9_bestOf_45 ?_
    refine J_iload (pc := 46) (q := 5) rfl dX9_bestOf_46 ?_
    obtain ⟨b48, hb48, g_1⟩ := bnd h
    obtain ⟨r48, M48, h48, g_2⟩ := bnd2 g_1
    refine J_callVI (pc := 48) (as := [vI x1, vI x5]) (tX9_behind (d := d)  h48) cf_X9_behind cv_X9_behind clF9 hb48 ml_RX9_220 (by omega) (Nat.le_of_ble_eq_true rfl) dX9_bestOf_48 ?_
    refine J_istore (pc := 51) (by decide) (lv' := [(0, vR (some x0)), (1, vI x1), (2, vI x2), (3, vI x3), (4, vI x4), (5, vI x5), (6, vI r48)]) rfl dX9_bestOf_51 ?_
    refine J_iload (pc := 53) (q := 6) rfl dX9_bestOf_53 ?_
    refine J_ifge (pc := 55) (tgt := 61) (by decide) dX9_bestOf_55 (fun hc55 => ?_) (fun hc55 => ?_)
    · rw [if_pos hc55] at g_2
      refine J_aload_n (pc := 61) (q := 0) rfl rfl dX9_bestOf_61 ?_
      obtain ⟨a62, h62, g_3⟩ := bnd g_2
      refine J_getR (pc := 62) (i := 10) clF9 (by decide) rfl fl_RX9_40 h62 dX9_bestOf_62 ?_
      refine J_iload (pc := 65) (q := 6) rfl dX9_bestOf_65 ?_
      obtain ⟨a67, h67, g_4⟩ := bnd g_3
      refine J_ald0 (pc := 67) h67 dX9_bestOf_67 ?_
      refine J_ifge (pc := 68) (tgt := 76) (by decide) dX9_bestOf_68 (fun hc68 => ?_) (fun hc68 => ?_)
      · rw [if_pos hc68] at g_4
        refine J_aload_n (pc := 76) (q := 0) rfl rfl dX9_bestOf_76 ?_
        obtain ⟨a77, h77, g_5⟩ := bnd g_4
        refine J_getR (pc := 77) (i := 10) clF9 (by decide) rfl fl_RX9_40 h77 dX9_bestOf_77 ?_
        refine J_iload (pc := 80) (q := 6) rfl dX9_bestOf_80 ?_
        obtain ⟨a82, h82, g_6⟩ := bnd g_5
        refine J_ald0 (pc := 82) h82 dX9_bestOf_82 ?_
        refine J_sub [0, 1, 2, 3, 4, 5] (lv' := [(0, vR (some x0)), (1, vI x1), (2, vI x2), (3, vI x3), (4, vI x4), (5, vI x5)]) rfl ?_
        exact jX9_bestOf_b83 hk27 g_6
      · rw [if_neg hc68] at g_4
        refine J_ldc (pc := 71) cn_RX9_247 dX9_bestOf_71 ?_
        refine J_goto (pc := 73) (tgt := 83) (by decide) dX9_bestOf_73 ?_
        refine J_sub [0, 1, 2, 3, 4, 5] (lv' := [(0, vR (some x0)), (1, vI x1), (2, vI x2), (3, vI x3), (4, vI x4), (5, vI x5)]) rfl ?_
        exact jX9_bestOf_b83 hk27 g_4
    · rw [if_neg hc55] at g_2
      refine J_goto (pc := 58) (tgt := 118) (by decide) dX9_bestOf_58 ?_
      refine J_sub [0, 1, 2, 3, 4, 5] (lv' := [(0, vR (some x0)), (1, vI x1), (2, vI x2), (3, vI x3), (4, vI x4), (5, vI x5)]) rfl ?_
      exact jX9_bestOf_b118 hk27 g_2
set_option maxHeartbeats 4000000 in
set_option maxRecDepth 100000 in
theorem jX9_bestOf_L27 {ad : Nat → Nat} {ca : Nat → ClassId} {D : va_G} {FU d : Nat} {r : Int32} {N : Mem}   {x0 : Nat} {x1 : Int32} {x4 : Int32}   : ∀ (F : Nat) (x2 : Int32) (x3 : Int32) (x5 : Int32) (M : Mem), fX9_bestOf_L27 FU  x0 x1 x4 F x2 x3 x5 M = some (r, N) → J ad ca D cX9_bestOf RX9 8 (d + 8) (Gt ad ca D (some .int) (QI r N)) 27 [(0, vR (some x0)), (1, vI x1), (2, vI x2), (3, vI x3), (4, vI x4), (5, vI x5)] [] M := by
  intro F
  induction F with
  | zero =>
    intro x2 x3 x5 M h
    rw [fX9_bestOf_L27] at h
    cases h
  | succ F hk27 =>
    intro x2 x3 x5 M h
    rw [fX9_bestOf_L27] at h
    refine J_iload (pc := 27) (q := 5) rfl dX9_bestOf_27 ?_
    refine J_iload (pc := 29) (q := 4) rfl dX9_bestOf_29 ?_
    refine J_ifeq (pc := 31) (tgt := 39) (by decide) dX9_bestOf_31 (fun hc31 => ?_) (fun hc31 => ?_)
    · rw [if_pos hc31] at h
      refine J_bipush (pc := 39) (v := (32 : Int32)) (by decide) dX9_bestOf_39 ?_
      exact jX9_bestOf_b41 hk27 h
    · rw [if_neg hc31] at h
      refine J_bipush (pc := 34) (v := (16 : Int32)) (by decide) dX9_bestOf_34 ?_
      refine J_goto (pc := 36) (tgt := 41) (by decide) dX9_bestOf_36 ?_
      exact jX9_bestOf_b41 hk27 h
set_option maxHeartbeats 4000000 in
set_option maxRecDepth 100000 in
theorem jX9_bestOf_b22 {ad : Nat → Nat} {ca : Nat → ClassId} {D : va_G} {FU d : Nat} {r : Int32} {N : Mem}   {x0 : Nat} {x1 : Int32} {x2 : Int32} {x3 : Int32} {s0 : Int32} {M : Mem}   (h : fX9_bestOf_b22 FU  x0 x1 x2 x3 s0 M = some (r, N)) : J ad ca D cX9_bestOf RX9 8 (d + 8) (Gt ad ca D (some .int) (QI r N)) 22 [(0, vR (some x0)), (1, vI x1), (2, vI x2), (3, vI x3)] [vI s0] M := by
  unfold fX9_bestOf_b22 at h
  refine J_istore (pc := 22) (by decide) (lv' := [(0, vR (some x0)), (1, vI x1), (2, vI x2), (3, vI x3), (4, vI s0)]) rfl dX9_bestOf_22 ?_
  refine J_iconst (pc := 24) (v := (0 : Int32)) (by decide) dX9_bestOf_24 ?_
  refine J_istore (pc := 25) (by decide) (lv' := [(0, vR (some x0)), (1, vI x1), (2, vI x2), (3, vI x3), (4, vI s0), (5, vI (0 : Int32))]) rfl dX9_bestOf_25 ?_
  exact jX9_bestOf_L27  FU _ _ _ _ h
set_option maxHeartbeats 4000000 in
set_option maxRecDepth 100000 in
theorem tX9_bestOf {ad : Nat → Nat} {ca : Nat → ClassId} {D : va_G} {FU d : Nat} {r : Int32} {N : Mem}  {x0 : Nat} {x1 : Int32} {M : Mem}  (h : fX9_bestOf FU  x0 x1 M = some (r, N)) : Ct ad ca D yX9_bestOf cX9_bestOf 8 (some .int) (d + 8) [vR (some x0), vI x1] M (QI r N) := by
  refine Ct_of (by decide) (Nat.le_of_ble_eq_true rfl) ?_
  show J ad ca D cX9_bestOf RX9 8 (d + 8) (Gt ad ca D (some .int) (QI r N)) 0 [(0, vR (some x0)), (1, vI x1)] [] M
  unfold fX9_bestOf at h
  refine J_aload_n (pc := 0) (q := 0) rfl rfl dX9_bestOf_0 ?_
  obtain ⟨b1, hb1, g_7⟩ := bnd h
  obtain ⟨M1, h1, g_8⟩ := bnd g_7
  refine J_callVV (pc := 1) (as := []) (tX9_solve (d := d)  h1) cf_X9_solve cv_X9_solve clF9 hb1 ml_RX9_244 (by omega) (Nat.le_of_ble_eq_true rfl) dX9_bestOf_1 ?_
  refine J_iconst (pc := 4) (v := (-1 : Int32)) (by decide) dX9_bestOf_4 ?_
  refine J_istore_n (pc := 5) rfl (by decide) (lv' := [(0, vR (some x0)), (1, vI x1), (2, vI (-1 : Int32))]) rfl dX9_bestOf_5 ?_
  refine J_iconst (pc := 6) (v := (0 : Int32)) (by decide) dX9_bestOf_6 ?_
  refine J_istore_n (pc := 7) rfl (by decide) (lv' := [(0, vR (some x0)), (1, vI x1), (2, vI (-1 : Int32)), (3, vI (0 : Int32))]) rfl dX9_bestOf_7 ?_
  refine J_aload_n (pc := 8) (q := 0) rfl rfl dX9_bestOf_8 ?_
  refine J_iload_n (pc := 9) (q := 1) rfl rfl dX9_bestOf_9 ?_
  obtain ⟨b10, hb10, g_9⟩ := bnd g_8
  obtain ⟨r10, M10, h10, g_10⟩ := bnd2 g_9
  refine J_callVI (pc := 10) (as := [vI x1]) (tX9_turnOf (d := d)  h10) cf_X9_turnOf cv_X9_turnOf clF9 hb10 ml_RX9_207 (by omega) (Nat.le_of_ble_eq_true rfl) dX9_bestOf_10 ?_
  refine J_iconst (pc := 13) (v := (1 : Int32)) (by decide) dX9_bestOf_13 ?_
  refine J_icne (pc := 14) (tgt := 21) (by decide) dX9_bestOf_14 (fun hc14 => ?_) (fun hc14 => ?_)
  · rw [if_pos hc14] at g_10
    refine J_iconst (pc := 21) (v := (0 : Int32)) (by decide) dX9_bestOf_21 ?_
    exact jX9_bestOf_b22  g_10
  · rw [if_neg hc14] at g_10
    refine J_iconst (pc := 17) (v := (1 : Int32)) (by decide) dX9_bestOf_17 ?_
    refine J_goto (pc := 18) (tgt := 22) (by decide) dX9_bestOf_18 ?_
    exact jX9_bestOf_b22  g_10
set_option maxHeartbeats 4000000 in
set_option maxRecDepth 100000 in
theorem tX9_best {ad : Nat → Nat} {ca : Nat → ClassId} {D : va_G} {FU d : Nat} {r : Int32} {N : Mem}  {x0 : Nat} {x1 : Int32} {x2 : Int32} {x3 : Int32} {x4 : Int32} {x5 : Int32} {M : Mem}  (h : fX9_best FU  x0 x1 x2 x3 x4 x5 M = some (r, N)) : Ct ad ca D yX9_best cX9_best 7 (some .int) (d + 9) [vR (some x0), vI x1, vI x2, vI x3, vI x4, vI x5] M (QI r N) := by
  refine Ct_of (by decide) (Nat.le_of_ble_eq_true rfl) ?_
  show J ad ca D cX9_best RX9 7 (d + 9) (Gt ad ca D (some .int) (QI r N)) 0 [(0, vR (some x0)), (1, vI x1), (2, vI x2), (3, vI x3), (4, vI x4), (5, vI x5)] [] M
  unfold fX9_best at h
  refine J_aload_n (pc := 0) (q := 0) rfl rfl dX9_best_0 ?_
  refine J_iload_n (pc := 1) (q := 1) rfl rfl dX9_best_1 ?_
  refine J_iload_n (pc := 2) (q := 2) rfl rfl dX9_best_2 ?_
  refine J_iload_n (pc := 3) (q := 3) rfl rfl dX9_best_3 ?_
  refine J_iload (pc := 4) (q := 4) rfl dX9_best_4 ?_
  refine J_iload (pc := 6) (q := 5) rfl dX9_best_6 ?_
  obtain ⟨b8, hb8, g_1⟩ := bnd h
  obtain ⟨r8, M8, h8, g_2⟩ := bnd2 g_1
  refine J_callVI (pc := 8) (as := [vI x1, vI x2, vI x3, vI x4, vI x5]) (tX9_standingOf (d := d)  h8) cf_X9_standingOf cv_X9_standingOf clF9 hb8 ml_RX9_241 (by omega) (Nat.le_of_ble_eq_true rfl) dX9_best_8 ?_
  refine J_istore (pc := 11) (by decide) (lv' := [(0, vR (some x0)), (1, vI x1), (2, vI x2), (3, vI x3), (4, vI x4), (5, vI x5), (6, vI r8)]) rfl dX9_best_11 ?_
  refine J_iload (pc := 13) (q := 6) rfl dX9_best_13 ?_
  refine J_ifge (pc := 15) (tgt := 23) (by decide) dX9_best_15 (fun hc15 => ?_) (fun hc15 => ?_)
  · rw [if_pos hc15] at g_2
    refine J_aload_n (pc := 23) (q := 0) rfl rfl dX9_best_23 ?_
    refine J_iload (pc := 24) (q := 6) rfl dX9_best_24 ?_
    obtain ⟨b26, hb26, g_3⟩ := bnd g_2
    obtain ⟨r26, M26, h26, g_4⟩ := bnd2 g_3
    refine J_callVI (pc := 26) (as := [vI r8]) (tX9_isCaught (d := d)  h26) cf_X9_isCaught cv_X9_isCaught clF9 hb26 ml_RX9_235 (by omega) (Nat.le_of_ble_eq_true rfl) dX9_best_26 ?_
    refine J_ifeq (pc := 29) (tgt := 36) (by decide) dX9_best_29 (fun hc29 => ?_) (fun hc29 => ?_)
    · rw [if_pos hc29] at g_4
      refine J_aload_n (pc := 36) (q := 0) rfl rfl dX9_best_36 ?_
      refine J_iload (pc := 37) (q := 6) rfl dX9_best_37 ?_
      obtain ⟨b39, hb39, g_5⟩ := bnd g_4
      obtain ⟨r39, M39, h39, g_6⟩ := bnd2 g_5
      refine J_callVI (pc := 39) (as := [vI r8]) (tX9_bestOf (d := d)  h39) cf_X9_bestOf cv_X9_bestOf clF9 hb39 ml_RX9_248 (by omega) (Nat.le_of_ble_eq_true rfl) dX9_best_39 ?_
      exact J_iret (pc := 42) (qi_of g_6) dX9_best_42
    · rw [if_neg hc29] at g_4
      refine J_iconst (pc := 32) (v := (-1 : Int32)) (by decide) dX9_best_32 ?_
      refine J_goto (pc := 33) (tgt := 42) (by decide) dX9_best_33 ?_
      exact J_iret (pc := 42) (qi_of g_4) dX9_best_42
  · rw [if_neg hc15] at g_2
    refine J_bipush (pc := 18) (v := (-2 : Int32)) (by decide) dX9_best_18 ?_
    refine J_goto (pc := 20) (tgt := 42) (by decide) dX9_best_20 ?_
    exact J_iret (pc := 42) (qi_of g_2) dX9_best_42
set_option maxHeartbeats 4000000 in
set_option maxRecDepth 100000 in
theorem tX9_moves {ad : Nat → Nat} {ca : Nat → ClassId} {D : va_G} {FU d : Nat} {r : Int32} {N : Mem}  {x0 : Nat} {x1 : Int32} {x2 : Int32} {x3 : Int32} {x4 : Int32} {x5 : Int32} {M : Mem}  (h : fX9_moves FU  x0 x1 x2 x3 x4 x5 M = some (r, N)) : Ct ad ca D yX9_moves cX9_moves 7 (some .int) (d + 7) [vR (some x0), vI x1, vI x2, vI x3, vI x4, vI x5] M (QI r N) := by
  refine Ct_of (by decide) (Nat.le_of_ble_eq_true rfl) ?_
  show J ad ca D cX9_moves RX9 7 (d + 7) (Gt ad ca D (some .int) (QI r N)) 0 [(0, vR (some x0)), (1, vI x1), (2, vI x2), (3, vI x3), (4, vI x4), (5, vI x5)] [] M
  unfold fX9_moves at h
  refine J_aload_n (pc := 0) (q := 0) rfl rfl dX9_moves_0 ?_
  refine J_iload_n (pc := 1) (q := 1) rfl rfl dX9_moves_1 ?_
  refine J_iload_n (pc := 2) (q := 2) rfl rfl dX9_moves_2 ?_
  refine J_iload_n (pc := 3) (q := 3) rfl rfl dX9_moves_3 ?_
  refine J_iload (pc := 4) (q := 4) rfl dX9_moves_4 ?_
  refine J_iload (pc := 6) (q := 5) rfl dX9_moves_6 ?_
  obtain ⟨b8, hb8, g_1⟩ := bnd h
  obtain ⟨r8, M8, h8, g_2⟩ := bnd2 g_1
  refine J_callVI (pc := 8) (as := [vI x1, vI x2, vI x3, vI x4, vI x5]) (tX9_standingOf (d := d)  h8) cf_X9_standingOf cv_X9_standingOf clF9 hb8 ml_RX9_241 (by omega) (Nat.le_of_ble_eq_true rfl) dX9_moves_8 ?_
  refine J_istore (pc := 11) (by decide) (lv' := [(0, vR (some x0)), (1, vI x1), (2, vI x2), (3, vI x3), (4, vI x4), (5, vI x5), (6, vI r8)]) rfl dX9_moves_11 ?_
  refine J_iload (pc := 13) (q := 6) rfl dX9_moves_13 ?_
  refine J_ifge (pc := 15) (tgt := 23) (by decide) dX9_moves_15 (fun hc15 => ?_) (fun hc15 => ?_)
  · rw [if_pos hc15] at g_2
    refine J_aload_n (pc := 23) (q := 0) rfl rfl dX9_moves_23 ?_
    refine J_iload (pc := 24) (q := 6) rfl dX9_moves_24 ?_
    obtain ⟨b26, hb26, g_3⟩ := bnd g_2
    obtain ⟨r26, M26, h26, g_4⟩ := bnd2 g_3
    refine J_callVI (pc := 26) (as := [vI r8]) (tX9_isCaught (d := d)  h26) cf_X9_isCaught cv_X9_isCaught clF9 hb26 ml_RX9_235 (by omega) (Nat.le_of_ble_eq_true rfl) dX9_moves_26 ?_
    refine J_ifeq (pc := 29) (tgt := 36) (by decide) dX9_moves_29 (fun hc29 => ?_) (fun hc29 => ?_)
    · rw [if_pos hc29] at g_4
      refine J_aload_n (pc := 36) (q := 0) rfl rfl dX9_moves_36 ?_
      refine J_iload (pc := 37) (q := 6) rfl dX9_moves_37 ?_
      obtain ⟨b39, hb39, g_5⟩ := bnd g_4
      obtain ⟨r39, M39, h39, g_6⟩ := bnd2 g_5
      refine J_callVI (pc := 39) (as := [vI r8]) (tX9_movesOf (d := d)  h39) cf_X9_movesOf cv_X9_movesOf clF9 hb39 ml_RX9_226 (by omega) (Nat.le_of_ble_eq_true rfl) dX9_moves_39 ?_
      exact J_iret (pc := 42) (qi_of g_6) dX9_moves_42
    · rw [if_neg hc29] at g_4
      refine J_iconst (pc := 32) (v := (0 : Int32)) (by decide) dX9_moves_32 ?_
      refine J_goto (pc := 33) (tgt := 42) (by decide) dX9_moves_33 ?_
      exact J_iret (pc := 42) (qi_of g_4) dX9_moves_42
  · rw [if_neg hc15] at g_2
    refine J_bipush (pc := 18) (v := (-2 : Int32)) (by decide) dX9_moves_18 ?_
    refine J_goto (pc := 20) (tgt := 42) (by decide) dX9_moves_20 ?_
    exact J_iret (pc := 42) (qi_of g_2) dX9_moves_42
set_option maxHeartbeats 4000000 in
set_option maxRecDepth 100000 in
theorem tX9_counts {ad : Nat → Nat} {ca : Nat → ClassId} {D : va_G} {FU d : Nat} {r : Int32} {N : Mem}  {x0 : Nat} {x1 : Int32} {M : Mem}  (h : fX9_counts FU  x0 x1 M = some (r, N)) : Ct ad ca D yX9_counts cX9_counts 2 (some .boolean) (d + 4) [vR (some x0), vI x1] M (QI r N) := by
  refine Ct_of (by decide) (Nat.le_of_ble_eq_true rfl) ?_
  show J ad ca D cX9_counts RX9 2 (d + 4) (Gt ad ca D (some .boolean) (QI r N)) 0 [(0, vR (some x0)), (1, vI x1)] [] M
  unfold fX9_counts at h
  refine J_aload_n (pc := 0) (q := 0) rfl rfl dX9_counts_0 ?_
  refine J_iload_n (pc := 1) (q := 1) rfl rfl dX9_counts_1 ?_
  obtain ⟨b2, hb2, g_1⟩ := bnd h
  obtain ⟨r2, M2, h2, g_2⟩ := bnd2 g_1
  refine J_callVI (pc := 2) (as := [vI x1]) (tX9_isOne (d := d)  h2) cf_X9_isOne cv_X9_isOne clF9 hb2 ml_RX9_232 (by omega) (Nat.le_of_ble_eq_true rfl) dX9_counts_2 ?_
  refine J_ifeq (pc := 5) (tgt := 36) (by decide) dX9_counts_5 (fun hc5 => ?_) (fun hc5 => ?_)
  · rw [if_pos hc5] at g_2
    refine J_iconst (pc := 36) (v := (0 : Int32)) (by decide) dX9_counts_36 ?_
    exact J_zret (pc := 37) (Or.inl rfl) (qi_of g_2) dX9_counts_37
  · rw [if_neg hc5] at g_2
    refine J_aload_n (pc := 8) (q := 0) rfl rfl dX9_counts_8 ?_
    refine J_iload_n (pc := 9) (q := 1) rfl rfl dX9_counts_9 ?_
    obtain ⟨b10, hb10, g_3⟩ := bnd g_2
    obtain ⟨r10, M10, h10, g_4⟩ := bnd2 g_3
    refine J_callVI (pc := 10) (as := [vI x1]) (tX9_turnOf (d := d)  h10) cf_X9_turnOf cv_X9_turnOf clF9 hb10 ml_RX9_207 (by omega) (Nat.le_of_ble_eq_true rfl) dX9_counts_10 ?_
    refine J_ifne (pc := 13) (tgt := 36) (by decide) dX9_counts_13 (fun hc13 => ?_) (fun hc13 => ?_)
    · rw [if_pos hc13] at g_4
      refine J_iconst (pc := 36) (v := (0 : Int32)) (by decide) dX9_counts_36 ?_
      exact J_zret (pc := 37) (Or.inl rfl) (qi_of g_4) dX9_counts_37
    · rw [if_neg hc13] at g_4
      refine J_aload_n (pc := 16) (q := 0) rfl rfl dX9_counts_16 ?_
      refine J_iload_n (pc := 17) (q := 1) rfl rfl dX9_counts_17 ?_
      obtain ⟨b18, hb18, g_5⟩ := bnd g_4
      obtain ⟨r18, M18, h18, g_6⟩ := bnd2 g_5
      refine J_callVI (pc := 18) (as := [vI x1]) (tX9_shutOf (d := d)  h18) cf_X9_shutOf cv_X9_shutOf clF9 hb18 ml_RX9_204 (by omega) (Nat.le_of_ble_eq_true rfl) dX9_counts_18 ?_
      refine J_ifne (pc := 21) (tgt := 36) (by decide) dX9_counts_21 (fun hc21 => ?_) (fun hc21 => ?_)
      · rw [if_pos hc21] at g_6
        refine J_iconst (pc := 36) (v := (0 : Int32)) (by decide) dX9_counts_36 ?_
        exact J_zret (pc := 37) (Or.inl rfl) (qi_of g_6) dX9_counts_37
      · rw [if_neg hc21] at g_6
        refine J_aload_n (pc := 24) (q := 0) rfl rfl dX9_counts_24 ?_
        refine J_iload_n (pc := 25) (q := 1) rfl rfl dX9_counts_25 ?_
        obtain ⟨b26, hb26, g_7⟩ := bnd g_6
        obtain ⟨r26, M26, h26, g_8⟩ := bnd2 g_7
        refine J_callVI (pc := 26) (as := [vI x1]) (tX9_isTaken (d := d)  h26) cf_X9_isTaken cv_X9_isTaken clF9 hb26 ml_RX9_223 (by omega) (Nat.le_of_ble_eq_true rfl) dX9_counts_26 ?_
        refine J_ifne (pc := 29) (tgt := 36) (by decide) dX9_counts_29 (fun hc29 => ?_) (fun hc29 => ?_)
        · rw [if_pos hc29] at g_8
          refine J_iconst (pc := 36) (v := (0 : Int32)) (by decide) dX9_counts_36 ?_
          exact J_zret (pc := 37) (Or.inl rfl) (qi_of g_8) dX9_counts_37
        · rw [if_neg hc29] at g_8
          refine J_iconst (pc := 32) (v := (1 : Int32)) (by decide) dX9_counts_32 ?_
          refine J_goto (pc := 33) (tgt := 37) (by decide) dX9_counts_33 ?_
          exact J_zret (pc := 37) (Or.inr rfl) (qi_of g_8) dX9_counts_37
set_option maxHeartbeats 4000000 in
set_option maxRecDepth 100000 in
theorem jX9_solvedOf_b77 {ad : Nat → Nat} {ca : Nat → ClassId} {D : va_G} {FU d : Nat} {r : Int32} {N : Mem}  {k8 : Int32 → Int32 → Mem → Option (Int32 × Mem)} {x0 : Nat} {x1 : Int32} {x2 : Int32} {x3 : Int32} {M : Mem}  (hk8 : ∀ (y2 : Int32) (y3 : Int32) (M : Mem), k8 y2 y3 M = some (r, N) → J ad ca D cX9_solvedOf RX9 4 (d + 8) (Gt ad ca D (some .int) (QI r N)) 8 [(0, vR (some x0)), (1, vI x1), (2, vI y2), (3, vI y3)] [] M) (h : fX9_solvedOf_b77 FU  k8 x0 x1 x2 x3 M = some (r, N)) : J ad ca D cX9_solvedOf RX9 4 (d + 8) (Gt ad ca D (some .int) (QI r N)) 77 [(0, vR (some x0)), (1, vI x1), (2, vI x2), (3, vI x3)] [] M := by
  unfold fX9_solvedOf_b77 at h
  refine J_iinc (pc := 77) (q := 3) rfl (v := x3 + (1 : Int32)) rfl (by decide) (lv' := [(0, vR (some x0)), (1, vI x1), (2, vI x2), (3, vI (x3 + (1 : Int32)))]) rfl dX9_solvedOf_77 ?_
  refine J_goto (pc := 80) (tgt := 8) (by decide) dX9_solvedOf_80 ?_
  exact hk8 _ _ _ h
set_option maxHeartbeats 4000000 in
set_option maxRecDepth 100000 in
theorem jX9_solvedOf_b51 {ad : Nat → Nat} {ca : Nat → ClassId} {D : va_G} {FU d : Nat} {r : Int32} {N : Mem}  {k8 : Int32 → Int32 → Mem → Option (Int32 × Mem)} {x0 : Nat} {x1 : Int32} {x3 : Int32} {s0 : Int32} {M : Mem}  (hk8 : ∀ (y2 : Int32) (y3 : Int32) (M : Mem), k8 y2 y3 M = some (r, N) → J ad ca D cX9_solvedOf RX9 4 (d + 8) (Gt ad ca D (some .int) (QI r N)) 8 [(0, vR (some x0)), (1, vI x1), (2, vI y2), (3, vI y3)] [] M) (h : fX9_solvedOf_b51 FU  k8 x0 x1 x3 s0 M = some (r, N)) : J ad ca D cX9_solvedOf RX9 4 (d + 8) (Gt ad ca D (some .int) (QI r N)) 51 [(0, vR (some x0)), (1, vI x1), (3, vI x3)] [vI s0] M := by
  unfold fX9_solvedOf_b51 at h
  refine J_istore_n (pc := 51) rfl (by decide) (lv' := [(0, vR (some x0)), (1, vI x1), (3, vI x3), (2, vI s0)]) rfl dX9_solvedOf_51 ?_
  refine J_goto (pc := 52) (tgt := 77) (by decide) dX9_solvedOf_52 ?_
  refine J_sub [0, 1, 3, 2] (lv' := [(0, vR (some x0)), (1, vI x1), (2, vI s0), (3, vI x3)]) rfl ?_
  exact jX9_solvedOf_b77 hk8 h
set_option maxHeartbeats 4000000 in
set_option maxRecDepth 100000 in
theorem jX9_solvedOf_b75 {ad : Nat → Nat} {ca : Nat → ClassId} {D : va_G} {FU d : Nat} {r : Int32} {N : Mem}  {k8 : Int32 → Int32 → Mem → Option (Int32 × Mem)} {x0 : Nat} {x1 : Int32} {x3 : Int32} {s0 : Int32} {s1 : Int32} {M : Mem}  (hk8 : ∀ (y2 : Int32) (y3 : Int32) (M : Mem), k8 y2 y3 M = some (r, N) → J ad ca D cX9_solvedOf RX9 4 (d + 8) (Gt ad ca D (some .int) (QI r N)) 8 [(0, vR (some x0)), (1, vI x1), (2, vI y2), (3, vI y3)] [] M) (h : fX9_solvedOf_b75 FU  k8 x0 x1 x3 s0 s1 M = some (r, N)) : J ad ca D cX9_solvedOf RX9 4 (d + 8) (Gt ad ca D (some .int) (QI r N)) 75 [(0, vR (some x0)), (1, vI x1), (3, vI x3)] [vI s1, vI s0] M := by
  unfold fX9_solvedOf_b75 at h
  refine J_iadd (pc := 75) dX9_solvedOf_75 ?_
  refine J_istore_n (pc := 76) rfl (by decide) (lv' := [(0, vR (some x0)), (1, vI x1), (3, vI x3), (2, vI (s0 + s1))]) rfl dX9_solvedOf_76 ?_
  refine J_sub [0, 1, 3, 2] (lv' := [(0, vR (some x0)), (1, vI x1), (2, vI (s0 + s1)), (3, vI x3)]) rfl ?_
  exact jX9_solvedOf_b77 hk8 h
set_option maxHeartbeats 4000000 in
set_option maxRecDepth 100000 in
theorem jX9_solvedOf_b70 {ad : Nat → Nat} {ca : Nat → ClassId} {D : va_G} {FU d : Nat} {r : Int32} {N : Mem}  {k8 : Int32 → Int32 → Mem → Option (Int32 × Mem)} {x0 : Nat} {x1 : Int32} {x3 : Int32} {s0 : Int32} {M : Mem}  (hk8 : ∀ (y2 : Int32) (y3 : Int32) (M : Mem), k8 y2 y3 M = some (r, N) → J ad ca D cX9_solvedOf RX9 4 (d + 8) (Gt ad ca D (some .int) (QI r N)) 8 [(0, vR (some x0)), (1, vI x1), (2, vI y2), (3, vI y3)] [] M) (h : fX9_solvedOf_b70 FU  k8 x0 x1 x3 s0 M = some (r, N)) : J ad ca D cX9_solvedOf RX9 4 (d + 8) (Gt ad ca D (some .int) (QI r N)) 70 [(0, vR (some x0)), (1, vI x1), (3, vI x3)] [vI s0] M := by
  unfold fX9_solvedOf_b70 at h
  refine J_iconst (pc := 70) (v := (1 : Int32)) (by decide) dX9_solvedOf_70 ?_
  refine J_goto (pc := 71) (tgt := 75) (by decide) dX9_solvedOf_71 ?_
  exact jX9_solvedOf_b75 hk8 h
set_option maxHeartbeats 4000000 in
set_option maxRecDepth 100000 in
theorem jX9_solvedOf_L8 {ad : Nat → Nat} {ca : Nat → ClassId} {D : va_G} {FU d : Nat} {r : Int32} {N : Mem}   {x0 : Nat} {x1 : Int32}   : ∀ (F : Nat) (x2 : Int32) (x3 : Int32) (M : Mem), fX9_solvedOf_L8 FU  x0 x1 F x2 x3 M = some (r, N) → J ad ca D cX9_solvedOf RX9 4 (d + 8) (Gt ad ca D (some .int) (QI r N)) 8 [(0, vR (some x0)), (1, vI x1), (2, vI x2), (3, vI x3)] [] M := by
  intro F
  induction F with
  | zero =>
    intro x2 x3 M h
    rw [fX9_solvedOf_L8] at h
    cases h
  | succ F hk8 =>
    intro x2 x3 M h
    rw [fX9_solvedOf_L8] at h
    refine J_iload_n (pc := 8) (q := 3) rfl rfl dX9_solvedOf_8 ?_
    refine J_sipush (pc := 9) (v := (9216 : Int32)) (by decide) dX9_solvedOf_9 ?_
    refine J_icge (pc := 12) (tgt := 83) (by decide) dX9_solvedOf_12 (fun hc12 => ?_) (fun hc12 => ?_)
    · rw [if_pos hc12] at h
      refine J_iload_n (pc := 83) (q := 2) rfl rfl dX9_solvedOf_83 ?_
      exact J_iret (pc := 84) (qi_of h) dX9_solvedOf_84
    · rw [if_neg hc12] at h
      refine J_aload_n (pc := 15) (q := 0) rfl rfl dX9_solvedOf_15 ?_
      refine J_iload_n (pc := 16) (q := 3) rfl rfl dX9_solvedOf_16 ?_
      obtain ⟨b17, hb17, g_1⟩ := bnd h
      obtain ⟨r17, M17, h17, g_2⟩ := bnd2 g_1
      refine J_callVI (pc := 17) (as := [vI x3]) (tX9_counts (d := d)  h17) cf_X9_counts cv_X9_counts clF9 hb17 ml_RX9_251 (by omega) (Nat.le_of_ble_eq_true rfl) dX9_solvedOf_17 ?_
      refine J_ifne (pc := 20) (tgt := 26) (by decide) dX9_solvedOf_20 (fun hc20 => ?_) (fun hc20 => ?_)
      · rw [if_pos hc20] at g_2
        refine J_iload_n (pc := 26) (q := 1) rfl rfl dX9_solvedOf_26 ?_
        refine J_iconst (pc := 27) (v := (2 : Int32)) (by decide) dX9_solvedOf_27 ?_
        refine J_icne (pc := 28) (tgt := 55) (by decide) dX9_solvedOf_28 (fun hc28 => ?_) (fun hc28 => ?_)
        · rw [if_pos hc28] at g_2
          refine J_iload_n (pc := 55) (q := 2) rfl rfl dX9_solvedOf_55 ?_
          refine J_iload_n (pc := 56) (q := 1) rfl rfl dX9_solvedOf_56 ?_
          refine J_iconst (pc := 57) (v := (1 : Int32)) (by decide) dX9_solvedOf_57 ?_
          refine J_iceq (pc := 58) (tgt := 70) (by decide) dX9_solvedOf_58 (fun hc58 => ?_) (fun hc58 => ?_)
          · rw [if_pos hc58] at g_2
            refine J_sub [0, 1, 3] (lv' := [(0, vR (some x0)), (1, vI x1), (3, vI x3)]) rfl ?_
            exact jX9_solvedOf_b70 hk8 g_2
          · rw [if_neg hc58] at g_2
            refine J_aload_n (pc := 61) (q := 0) rfl rfl dX9_solvedOf_61 ?_
            obtain ⟨a62, h62, g_3⟩ := bnd g_2
            refine J_getR (pc := 62) (i := 10) clF9 (by decide) rfl fl_RX9_40 h62 dX9_solvedOf_62 ?_
            refine J_iload_n (pc := 65) (q := 3) rfl rfl dX9_solvedOf_65 ?_
            obtain ⟨a66, h66, g_4⟩ := bnd g_3
            refine J_ald0 (pc := 66) h66 dX9_solvedOf_66 ?_
            refine J_iflt (pc := 67) (tgt := 74) (by decide) dX9_solvedOf_67 (fun hc67 => ?_) (fun hc67 => ?_)
            · rw [if_pos hc67] at g_4
              refine J_iconst (pc := 74) (v := (0 : Int32)) (by decide) dX9_solvedOf_74 ?_
              refine J_sub [0, 1, 3] (lv' := [(0, vR (some x0)), (1, vI x1), (3, vI x3)]) rfl ?_
              exact jX9_solvedOf_b75 hk8 g_4
            · rw [if_neg hc67] at g_4
              refine J_sub [0, 1, 3] (lv' := [(0, vR (some x0)), (1, vI x1), (3, vI x3)]) rfl ?_
              exact jX9_solvedOf_b70 hk8 g_4
        · rw [if_neg hc28] at g_2
          refine J_aload_n (pc := 31) (q := 0) rfl rfl dX9_solvedOf_31 ?_
          obtain ⟨a32, h32, g_5⟩ := bnd g_2
          refine J_getR (pc := 32) (i := 10) clF9 (by decide) rfl fl_RX9_40 h32 dX9_solvedOf_32 ?_
          refine J_iload_n (pc := 35) (q := 3) rfl rfl dX9_solvedOf_35 ?_
          obtain ⟨a36, h36, g_6⟩ := bnd g_5
          refine J_ald0 (pc := 36) h36 dX9_solvedOf_36 ?_
          refine J_iload_n (pc := 37) (q := 2) rfl rfl dX9_solvedOf_37 ?_
          refine J_icle (pc := 38) (tgt := 50) (by decide) dX9_solvedOf_38 (fun hc38 => ?_) (fun hc38 => ?_)
          · rw [if_pos hc38] at g_6
            refine J_iload_n (pc := 50) (q := 2) rfl rfl dX9_solvedOf_50 ?_
            refine J_sub [0, 1, 3] (lv' := [(0, vR (some x0)), (1, vI x1), (3, vI x3)]) rfl ?_
            exact jX9_solvedOf_b51 hk8 g_6
          · rw [if_neg hc38] at g_6
            refine J_aload_n (pc := 41) (q := 0) rfl rfl dX9_solvedOf_41 ?_
            obtain ⟨a42, h42, g_7⟩ := bnd g_6
            refine J_getR (pc := 42) (i := 10) clF9 (by decide) rfl fl_RX9_40 h42 dX9_solvedOf_42 ?_
            refine J_iload_n (pc := 45) (q := 3) rfl rfl dX9_solvedOf_45 ?_
            obtain ⟨a46, h46, g_8⟩ := bnd g_7
            refine J_ald0 (pc := 46) h46 dX9_solvedOf_46 ?_
            refine J_goto (pc := 47) (tgt := 51) (by decide) dX9_solvedOf_47 ?_
            refine J_sub [0, 1, 3] (lv' := [(0, vR (some x0)), (1, vI x1), (3, vI x3)]) rfl ?_
            exact jX9_solvedOf_b51 hk8 g_8
      · rw [if_neg hc20] at g_2
        refine J_goto (pc := 23) (tgt := 77) (by decide) dX9_solvedOf_23 ?_
        exact jX9_solvedOf_b77 hk8 g_2
set_option maxHeartbeats 4000000 in
set_option maxRecDepth 100000 in
theorem tX9_solvedOf {ad : Nat → Nat} {ca : Nat → ClassId} {D : va_G} {FU d : Nat} {r : Int32} {N : Mem}  {x0 : Nat} {x1 : Int32} {M : Mem}  (h : fX9_solvedOf FU  x0 x1 M = some (r, N)) : Ct ad ca D yX9_solvedOf cX9_solvedOf 4 (some .int) (d + 8) [vR (some x0), vI x1] M (QI r N) := by
  refine Ct_of (by decide) (Nat.le_of_ble_eq_true rfl) ?_
  show J ad ca D cX9_solvedOf RX9 4 (d + 8) (Gt ad ca D (some .int) (QI r N)) 0 [(0, vR (some x0)), (1, vI x1)] [] M
  unfold fX9_solvedOf at h
  refine J_aload_n (pc := 0) (q := 0) rfl rfl dX9_solvedOf_0 ?_
  obtain ⟨b1, hb1, g_9⟩ := bnd h
  obtain ⟨M1, h1, g_10⟩ := bnd g_9
  refine J_callVV (pc := 1) (as := []) (tX9_solve (d := d)  h1) cf_X9_solve cv_X9_solve clF9 hb1 ml_RX9_244 (by omega) (Nat.le_of_ble_eq_true rfl) dX9_solvedOf_1 ?_
  refine J_iconst (pc := 4) (v := (0 : Int32)) (by decide) dX9_solvedOf_4 ?_
  refine J_istore_n (pc := 5) rfl (by decide) (lv' := [(0, vR (some x0)), (1, vI x1), (2, vI (0 : Int32))]) rfl dX9_solvedOf_5 ?_
  refine J_iconst (pc := 6) (v := (0 : Int32)) (by decide) dX9_solvedOf_6 ?_
  refine J_istore_n (pc := 7) rfl (by decide) (lv' := [(0, vR (some x0)), (1, vI x1), (2, vI (0 : Int32)), (3, vI (0 : Int32))]) rfl dX9_solvedOf_7 ?_
  exact jX9_solvedOf_L8  FU _ _ _ g_10
set_option maxHeartbeats 4000000 in
set_option maxRecDepth 100000 in
theorem tX9_solved {ad : Nat → Nat} {ca : Nat → ClassId} {D : va_G} {FU d : Nat} {r : Int32} {N : Mem}  {x0 : Nat} {x1 : Int32} {M : Mem}  (h : fX9_solved FU  x0 x1 M = some (r, N)) : Ct ad ca D yX9_solved cX9_solved 2 (some .int) (d + 9) [vR (some x0), vI x1] M (QI r N) := by
  refine Ct_of (by decide) (Nat.le_of_ble_eq_true rfl) ?_
  show J ad ca D cX9_solved RX9 2 (d + 9) (Gt ad ca D (some .int) (QI r N)) 0 [(0, vR (some x0)), (1, vI x1)] [] M
  unfold fX9_solved at h
  refine J_aload_n (pc := 0) (q := 0) rfl rfl dX9_solved_0 ?_
  refine J_iload_n (pc := 1) (q := 1) rfl rfl dX9_solved_1 ?_
  refine J_iconst (pc := 2) (v := (0 : Int32)) (by decide) dX9_solved_2 ?_
  refine J_iconst (pc := 3) (v := (2 : Int32)) (by decide) dX9_solved_3 ?_
  obtain ⟨b4, hb4, g_1⟩ := bnd h
  obtain ⟨r4, M4, h4, g_2⟩ := bnd2 g_1
  refine J_callVI (pc := 4) (as := [vI x1, vI (0 : Int32), vI (2 : Int32)]) (tX9_in (d := d)  h4) cf_X9_in cv_X9_in clF9 hb4 ml_RX9_155 (by omega) (Nat.le_of_ble_eq_true rfl) dX9_solved_4 ?_
  refine J_ifeq (pc := 7) (tgt := 18) (by decide) dX9_solved_7 (fun hc7 => ?_) (fun hc7 => ?_)
  · rw [if_pos hc7] at g_2
    refine J_bipush (pc := 18) (v := (-2 : Int32)) (by decide) dX9_solved_18 ?_
    exact J_iret (pc := 20) (qi_of g_2) dX9_solved_20
  · rw [if_neg hc7] at g_2
    refine J_aload_n (pc := 10) (q := 0) rfl rfl dX9_solved_10 ?_
    refine J_iload_n (pc := 11) (q := 1) rfl rfl dX9_solved_11 ?_
    obtain ⟨b12, hb12, g_3⟩ := bnd g_2
    obtain ⟨r12, M12, h12, g_4⟩ := bnd2 g_3
    refine J_callVI (pc := 12) (as := [vI x1]) (tX9_solvedOf (d := d)  h12) cf_X9_solvedOf cv_X9_solvedOf clF9 hb12 ml_RX9_254 (by omega) (Nat.le_of_ble_eq_true rfl) dX9_solved_12 ?_
    refine J_goto (pc := 15) (tgt := 20) (by decide) dX9_solved_15 ?_
    exact J_iret (pc := 20) (qi_of g_4) dX9_solved_20
set_option maxHeartbeats 4000000 in
set_option maxRecDepth 100000 in
theorem jX9_isPuzzle_b67 {ad : Nat → Nat} {ca : Nat → ClassId} {D : va_G} {FU d : Nat} {r : Int32} {N : Mem}  {k24 : Int32 → Int32 → Mem → Option (Int32 × Mem)} {x0 : Nat} {x1 : Int32} {x3 : Int32} {s0 : Int32} {s1 : Int32} {M : Mem}  (hk24 : ∀ (y2 : Int32) (y3 : Int32) (M : Mem), k24 y2 y3 M = some (r, N) → J ad ca D cX9_isPuzzle RX9 4 (d + 5) (Gt ad ca D (some .boolean) (QI r N)) 24 [(0, vR (some x0)), (1, vI x1), (2, vI y2), (3, vI y3)] [] M) (h : fX9_isPuzzle_b67 FU  k24 x0 x1 x3 s0 s1 M = some (r, N)) : J ad ca D cX9_isPuzzle RX9 4 (d + 5) (Gt ad ca D (some .boolean) (QI r N)) 67 [(0, vR (some x0)), (1, vI x1), (3, vI x3)] [vI s1, vI s0] M := by
  unfold fX9_isPuzzle_b67 at h
  refine J_iadd (pc := 67) dX9_isPuzzle_67 ?_
  refine J_istore_n (pc := 68) rfl (by decide) (lv' := [(0, vR (some x0)), (1, vI x1), (3, vI x3), (2, vI (s0 + s1))]) rfl dX9_isPuzzle_68 ?_
  refine J_iinc (pc := 69) (q := 2) rfl (v := x3 + (1 : Int32)) rfl (by decide) (lv' := [(0, vR (some x0)), (1, vI x1), (2, vI (s0 + s1)), (3, vI (x3 + (1 : Int32)))]) rfl dX9_isPuzzle_69 ?_
  refine J_goto (pc := 72) (tgt := 24) (by decide) dX9_isPuzzle_72 ?_
  exact hk24 _ _ _ h
set_option maxHeartbeats 4000000 in
set_option maxRecDepth 100000 in
theorem jX9_isPuzzle_b66 {ad : Nat → Nat} {ca : Nat → ClassId} {D : va_G} {FU d : Nat} {r : Int32} {N : Mem}  {k24 : Int32 → Int32 → Mem → Option (Int32 × Mem)} {x0 : Nat} {x1 : Int32} {x3 : Int32} {s0 : Int32} {M : Mem}  (hk24 : ∀ (y2 : Int32) (y3 : Int32) (M : Mem), k24 y2 y3 M = some (r, N) → J ad ca D cX9_isPuzzle RX9 4 (d + 5) (Gt ad ca D (some .boolean) (QI r N)) 24 [(0, vR (some x0)), (1, vI x1), (2, vI y2), (3, vI y3)] [] M) (h : fX9_isPuzzle_b66 FU  k24 x0 x1 x3 s0 M = some (r, N)) : J ad ca D cX9_isPuzzle RX9 4 (d + 5) (Gt ad ca D (some .boolean) (QI r N)) 66 [(0, vR (some x0)), (1, vI x1), (3, vI x3)] [vI s0] M := by
  unfold fX9_isPuzzle_b66 at h
  refine J_iconst (pc := 66) (v := (0 : Int32)) (by decide) dX9_isPuzzle_66 ?_
  exact jX9_isPuzzle_b67 hk24 h
set_option maxHeartbeats 4000000 in
set_option maxRecDepth 100000 in
theorem jX9_isPuzzle_L24 {ad : Nat → Nat} {ca : Nat → ClassId} {D : va_G} {FU d : Nat} {r : Int32} {N : Mem}   {x0 : Nat} {x1 : Int32}   : ∀ (F : Nat) (x2 : Int32) (x3 : Int32) (M : Mem), fX9_isPuzzle_L24 FU  x0 x1 F x2 x3 M = some (r, N) → J ad ca D cX9_isPuzzle RX9 4 (d + 5) (Gt ad ca D (some .boolean) (QI r N)) 24 [(0, vR (some x0)), (1, vI x1), (2, vI x2), (3, vI x3)] [] M := by
  intro F
  induction F with
  | zero =>
    intro x2 x3 M h
    rw [fX9_isPuzzle_L24] at h
    cases h
  | succ F hk24 =>
    intro x2 x3 M h
    rw [fX9_isPuzzle_L24] at h
    refine J_iload_n (pc := 24) (q := 3) rfl rfl dX9_isPuzzle_24 ?_
    refine J_bipush (pc := 25) (v := (32 : Int32)) (by decide) dX9_isPuzzle_25 ?_
    refine J_icgt (pc := 27) (tgt := 75) (by decide) dX9_isPuzzle_27 (fun hc27 => ?_) (fun hc27 => ?_)
    · rw [if_pos hc27] at h
      refine J_iload_n (pc := 75) (q := 2) rfl rfl dX9_isPuzzle_75 ?_
      refine J_iconst (pc := 76) (v := (1 : Int32)) (by decide) dX9_isPuzzle_76 ?_
      refine J_icne (pc := 77) (tgt := 84) (by decide) dX9_isPuzzle_77 (fun hc77 => ?_) (fun hc77 => ?_)
      · rw [if_pos hc77] at h
        refine J_iconst (pc := 84) (v := (0 : Int32)) (by decide) dX9_isPuzzle_84 ?_
        exact J_zret (pc := 85) (Or.inl rfl) (qi_of h) dX9_isPuzzle_85
      · rw [if_neg hc77] at h
        refine J_iconst (pc := 80) (v := (1 : Int32)) (by decide) dX9_isPuzzle_80 ?_
        refine J_goto (pc := 81) (tgt := 85) (by decide) dX9_isPuzzle_81 ?_
        exact J_zret (pc := 85) (Or.inr rfl) (qi_of h) dX9_isPuzzle_85
    · rw [if_neg hc27] at h
      refine J_iload_n (pc := 30) (q := 2) rfl rfl dX9_isPuzzle_30 ?_
      refine J_aload_n (pc := 31) (q := 0) rfl rfl dX9_isPuzzle_31 ?_
      refine J_iload_n (pc := 32) (q := 1) rfl rfl dX9_isPuzzle_32 ?_
      refine J_iload_n (pc := 33) (q := 3) rfl rfl dX9_isPuzzle_33 ?_
      obtain ⟨b34, hb34, g_1⟩ := bnd h
      obtain ⟨r34, M34, h34, g_2⟩ := bnd2 g_1
      refine J_callVI (pc := 34) (as := [vI x1, vI x3]) (tX9_behind (d := d)  h34) cf_X9_behind cv_X9_behind clF9 hb34 ml_RX9_220 (by omega) (Nat.le_of_ble_eq_true rfl) dX9_isPuzzle_34 ?_
      refine J_iflt (pc := 37) (tgt := 66) (by decide) dX9_isPuzzle_37 (fun hc37 => ?_) (fun hc37 => ?_)
      · rw [if_pos hc37] at g_2
        refine J_sub [0, 1, 3] (lv' := [(0, vR (some x0)), (1, vI x1), (3, vI x3)]) rfl ?_
        exact jX9_isPuzzle_b66 hk24 g_2
      · rw [if_neg hc37] at g_2
        refine J_aload_n (pc := 40) (q := 0) rfl rfl dX9_isPuzzle_40 ?_
        obtain ⟨a41, h41, g_3⟩ := bnd g_2
        refine J_getR (pc := 41) (i := 10) clF9 (by decide) rfl fl_RX9_40 h41 dX9_isPuzzle_41 ?_
        refine J_aload_n (pc := 44) (q := 0) rfl rfl dX9_isPuzzle_44 ?_
        refine J_iload_n (pc := 45) (q := 1) rfl rfl dX9_isPuzzle_45 ?_
        refine J_iload_n (pc := 46) (q := 3) rfl rfl dX9_isPuzzle_46 ?_
        obtain ⟨b47, hb47, g_4⟩ := bnd g_3
        obtain ⟨r47, M47, h47, g_5⟩ := bnd2 g_4
        refine J_callVI (pc := 47) (as := [vI x1, vI x3]) (tX9_behind (d := d)  h47) cf_X9_behind cv_X9_behind clF9 hb47 ml_RX9_220 (by omega) (Nat.le_of_ble_eq_true rfl) dX9_isPuzzle_47 ?_
        obtain ⟨a50, h50, g_6⟩ := bnd g_5
        refine J_ald0 (pc := 50) h50 dX9_isPuzzle_50 ?_
        refine J_aload_n (pc := 51) (q := 0) rfl rfl dX9_isPuzzle_51 ?_
        obtain ⟨a52, h52, g_7⟩ := bnd g_6
        refine J_getR (pc := 52) (i := 10) clF9 (by decide) rfl fl_RX9_40 h52 dX9_isPuzzle_52 ?_
        refine J_iload_n (pc := 55) (q := 1) rfl rfl dX9_isPuzzle_55 ?_
        obtain ⟨a56, h56, g_8⟩ := bnd g_7
        refine J_ald0 (pc := 56) h56 dX9_isPuzzle_56 ?_
        refine J_iconst (pc := 57) (v := (1 : Int32)) (by decide) dX9_isPuzzle_57 ?_
        refine J_isub (pc := 58) dX9_isPuzzle_58 ?_
        refine J_icne (pc := 59) (tgt := 66) (by decide) dX9_isPuzzle_59 (fun hc59 => ?_) (fun hc59 => ?_)
        · rw [if_pos hc59] at g_8
          refine J_sub [0, 1, 3] (lv' := [(0, vR (some x0)), (1, vI x1), (3, vI x3)]) rfl ?_
          exact jX9_isPuzzle_b66 hk24 g_8
        · rw [if_neg hc59] at g_8
          refine J_iconst (pc := 62) (v := (1 : Int32)) (by decide) dX9_isPuzzle_62 ?_
          refine J_goto (pc := 63) (tgt := 67) (by decide) dX9_isPuzzle_63 ?_
          refine J_sub [0, 1, 3] (lv' := [(0, vR (some x0)), (1, vI x1), (3, vI x3)]) rfl ?_
          exact jX9_isPuzzle_b67 hk24 g_8
set_option maxHeartbeats 4000000 in
set_option maxRecDepth 100000 in
theorem tX9_isPuzzle {ad : Nat → Nat} {ca : Nat → ClassId} {D : va_G} {FU d : Nat} {r : Int32} {N : Mem}  {x0 : Nat} {x1 : Int32} {M : Mem}  (h : fX9_isPuzzle FU  x0 x1 M = some (r, N)) : Ct ad ca D yX9_isPuzzle cX9_isPuzzle 4 (some .boolean) (d + 5) [vR (some x0), vI x1] M (QI r N) := by
  refine Ct_of (by decide) (Nat.le_of_ble_eq_true rfl) ?_
  show J ad ca D cX9_isPuzzle RX9 4 (d + 5) (Gt ad ca D (some .boolean) (QI r N)) 0 [(0, vR (some x0)), (1, vI x1)] [] M
  unfold fX9_isPuzzle at h
  refine J_aload_n (pc := 0) (q := 0) rfl rfl dX9_isPuzzle_0 ?_
  refine J_iload_n (pc := 1) (q := 1) rfl rfl dX9_isPuzzle_1 ?_
  obtain ⟨b2, hb2, g_9⟩ := bnd h
  obtain ⟨r2, M2, h2, g_10⟩ := bnd2 g_9
  refine J_callVI (pc := 2) (as := [vI x1]) (tX9_counts (d := d)  h2) cf_X9_counts cv_X9_counts clF9 hb2 ml_RX9_251 (by omega) (Nat.le_of_ble_eq_true rfl) dX9_isPuzzle_2 ?_
  refine J_ifeq (pc := 5) (tgt := 18) (by decide) dX9_isPuzzle_5 (fun hc5 => ?_) (fun hc5 => ?_)
  · rw [if_pos hc5] at g_10
    refine J_iconst (pc := 18) (v := (0 : Int32)) (by decide) dX9_isPuzzle_18 ?_
    exact J_zret (pc := 19) (Or.inl rfl) (qi_of g_10) dX9_isPuzzle_19
  · rw [if_neg hc5] at g_10
    refine J_aload_n (pc := 8) (q := 0) rfl rfl dX9_isPuzzle_8 ?_
    obtain ⟨a9, h9, g_11⟩ := bnd g_10
    refine J_getR (pc := 9) (i := 10) clF9 (by decide) rfl fl_RX9_40 h9 dX9_isPuzzle_9 ?_
    refine J_iload_n (pc := 12) (q := 1) rfl rfl dX9_isPuzzle_12 ?_
    obtain ⟨a13, h13, g_12⟩ := bnd g_11
    refine J_ald0 (pc := 13) h13 dX9_isPuzzle_13 ?_
    refine J_iconst (pc := 14) (v := (1 : Int32)) (by decide) dX9_isPuzzle_14 ?_
    refine J_icge (pc := 15) (tgt := 20) (by decide) dX9_isPuzzle_15 (fun hc15 => ?_) (fun hc15 => ?_)
    · rw [if_pos hc15] at g_12
      refine J_iconst (pc := 20) (v := (0 : Int32)) (by decide) dX9_isPuzzle_20 ?_
      refine J_istore_n (pc := 21) rfl (by decide) (lv' := [(0, vR (some x0)), (1, vI x1), (2, vI (0 : Int32))]) rfl dX9_isPuzzle_21 ?_
      refine J_iconst (pc := 22) (v := (0 : Int32)) (by decide) dX9_isPuzzle_22 ?_
      refine J_istore_n (pc := 23) rfl (by decide) (lv' := [(0, vR (some x0)), (1, vI x1), (2, vI (0 : Int32)), (3, vI (0 : Int32))]) rfl dX9_isPuzzle_23 ?_
      exact jX9_isPuzzle_L24  FU _ _ _ g_12
    · rw [if_neg hc15] at g_12
      refine J_iconst (pc := 18) (v := (0 : Int32)) (by decide) dX9_isPuzzle_18 ?_
      exact J_zret (pc := 19) (Or.inl rfl) (qi_of g_12) dX9_isPuzzle_19
set_option maxHeartbeats 4000000 in
set_option maxRecDepth 100000 in
theorem jX9_puzzle_b97 {ad : Nat → Nat} {ca : Nat → ClassId} {D : va_G} {FU d : Nat} {r : Int32} {N : Mem}  {k31 : Int32 → Int32 → Mem → Option (Int32 × Mem)} {x0 : Nat} {x1 : Int32} {x2 : Int32} {x3 : Int32} {x4 : Int32} {M : Mem}  (hk31 : ∀ (y3 : Int32) (y4 : Int32) (M : Mem), k31 y3 y4 M = some (r, N) → J ad ca D cX9_puzzle RX9 5 (d + 8) (Gt ad ca D (some .int) (QI r N)) 31 [(0, vR (some x0)), (1, vI x1), (2, vI x2), (3, vI y3), (4, vI y4)] [] M) (h : fX9_puzzle_b97 FU  k31 x0 x1 x2 x3 x4 M = some (r, N)) : J ad ca D cX9_puzzle RX9 5 (d + 8) (Gt ad ca D (some .int) (QI r N)) 97 [(0, vR (some x0)), (1, vI x1), (2, vI x2), (3, vI x3), (4, vI x4)] [] M := by
  unfold fX9_puzzle_b97 at h
  refine J_iinc (pc := 97) (q := 4) rfl (v := x4 + (1 : Int32)) rfl (by decide) (lv' := [(0, vR (some x0)), (1, vI x1), (2, vI x2), (3, vI x3), (4, vI (x4 + (1 : Int32)))]) rfl dX9_puzzle_97 ?_
  refine J_goto (pc := 100) (tgt := 31) (by decide) dX9_puzzle_100 ?_
  exact hk31 _ _ _ h
set_option maxHeartbeats 4000000 in
set_option maxRecDepth 100000 in
theorem jX9_puzzle_L31 {ad : Nat → Nat} {ca : Nat → ClassId} {D : va_G} {FU d : Nat} {r : Int32} {N : Mem}   {x0 : Nat} {x1 : Int32} {x2 : Int32}   : ∀ (F : Nat) (x3 : Int32) (x4 : Int32) (M : Mem), fX9_puzzle_L31 FU  x0 x1 x2 F x3 x4 M = some (r, N) → J ad ca D cX9_puzzle RX9 5 (d + 8) (Gt ad ca D (some .int) (QI r N)) 31 [(0, vR (some x0)), (1, vI x1), (2, vI x2), (3, vI x3), (4, vI x4)] [] M := by
  intro F
  induction F with
  | zero =>
    intro x3 x4 M h
    rw [fX9_puzzle_L31] at h
    cases h
  | succ F hk31 =>
    intro x3 x4 M h
    rw [fX9_puzzle_L31] at h
    refine J_iload (pc := 31) (q := 4) rfl dX9_puzzle_31 ?_
    refine J_sipush (pc := 33) (v := (9216 : Int32)) (by decide) dX9_puzzle_33 ?_
    refine J_icge (pc := 36) (tgt := 103) (by decide) dX9_puzzle_36 (fun hc36 => ?_) (fun hc36 => ?_)
    · rw [if_pos hc36] at h
      refine J_iload_n (pc := 103) (q := 2) rfl rfl dX9_puzzle_103 ?_
      refine J_ifge (pc := 104) (tgt := 111) (by decide) dX9_puzzle_104 (fun hc104 => ?_) (fun hc104 => ?_)
      · rw [if_pos hc104] at h
        refine J_iconst (pc := 111) (v := (-1 : Int32)) (by decide) dX9_puzzle_111 ?_
        exact J_iret (pc := 112) (qi_of h) dX9_puzzle_112
      · rw [if_neg hc104] at h
        refine J_iload_n (pc := 107) (q := 3) rfl rfl dX9_puzzle_107 ?_
        refine J_goto (pc := 108) (tgt := 112) (by decide) dX9_puzzle_108 ?_
        exact J_iret (pc := 112) (qi_of h) dX9_puzzle_112
    · rw [if_neg hc36] at h
      refine J_aload_n (pc := 39) (q := 0) rfl rfl dX9_puzzle_39 ?_
      obtain ⟨a40, h40, g_1⟩ := bnd h
      refine J_getR (pc := 40) (i := 10) clF9 (by decide) rfl fl_RX9_40 h40 dX9_puzzle_40 ?_
      refine J_iload (pc := 43) (q := 4) rfl dX9_puzzle_43 ?_
      obtain ⟨a45, h45, g_2⟩ := bnd g_1
      refine J_ald0 (pc := 45) h45 dX9_puzzle_45 ?_
      refine J_iload_n (pc := 46) (q := 1) rfl rfl dX9_puzzle_46 ?_
      refine J_icne (pc := 47) (tgt := 97) (by decide) dX9_puzzle_47 (fun hc47 => ?_) (fun hc47 => ?_)
      · rw [if_pos hc47] at g_2
        exact jX9_puzzle_b97 hk31 g_2
      · rw [if_neg hc47] at g_2
        refine J_aload_n (pc := 50) (q := 0) rfl rfl dX9_puzzle_50 ?_
        refine J_iload (pc := 51) (q := 4) rfl dX9_puzzle_51 ?_
        obtain ⟨b53, hb53, g_3⟩ := bnd g_2
        obtain ⟨r53, M53, h53, g_4⟩ := bnd2 g_3
        refine J_callVI (pc := 53) (as := [vI x4]) (tX9_isPuzzle (d := d)  h53) cf_X9_isPuzzle cv_X9_isPuzzle clF9 hb53 ml_RX9_257 (by omega) (Nat.le_of_ble_eq_true rfl) dX9_puzzle_53 ?_
        refine J_ifne (pc := 56) (tgt := 62) (by decide) dX9_puzzle_56 (fun hc56 => ?_) (fun hc56 => ?_)
        · rw [if_pos hc56] at g_4
          refine J_iload_n (pc := 62) (q := 3) rfl rfl dX9_puzzle_62 ?_
          refine J_iload_n (pc := 63) (q := 2) rfl rfl dX9_puzzle_63 ?_
          refine J_icne (pc := 64) (tgt := 94) (by decide) dX9_puzzle_64 (fun hc64 => ?_) (fun hc64 => ?_)
          · rw [if_pos hc64] at g_4
            refine J_iinc (pc := 94) (q := 3) rfl (v := x3 + (1 : Int32)) rfl (by decide) (lv' := [(0, vR (some x0)), (1, vI x1), (2, vI x2), (4, vI x4), (3, vI (x3 + (1 : Int32)))]) rfl dX9_puzzle_94 ?_
            refine J_sub [0, 1, 2, 4, 3] (lv' := [(0, vR (some x0)), (1, vI x1), (2, vI x2), (3, vI (x3 + (1 : Int32))), (4, vI x4)]) rfl ?_
            exact jX9_puzzle_b97 hk31 g_4
          · rw [if_neg hc64] at g_4
            refine J_bipush (pc := 67) (v := (100 : Int32)) (by decide) dX9_puzzle_67 ?_
            refine J_aload_n (pc := 69) (q := 0) rfl rfl dX9_puzzle_69 ?_
            refine J_iload (pc := 70) (q := 4) rfl dX9_puzzle_70 ?_
            obtain ⟨b72, hb72, g_5⟩ := bnd g_4
            obtain ⟨r72, M72, h72, g_6⟩ := bnd2 g_5
            refine J_callVI (pc := 72) (as := [vI x4]) (tX9_firstOf (d := d)  h72) cf_X9_firstOf cv_X9_firstOf clF9 hb72 ml_RX9_195 (by omega) (Nat.le_of_ble_eq_true rfl) dX9_puzzle_72 ?_
            refine J_imul (pc := 75) dX9_puzzle_75 ?_
            refine J_bipush (pc := 76) (v := (10 : Int32)) (by decide) dX9_puzzle_76 ?_
            refine J_aload_n (pc := 78) (q := 0) rfl rfl dX9_puzzle_78 ?_
            refine J_iload (pc := 79) (q := 4) rfl dX9_puzzle_79 ?_
            obtain ⟨b81, hb81, g_7⟩ := bnd g_6
            obtain ⟨r81, M81, h81, g_8⟩ := bnd2 g_7
            refine J_callVI (pc := 81) (as := [vI x4]) (tX9_secondOf (d := d)  h81) cf_X9_secondOf cv_X9_secondOf clF9 hb81 ml_RX9_198 (by omega) (Nat.le_of_ble_eq_true rfl) dX9_puzzle_81 ?_
            refine J_imul (pc := 84) dX9_puzzle_84 ?_
            refine J_iadd (pc := 85) dX9_puzzle_85 ?_
            refine J_aload_n (pc := 86) (q := 0) rfl rfl dX9_puzzle_86 ?_
            refine J_iload (pc := 87) (q := 4) rfl dX9_puzzle_87 ?_
            obtain ⟨b89, hb89, g_9⟩ := bnd g_8
            obtain ⟨r89, M89, h89, g_10⟩ := bnd2 g_9
            refine J_callVI (pc := 89) (as := [vI x4]) (tX9_runnerOf (d := d)  h89) cf_X9_runnerOf cv_X9_runnerOf clF9 hb89 ml_RX9_201 (by omega) (Nat.le_of_ble_eq_true rfl) dX9_puzzle_89 ?_
            refine J_iadd (pc := 92) dX9_puzzle_92 ?_
            exact J_iret (pc := 93) (qi_of g_10) dX9_puzzle_93
        · rw [if_neg hc56] at g_4
          refine J_goto (pc := 59) (tgt := 97) (by decide) dX9_puzzle_59 ?_
          exact jX9_puzzle_b97 hk31 g_4
set_option maxHeartbeats 4000000 in
set_option maxRecDepth 100000 in
theorem tX9_puzzle {ad : Nat → Nat} {ca : Nat → ClassId} {D : va_G} {FU d : Nat} {r : Int32} {N : Mem}  {x0 : Nat} {x1 : Int32} {x2 : Int32} {M : Mem}  (h : fX9_puzzle FU  x0 x1 x2 M = some (r, N)) : Ct ad ca D yX9_puzzle cX9_puzzle 5 (some .int) (d + 8) [vR (some x0), vI x1, vI x2] M (QI r N) := by
  refine Ct_of (by decide) (Nat.le_of_ble_eq_true rfl) ?_
  show J ad ca D cX9_puzzle RX9 5 (d + 8) (Gt ad ca D (some .int) (QI r N)) 0 [(0, vR (some x0)), (1, vI x1), (2, vI x2)] [] M
  unfold fX9_puzzle at h
  refine J_aload_n (pc := 0) (q := 0) rfl rfl dX9_puzzle_0 ?_
  refine J_iload_n (pc := 1) (q := 1) rfl rfl dX9_puzzle_1 ?_
  refine J_iconst (pc := 2) (v := (1 : Int32)) (by decide) dX9_puzzle_2 ?_
  refine J_sipush (pc := 3) (v := (999 : Int32)) (by decide) dX9_puzzle_3 ?_
  obtain ⟨b6, hb6, g_11⟩ := bnd h
  obtain ⟨r6, M6, h6, g_12⟩ := bnd2 g_11
  refine J_callVI (pc := 6) (as := [vI x1, vI (1 : Int32), vI (999 : Int32)]) (tX9_in (d := d)  h6) cf_X9_in cv_X9_in clF9 hb6 ml_RX9_155 (by omega) (Nat.le_of_ble_eq_true rfl) dX9_puzzle_6 ?_
  refine J_ifne (pc := 9) (tgt := 15) (by decide) dX9_puzzle_9 (fun hc9 => ?_) (fun hc9 => ?_)
  · rw [if_pos hc9] at g_12
    refine J_iload_n (pc := 15) (q := 2) rfl rfl dX9_puzzle_15 ?_
    refine J_iconst (pc := 16) (v := (-1 : Int32)) (by decide) dX9_puzzle_16 ?_
    refine J_icge (pc := 17) (tgt := 22) (by decide) dX9_puzzle_17 (fun hc17 => ?_) (fun hc17 => ?_)
    · rw [if_pos hc17] at g_12
      refine J_aload_n (pc := 22) (q := 0) rfl rfl dX9_puzzle_22 ?_
      obtain ⟨b23, hb23, g_13⟩ := bnd g_12
      obtain ⟨M23, h23, g_14⟩ := bnd g_13
      refine J_callVV (pc := 23) (as := []) (tX9_solve (d := d)  h23) cf_X9_solve cv_X9_solve clF9 hb23 ml_RX9_244 (by omega) (Nat.le_of_ble_eq_true rfl) dX9_puzzle_23 ?_
      refine J_iconst (pc := 26) (v := (0 : Int32)) (by decide) dX9_puzzle_26 ?_
      refine J_istore_n (pc := 27) rfl (by decide) (lv' := [(0, vR (some x0)), (1, vI x1), (2, vI x2), (3, vI (0 : Int32))]) rfl dX9_puzzle_27 ?_
      refine J_iconst (pc := 28) (v := (0 : Int32)) (by decide) dX9_puzzle_28 ?_
      refine J_istore (pc := 29) (by decide) (lv' := [(0, vR (some x0)), (1, vI x1), (2, vI x2), (3, vI (0 : Int32)), (4, vI (0 : Int32))]) rfl dX9_puzzle_29 ?_
      exact jX9_puzzle_L31  FU _ _ _ g_14
    · rw [if_neg hc17] at g_12
      refine J_iconst (pc := 20) (v := (-1 : Int32)) (by decide) dX9_puzzle_20 ?_
      exact J_iret (pc := 21) (qi_of g_12) dX9_puzzle_21
  · rw [if_neg hc9] at g_12
    refine J_bipush (pc := 12) (v := (-2 : Int32)) (by decide) dX9_puzzle_12 ?_
    exact J_iret (pc := 14) (qi_of g_12) dX9_puzzle_14
