set_option maxHeartbeats 4000000 in
set_option maxRecDepth 100000 in
theorem tX5_has {ad : Nat → Nat} {ca : Nat → ClassId} {D : va_G} {FU d : Nat} {r : Int32} {N : Mem}  {x0 : Nat} {x1 : Int32} {M : Mem}  (h : fX5_has FU  x0 x1 M = some (r, N)) : Ct ad ca D yX5_has cX5_has 2 (some .boolean) (d + 0) [vR (some x0), vI x1] M (QI r N) := by
  refine Ct_of (by decide) (Nat.le_of_ble_eq_true rfl) ?_
  show J ad ca D cX5_has RX5 2 (d + 0) (Gt ad ca D (some .boolean) (QI r N)) 0 [(0, vR (some x0)), (1, vI x1)] [] M
  unfold fX5_has at h
  refine J_iload_n (pc := 0) (q := 1) rfl rfl dX5_has_0 ?_
  refine J_iflt (pc := 1) (tgt := 16) (by decide) dX5_has_1 (fun hc1 => ?_) (fun hc1 => ?_)
  · rw [if_pos hc1] at h
    refine J_iconst (pc := 16) (v := (0 : Int32)) (by decide) dX5_has_16 ?_
    exact J_zret (pc := 17) (Or.inl rfl) (qi_of h) dX5_has_17
  · rw [if_neg hc1] at h
    refine J_iload_n (pc := 4) (q := 1) rfl rfl dX5_has_4 ?_
    refine J_aload_n (pc := 5) (q := 0) rfl rfl dX5_has_5 ?_
    obtain ⟨a6, h6, g_1⟩ := bnd h
    refine J_getI (pc := 6) (i := 1) clF5 (by decide) rfl fl_RX5_28 h6 dX5_has_6 ?_
    refine J_icge (pc := 9) (tgt := 16) (by decide) dX5_has_9 (fun hc9 => ?_) (fun hc9 => ?_)
    · rw [if_pos hc9] at g_1
      refine J_iconst (pc := 16) (v := (0 : Int32)) (by decide) dX5_has_16 ?_
      exact J_zret (pc := 17) (Or.inl rfl) (qi_of g_1) dX5_has_17
    · rw [if_neg hc9] at g_1
      refine J_iconst (pc := 12) (v := (1 : Int32)) (by decide) dX5_has_12 ?_
      refine J_goto (pc := 13) (tgt := 17) (by decide) dX5_has_13 ?_
      exact J_zret (pc := 17) (Or.inr rfl) (qi_of g_1) dX5_has_17
set_option maxHeartbeats 4000000 in
set_option maxRecDepth 100000 in
theorem tX5_put {ad : Nat → Nat} {ca : Nat → ClassId} {D : va_G} {FU d : Nat} {N : Mem}  {x0 : Nat} {x1 : Int32} {x2 : Int32} {M : Mem}  (h : fX5_put FU  x0 x1 x2 M = some N) : Ct ad ca D yX5_put cX5_put 3 none (d + 1) [vR (some x0), vI x1, vI x2] M (QV N) := by
  refine Ct_of (by decide) (Nat.le_of_ble_eq_true rfl) ?_
  show J ad ca D cX5_put RX5 3 (d + 1) (Gt ad ca D none (QV N)) 0 [(0, vR (some x0)), (1, vI x1), (2, vI x2)] [] M
  unfold fX5_put at h
  refine J_aload_n (pc := 0) (q := 0) rfl rfl dX5_put_0 ?_
  refine J_iload_n (pc := 1) (q := 1) rfl rfl dX5_put_1 ?_
  obtain ⟨b2, hb2, g_1⟩ := bnd h
  obtain ⟨r2, M2, h2, g_2⟩ := bnd2 g_1
  refine J_callVI (pc := 2) (as := [vI x1]) (tX5_has (d := d)  h2) cf_X5_has cv_X5_has clF5 hb2 ml_RX5_31 (by omega) (Nat.le_of_ble_eq_true rfl) dX5_put_2 ?_
  refine J_ifeq (pc := 5) (tgt := 40) (by decide) dX5_put_5 (fun hc5 => ?_) (fun hc5 => ?_)
  · rw [if_pos hc5] at g_2
    exact J_vret (pc := 40) (qv_of g_2) dX5_put_40
  · rw [if_neg hc5] at g_2
    refine J_aload_n (pc := 8) (q := 0) rfl rfl dX5_put_8 ?_
    obtain ⟨a9, h9, g_3⟩ := bnd g_2
    refine J_getR (pc := 9) (i := 2) clF5 (by decide) rfl fl_RX5_15 h9 dX5_put_9 ?_
    refine J_iload_n (pc := 12) (q := 1) rfl rfl dX5_put_12 ?_
    refine J_aload_n (pc := 13) (q := 0) rfl rfl dX5_put_13 ?_
    obtain ⟨a14, h14, g_4⟩ := bnd g_3
    refine J_getI (pc := 14) (i := 0) clF5 (by decide) rfl fl_RX5_9 h14 dX5_put_14 ?_
    refine J_ifne (pc := 17) (tgt := 25) (by decide) dX5_put_17 (fun hc17 => ?_) (fun hc17 => ?_)
    · rw [if_pos hc17] at g_4
      refine J_aload_n (pc := 25) (q := 0) rfl rfl dX5_put_25 ?_
      obtain ⟨a26, h26, g_5⟩ := bnd g_4
      refine J_getI (pc := 26) (i := 0) clF5 (by decide) rfl fl_RX5_9 h26 dX5_put_26 ?_
      refine J_iconst (pc := 29) (v := (1 : Int32)) (by decide) dX5_put_29 ?_
      refine J_icne (pc := 30) (tgt := 38) (by decide) dX5_put_30 (fun hc30 => ?_) (fun hc30 => ?_)
      · rw [if_pos hc30] at g_5
        refine J_iload_n (pc := 38) (q := 2) rfl rfl dX5_put_38 ?_
        obtain ⟨M39, h39, g_6⟩ := bnd g_5
        refine J_ast0 (pc := 39) h39 dX5_put_39 ?_
        exact J_vret (pc := 40) (qv_of g_6) dX5_put_40
      · rw [if_neg hc30] at g_5
        refine J_iload_n (pc := 33) (q := 2) rfl rfl dX5_put_33 ?_
        refine J_i2s (pc := 34) dX5_put_34 ?_
        refine J_goto (pc := 35) (tgt := 39) (by decide) dX5_put_35 ?_
        obtain ⟨M39, h39, g_7⟩ := bnd g_5
        refine J_ast0 (pc := 39) h39 dX5_put_39 ?_
        exact J_vret (pc := 40) (qv_of g_7) dX5_put_40
    · rw [if_neg hc17] at g_4
      refine J_iload_n (pc := 20) (q := 2) rfl rfl dX5_put_20 ?_
      refine J_i2b (pc := 21) dX5_put_21 ?_
      refine J_goto (pc := 22) (tgt := 39) (by decide) dX5_put_22 ?_
      obtain ⟨M39, h39, g_8⟩ := bnd g_4
      refine J_ast0 (pc := 39) h39 dX5_put_39 ?_
      exact J_vret (pc := 40) (qv_of g_8) dX5_put_40
set_option maxHeartbeats 4000000 in
set_option maxRecDepth 100000 in
theorem jX6_clearRows_L57 {ad : Nat → Nat} {ca : Nat → ClassId} {D : va_G} {FU d : Nat} {N : Mem}   {x0 : Nat}   : ∀ (F : Nat) (x1 : Int32) (M : Mem), fX6_clearRows_L57 FU  x0 F x1 M = some N → J ad ca D cX6_clearRows RX6 2 (d + 1) (Gt ad ca D none (QV N)) 57 [(0, vR (some x0)), (1, vI x1)] [] M := by
  intro F
  induction F with
  | zero =>
    intro x1 M h
    rw [fX6_clearRows_L57] at h
    cases h
  | succ F hk57 =>
    intro x1 M h
    rw [fX6_clearRows_L57] at h
    refine J_iload_n (pc := 57) (q := 1) rfl rfl dX6_clearRows_57 ?_
    refine J_sipush (pc := 58) (v := (1024 : Int32)) (by decide) dX6_clearRows_58 ?_
    refine J_icge (pc := 61) (tgt := 77) (by decide) dX6_clearRows_61 (fun hc61 => ?_) (fun hc61 => ?_)
    · rw [if_pos hc61] at h
      exact J_vret (pc := 77) (qv_of h) dX6_clearRows_77
    · rw [if_neg hc61] at h
      refine J_aload_n (pc := 64) (q := 0) rfl rfl dX6_clearRows_64 ?_
      obtain ⟨a65, h65, g_1⟩ := bnd h
      refine J_getR (pc := 65) (i := 9) clF6 (by decide) rfl fl_RX6_25 h65 dX6_clearRows_65 ?_
      refine J_iload_n (pc := 68) (q := 1) rfl rfl dX6_clearRows_68 ?_
      refine J_iconst (pc := 69) (v := (-1 : Int32)) (by decide) dX6_clearRows_69 ?_
      obtain ⟨M70, h70, g_2⟩ := bnd g_1
      refine J_ast0 (pc := 70) h70 dX6_clearRows_70 ?_
      refine J_iinc (pc := 71) (q := 1) rfl (v := x1 + (1 : Int32)) rfl (by decide) (lv' := [(0, vR (some x0)), (1, vI (x1 + (1 : Int32)))]) rfl dX6_clearRows_71 ?_
      refine J_goto (pc := 74) (tgt := 57) (by decide) dX6_clearRows_74 ?_
      exact hk57 _ _ g_2
set_option maxHeartbeats 4000000 in
set_option maxRecDepth 100000 in
theorem jX6_clearRows_L23 {ad : Nat → Nat} {ca : Nat → ClassId} {D : va_G} {FU d : Nat} {N : Mem}   {x0 : Nat}   : ∀ (F : Nat) (x1 : Int32) (M : Mem), fX6_clearRows_L23 FU  x0 F x1 M = some N → J ad ca D cX6_clearRows RX6 2 (d + 1) (Gt ad ca D none (QV N)) 23 [(0, vR (some x0)), (1, vI x1)] [] M := by
  intro F
  induction F with
  | zero =>
    intro x1 M h
    rw [fX6_clearRows_L23] at h
    cases h
  | succ F hk23 =>
    intro x1 M h
    rw [fX6_clearRows_L23] at h
    refine J_iload_n (pc := 23) (q := 1) rfl rfl dX6_clearRows_23 ?_
    refine J_aload_n (pc := 24) (q := 0) rfl rfl dX6_clearRows_24 ?_
    obtain ⟨a25, h25, g_3⟩ := bnd h
    refine J_getI (pc := 25) (i := 14) clF6 (by decide) rfl fl_RX6_37 h25 dX6_clearRows_25 ?_
    refine J_sipush (pc := 28) (v := (1024 : Int32)) (by decide) dX6_clearRows_28 ?_
    refine J_imul (pc := 31) dX6_clearRows_31 ?_
    refine J_icge (pc := 32) (tgt := 55) (by decide) dX6_clearRows_32 (fun hc32 => ?_) (fun hc32 => ?_)
    · rw [if_pos hc32] at g_3
      refine J_iconst (pc := 55) (v := (0 : Int32)) (by decide) dX6_clearRows_55 ?_
      refine J_istore_n (pc := 56) rfl (by decide) (lv' := [(0, vR (some x0)), (1, vI (0 : Int32))]) rfl dX6_clearRows_56 ?_
      exact jX6_clearRows_L57  FU _ _ g_3
    · rw [if_neg hc32] at g_3
      refine J_aload_n (pc := 35) (q := 0) rfl rfl dX6_clearRows_35 ?_
      obtain ⟨a36, h36, g_4⟩ := bnd g_3
      refine J_getR (pc := 36) (i := 5) clF6 (by decide) rfl fl_RX6_15 h36 dX6_clearRows_36 ?_
      refine J_iload_n (pc := 39) (q := 1) rfl rfl dX6_clearRows_39 ?_
      refine J_iconst (pc := 40) (v := (-1 : Int32)) (by decide) dX6_clearRows_40 ?_
      obtain ⟨M41, h41, g_5⟩ := bnd g_4
      refine J_ast0 (pc := 41) h41 dX6_clearRows_41 ?_
      refine J_aload_n (pc := 42) (q := 0) rfl rfl dX6_clearRows_42 ?_
      obtain ⟨a43, h43, g_6⟩ := bnd g_5
      refine J_getR (pc := 43) (i := 6) clF6 (by decide) rfl fl_RX6_19 h43 dX6_clearRows_43 ?_
      refine J_iload_n (pc := 46) (q := 1) rfl rfl dX6_clearRows_46 ?_
      refine J_iconst (pc := 47) (v := (0 : Int32)) (by decide) dX6_clearRows_47 ?_
      obtain ⟨M48, h48, g_7⟩ := bnd g_6
      refine J_ast0 (pc := 48) h48 dX6_clearRows_48 ?_
      refine J_iinc (pc := 49) (q := 1) rfl (v := x1 + (1 : Int32)) rfl (by decide) (lv' := [(0, vR (some x0)), (1, vI (x1 + (1 : Int32)))]) rfl dX6_clearRows_49 ?_
      refine J_goto (pc := 52) (tgt := 23) (by decide) dX6_clearRows_52 ?_
      exact hk23 _ _ g_7
set_option maxHeartbeats 4000000 in
set_option maxRecDepth 100000 in
theorem tX6_clearRows {ad : Nat → Nat} {ca : Nat → ClassId} {D : va_G} {FU d : Nat} {N : Mem}  {x0 : Nat} {M : Mem}  (h : fX6_clearRows FU  x0 M = some N) : Ct ad ca D yX6_clearRows cX6_clearRows 2 none (d + 1) [vR (some x0)] M (QV N) := by
  refine Ct_of (by decide) (Nat.le_of_ble_eq_true rfl) ?_
  show J ad ca D cX6_clearRows RX6 2 (d + 1) (Gt ad ca D none (QV N)) 0 [(0, vR (some x0))] [] M
  unfold fX6_clearRows at h
  refine J_aload_n (pc := 0) (q := 0) rfl rfl dX6_clearRows_0 ?_
  refine J_aload_n (pc := 1) (q := 0) rfl rfl dX6_clearRows_1 ?_
  obtain ⟨a2, h2, g_8⟩ := bnd h
  refine J_getR (pc := 2) (i := 0) clF6 (by decide) rfl fl_RX6_50 h2 dX6_clearRows_2 ?_
  obtain ⟨b5, hb5, g_9⟩ := bnd g_8
  obtain ⟨r5, M5, h5, g_10⟩ := bnd2 g_9
  refine J_callVI (pc := 5) (as := []) (tX3_shutStates (d := d)  h5) cf_X3_shutStates cv_X3_shutStates clF3 hb5 ml_RX6_87 (by omega) (Nat.le_of_ble_eq_true rfl) dX6_clearRows_5 ?_
  obtain ⟨M8, h8, g_11⟩ := bnd g_10
  refine J_putI (pc := 8) (i := 14) clF6 (by decide) rfl fl_RX6_37 rfl rfl h8 dX6_clearRows_8 ?_
  refine J_aload_n (pc := 11) (q := 0) rfl rfl dX6_clearRows_11 ?_
  refine J_iconst (pc := 12) (v := (0 : Int32)) (by decide) dX6_clearRows_12 ?_
  obtain ⟨M13, h13, g_12⟩ := bnd g_11
  refine J_putI (pc := 13) (i := 8) clF6 (by decide) rfl fl_RX6_91 rfl rfl h13 dX6_clearRows_13 ?_
  refine J_aload_n (pc := 16) (q := 0) rfl rfl dX6_clearRows_16 ?_
  refine J_iconst (pc := 17) (v := (0 : Int32)) (by decide) dX6_clearRows_17 ?_
  obtain ⟨M18, h18, g_13⟩ := bnd g_12
  refine J_putI (pc := 18) (i := 13) clF6 (by decide) rfl fl_RX6_94 rfl rfl h18 dX6_clearRows_18 ?_
  refine J_iconst (pc := 21) (v := (0 : Int32)) (by decide) dX6_clearRows_21 ?_
  refine J_istore_n (pc := 22) rfl (by decide) (lv' := [(0, vR (some x0)), (1, vI (0 : Int32))]) rfl dX6_clearRows_22 ?_
  exact jX6_clearRows_L23  FU _ _ g_13
set_option maxHeartbeats 4000000 in
set_option maxRecDepth 100000 in
theorem tX6_oneShutThen {ad : Nat → Nat} {ca : Nat → ClassId} {D : va_G} {FU d : Nat} {r : Int32} {N : Mem}  {x0 : Nat} {x1 : Int32} {x2 : Int32} {x3 : Int32} {M : Mem}  (h : fX6_oneShutThen FU  x0 x1 x2 x3 M = some (r, N)) : Ct ad ca D yX6_oneShutThen cX6_oneShutThen 4 (some .int) (d + 1) [vR (some x0), vI x1, vI x2, vI x3] M (QI r N) := by
  refine Ct_of (by decide) (Nat.le_of_ble_eq_true rfl) ?_
  show J ad ca D cX6_oneShutThen RX6 4 (d + 1) (Gt ad ca D (some .int) (QI r N)) 0 [(0, vR (some x0)), (1, vI x1), (2, vI x2), (3, vI x3)] [] M
  unfold fX6_oneShutThen at h
  refine J_iload_n (pc := 0) (q := 1) rfl rfl dX6_oneShutThen_0 ?_
  refine J_iload_n (pc := 1) (q := 2) rfl rfl dX6_oneShutThen_1 ?_
  refine J_icne (pc := 2) (tgt := 23) (by decide) dX6_oneShutThen_2 (fun hc2 => ?_) (fun hc2 => ?_)
  · rw [if_pos hc2] at h
    refine J_iconst (pc := 23) (v := (0 : Int32)) (by decide) dX6_oneShutThen_23 ?_
    refine J_iload_n (pc := 24) (q := 3) rfl rfl dX6_oneShutThen_24 ?_
    refine J_iconst (pc := 25) (v := (1 : Int32)) (by decide) dX6_oneShutThen_25 ?_
    refine J_isub (pc := 26) dX6_oneShutThen_26 ?_
    refine J_mmax (pc := 27) ml_RX6_107 (by omega) (Nat.le_of_ble_eq_true rfl) dX6_oneShutThen_27 ?_
    exact J_iret (pc := 30) (qi_of h) dX6_oneShutThen_30
  · rw [if_neg hc2] at h
    refine J_iload_n (pc := 5) (q := 3) rfl rfl dX6_oneShutThen_5 ?_
    refine J_ifne (pc := 6) (tgt := 21) (by decide) dX6_oneShutThen_6 (fun hc6 => ?_) (fun hc6 => ?_)
    · rw [if_pos hc6] at h
      refine J_iconst (pc := 21) (v := (-1 : Int32)) (by decide) dX6_oneShutThen_21 ?_
      exact J_iret (pc := 22) (qi_of h) dX6_oneShutThen_22
    · rw [if_neg hc6] at h
      refine J_aload_n (pc := 9) (q := 0) rfl rfl dX6_oneShutThen_9 ?_
      obtain ⟨a10, h10, g_1⟩ := bnd h
      refine J_getR (pc := 10) (i := 0) clF6 (by decide) rfl fl_RX6_50 h10 dX6_oneShutThen_10 ?_
      obtain ⟨a13, h13, g_2⟩ := bnd g_1
      refine J_getR (pc := 13) (i := 5) clF3 (by decide) rfl fl_RX6_104 h13 dX6_oneShutThen_13 ?_
      refine J_iload_n (pc := 16) (q := 1) rfl rfl dX6_oneShutThen_16 ?_
      obtain ⟨a17, h17, g_3⟩ := bnd g_2
      refine J_ald0 (pc := 17) h17 dX6_oneShutThen_17 ?_
      refine J_goto (pc := 18) (tgt := 22) (by decide) dX6_oneShutThen_18 ?_
      exact J_iret (pc := 22) (qi_of g_3) dX6_oneShutThen_22
set_option maxHeartbeats 4000000 in
set_option maxRecDepth 100000 in
theorem jX6_reckonShutting_b139 {ad : Nat → Nat} {ca : Nat → ClassId} {D : va_G} {FU d : Nat} {N : Mem}  {k23 : Int32 → Mem → Option (Mem)} {k43 : Int32 → Mem → Option (Mem)} {x0 : Nat} {x1 : Int32} {x2 : Int32} {x3 : Int32} {M : Mem}  (hk23 : ∀ (y1 : Int32) (M : Mem), k23 y1 M = some N → J ad ca D cX6_reckonShutting RX6 7 (d + 2) (Gt ad ca D none (QV N)) 23 [(0, vR (some x0)), (1, vI y1)] [] M) (hk43 : ∀ (y3 : Int32) (M : Mem), k43 y3 M = some N → J ad ca D cX6_reckonShutting RX6 7 (d + 2) (Gt ad ca D none (QV N)) 43 [(0, vR (some x0)), (1, vI x1), (2, vI x2), (3, vI y3)] [] M) (h : fX6_reckonShutting_b139 FU  k23 k43 x0 x1 x2 x3 M = some N) : J ad ca D cX6_reckonShutting RX6 7 (d + 2) (Gt ad ca D none (QV N)) 139 [(0, vR (some x0)), (1, vI x1), (2, vI x2), (3, vI x3)] [] M := by
  unfold fX6_reckonShutting_b139 at h
  refine J_iinc (pc := 139) (q := 3) rfl (v := x3 + (1 : Int32)) rfl (by decide) (lv' := [(0, vR (some x0)), (1, vI x1), (2, vI x2), (3, vI (x3 + (1 : Int32)))]) rfl dX6_reckonShutting_139 ?_
  refine J_goto (pc := 142) (tgt := 43) (by decide) dX6_reckonShutting_142 ?_
  exact hk43 _ _ h
set_option maxHeartbeats 4000000 in
set_option maxRecDepth 100000 in
theorem jX6_reckonShutting_b113 {ad : Nat → Nat} {ca : Nat → ClassId} {D : va_G} {FU d : Nat} {N : Mem}  {k23 : Int32 → Mem → Option (Mem)} {k43 : Int32 → Mem → Option (Mem)} {x0 : Nat} {x1 : Int32} {x2 : Int32} {x3 : Int32} {x4 : Int32} {x5 : Int32} {x6 : Int32} {s0 : Option Nat} {s1 : Int32} {s2 : Int32} {M : Mem}  (hk23 : ∀ (y1 : Int32) (M : Mem), k23 y1 M = some N → J ad ca D cX6_reckonShutting RX6 7 (d + 2) (Gt ad ca D none (QV N)) 23 [(0, vR (some x0)), (1, vI y1)] [] M) (hk43 : ∀ (y3 : Int32) (M : Mem), k43 y3 M = some N → J ad ca D cX6_reckonShutting RX6 7 (d + 2) (Gt ad ca D none (QV N)) 43 [(0, vR (some x0)), (1, vI x1), (2, vI x2), (3, vI y3)] [] M) (h : fX6_reckonShutting_b113 FU  k23 k43 x0 x1 x2 x3 x4 x5 x6 s0 s1 s2 M = some N) : J ad ca D cX6_reckonShutting RX6 7 (d + 2) (Gt ad ca D none (QV N)) 113 [(0, vR (some x0)), (1, vI x1), (2, vI x2), (3, vI x3), (4, vI x4), (5, vI x5), (6, vI x6)] [vI s2, vI s1, vR s0] M := by
  unfold fX6_reckonShutting_b113 at h
  obtain ⟨M113, h113, g_1⟩ := bnd h
  refine J_ast0 (pc := 113) h113 dX6_reckonShutting_113 ?_
  refine J_iload (pc := 114) (q := 6) rfl dX6_reckonShutting_114 ?_
  refine J_ifeq (pc := 116) (tgt := 139) (by decide) dX6_reckonShutting_116 (fun hc116 => ?_) (fun hc116 => ?_)
  · rw [if_pos hc116] at g_1
    refine J_sub [0, 1, 2, 3] (lv' := [(0, vR (some x0)), (1, vI x1), (2, vI x2), (3, vI x3)]) rfl ?_
    exact jX6_reckonShutting_b139 hk23 hk43 g_1
  · rw [if_neg hc116] at g_1
    refine J_aload_n (pc := 119) (q := 0) rfl rfl dX6_reckonShutting_119 ?_
    obtain ⟨a120, h120, g_2⟩ := bnd g_1
    refine J_getR (pc := 120) (i := 16) clF6 (by decide) rfl fl_RX6_43 h120 dX6_reckonShutting_120 ?_
    refine J_iload_n (pc := 123) (q := 2) rfl rfl dX6_reckonShutting_123 ?_
    refine J_iconst (pc := 124) (v := (3 : Int32)) (by decide) dX6_reckonShutting_124 ?_
    refine J_iload (pc := 125) (q := 5) rfl dX6_reckonShutting_125 ?_
    refine J_imul (pc := 127) dX6_reckonShutting_127 ?_
    refine J_iadd (pc := 128) dX6_reckonShutting_128 ?_
    refine J_iload (pc := 129) (q := 4) rfl dX6_reckonShutting_129 ?_
    refine J_iadd (pc := 131) dX6_reckonShutting_131 ?_
    refine J_dup2 (pc := 132) rfl rfl dX6_reckonShutting_132 ?_
    obtain ⟨a133, h133, g_3⟩ := bnd g_2
    refine J_ald0 (pc := 133) h133 dX6_reckonShutting_133 ?_
    refine J_iconst (pc := 134) (v := (1 : Int32)) (by decide) dX6_reckonShutting_134 ?_
    refine J_iload_n (pc := 135) (q := 3) rfl rfl dX6_reckonShutting_135 ?_
    refine J_ishl (pc := 136) dX6_reckonShutting_136 ?_
    refine J_ior (pc := 137) dX6_reckonShutting_137 ?_
    obtain ⟨M138, h138, g_4⟩ := bnd g_3
    refine J_ast0 (pc := 138) h138 dX6_reckonShutting_138 ?_
    refine J_sub [0, 1, 2, 3] (lv' := [(0, vR (some x0)), (1, vI x1), (2, vI x2), (3, vI x3)]) rfl ?_
    exact jX6_reckonShutting_b139 hk23 hk43 g_4
set_option maxHeartbeats 4000000 in
set_option maxRecDepth 100000 in
theorem jX6_reckonShutting_b88 {ad : Nat → Nat} {ca : Nat → ClassId} {D : va_G} {FU d : Nat} {N : Mem}  {k23 : Int32 → Mem → Option (Mem)} {k43 : Int32 → Mem → Option (Mem)} {x0 : Nat} {x1 : Int32} {x2 : Int32} {x3 : Int32} {x4 : Int32} {x5 : Int32} {s0 : Int32} {M : Mem}  (hk23 : ∀ (y1 : Int32) (M : Mem), k23 y1 M = some N → J ad ca D cX6_reckonShutting RX6 7 (d + 2) (Gt ad ca D none (QV N)) 23 [(0, vR (some x0)), (1, vI y1)] [] M) (hk43 : ∀ (y3 : Int32) (M : Mem), k43 y3 M = some N → J ad ca D cX6_reckonShutting RX6 7 (d + 2) (Gt ad ca D none (QV N)) 43 [(0, vR (some x0)), (1, vI x1), (2, vI x2), (3, vI y3)] [] M) (h : fX6_reckonShutting_b88 FU  k23 k43 x0 x1 x2 x3 x4 x5 s0 M = some N) : J ad ca D cX6_reckonShutting RX6 7 (d + 2) (Gt ad ca D none (QV N)) 88 [(0, vR (some x0)), (1, vI x1), (2, vI x2), (3, vI x3), (4, vI x4), (5, vI x5)] [vI s0] M := by
  unfold fX6_reckonShutting_b88 at h
  refine J_istore (pc := 88) (by decide) (lv' := [(0, vR (some x0)), (1, vI x1), (2, vI x2), (3, vI x3), (4, vI x4), (5, vI x5), (6, vI s0)]) rfl dX6_reckonShutting_88 ?_
  refine J_aload_n (pc := 90) (q := 0) rfl rfl dX6_reckonShutting_90 ?_
  obtain ⟨a91, h91, g_5⟩ := bnd h
  refine J_getR (pc := 91) (i := 15) clF6 (by decide) rfl fl_RX6_40 h91 dX6_reckonShutting_91 ?_
  refine J_iload_n (pc := 94) (q := 2) rfl rfl dX6_reckonShutting_94 ?_
  refine J_iload_n (pc := 95) (q := 3) rfl rfl dX6_reckonShutting_95 ?_
  refine J_iadd (pc := 96) dX6_reckonShutting_96 ?_
  refine J_iload (pc := 97) (q := 6) rfl dX6_reckonShutting_97 ?_
  refine J_ifeq (pc := 99) (tgt := 112) (by decide) dX6_reckonShutting_99 (fun hc99 => ?_) (fun hc99 => ?_)
  · rw [if_pos hc99] at g_5
    refine J_iconst (pc := 112) (v := (-1 : Int32)) (by decide) dX6_reckonShutting_112 ?_
    exact jX6_reckonShutting_b113 hk23 hk43 g_5
  · rw [if_neg hc99] at g_5
    refine J_iconst (pc := 102) (v := (3 : Int32)) (by decide) dX6_reckonShutting_102 ?_
    refine J_iload (pc := 103) (q := 5) rfl dX6_reckonShutting_103 ?_
    refine J_imul (pc := 105) dX6_reckonShutting_105 ?_
    refine J_iload (pc := 106) (q := 4) rfl dX6_reckonShutting_106 ?_
    refine J_iadd (pc := 108) dX6_reckonShutting_108 ?_
    refine J_goto (pc := 109) (tgt := 113) (by decide) dX6_reckonShutting_109 ?_
    exact jX6_reckonShutting_b113 hk23 hk43 g_5
set_option maxHeartbeats 4000000 in
set_option maxRecDepth 100000 in
theorem jX6_reckonShutting_b87 {ad : Nat → Nat} {ca : Nat → ClassId} {D : va_G} {FU d : Nat} {N : Mem}  {k23 : Int32 → Mem → Option (Mem)} {k43 : Int32 → Mem → Option (Mem)} {x0 : Nat} {x1 : Int32} {x2 : Int32} {x3 : Int32} {x4 : Int32} {x5 : Int32} {M : Mem}  (hk23 : ∀ (y1 : Int32) (M : Mem), k23 y1 M = some N → J ad ca D cX6_reckonShutting RX6 7 (d + 2) (Gt ad ca D none (QV N)) 23 [(0, vR (some x0)), (1, vI y1)] [] M) (hk43 : ∀ (y3 : Int32) (M : Mem), k43 y3 M = some N → J ad ca D cX6_reckonShutting RX6 7 (d + 2) (Gt ad ca D none (QV N)) 43 [(0, vR (some x0)), (1, vI x1), (2, vI x2), (3, vI y3)] [] M) (h : fX6_reckonShutting_b87 FU  k23 k43 x0 x1 x2 x3 x4 x5 M = some N) : J ad ca D cX6_reckonShutting RX6 7 (d + 2) (Gt ad ca D none (QV N)) 87 [(0, vR (some x0)), (1, vI x1), (2, vI x2), (3, vI x3), (4, vI x4), (5, vI x5)] [] M := by
  unfold fX6_reckonShutting_b87 at h
  refine J_iconst (pc := 87) (v := (0 : Int32)) (by decide) dX6_reckonShutting_87 ?_
  exact jX6_reckonShutting_b88 hk23 hk43 h
set_option maxHeartbeats 4000000 in
set_option maxRecDepth 100000 in
theorem jX6_reckonShutting_L43 {ad : Nat → Nat} {ca : Nat → ClassId} {D : va_G} {FU d : Nat} {N : Mem}  {k23 : Int32 → Mem → Option (Mem)} {x0 : Nat} {x1 : Int32} {x2 : Int32}  (hk23 : ∀ (y1 : Int32) (M : Mem), k23 y1 M = some N → J ad ca D cX6_reckonShutting RX6 7 (d + 2) (Gt ad ca D none (QV N)) 23 [(0, vR (some x0)), (1, vI y1)] [] M) : ∀ (F : Nat) (x3 : Int32) (M : Mem), fX6_reckonShutting_L43 FU  k23 x0 x1 x2 F x3 M = some N → J ad ca D cX6_reckonShutting RX6 7 (d + 2) (Gt ad ca D none (QV N)) 43 [(0, vR (some x0)), (1, vI x1), (2, vI x2), (3, vI x3)] [] M := by
  intro F
  induction F with
  | zero =>
    intro x3 M h
    rw [fX6_reckonShutting_L43] at h
    cases h
  | succ F hk43 =>
    intro x3 M h
    rw [fX6_reckonShutting_L43] at h
    refine J_iload_n (pc := 43) (q := 3) rfl rfl dX6_reckonShutting_43 ?_
    refine J_aload_n (pc := 44) (q := 0) rfl rfl dX6_reckonShutting_44 ?_
    obtain ⟨a45, h45, g_6⟩ := bnd h
    refine J_getI (pc := 45) (i := 14) clF6 (by decide) rfl fl_RX6_37 h45 dX6_reckonShutting_45 ?_
    refine J_icge (pc := 48) (tgt := 145) (by decide) dX6_reckonShutting_48 (fun hc48 => ?_) (fun hc48 => ?_)
    · rw [if_pos hc48] at g_6
      refine J_iinc (pc := 145) (q := 1) rfl (v := x1 + (1 : Int32)) rfl (by decide) (lv' := [(0, vR (some x0)), (2, vI x2), (3, vI x3), (1, vI (x1 + (1 : Int32)))]) rfl dX6_reckonShutting_145 ?_
      refine J_goto (pc := 148) (tgt := 23) (by decide) dX6_reckonShutting_148 ?_
      refine J_sub [0, 3] (lv' := [(0, vR (some x0)), (1, vI (x1 + (1 : Int32)))]) rfl ?_
      exact hk23 _ _ g_6
    · rw [if_neg hc48] at g_6
      refine J_aload_n (pc := 51) (q := 0) rfl rfl dX6_reckonShutting_51 ?_
      refine J_iconst (pc := 52) (v := (0 : Int32)) (by decide) dX6_reckonShutting_52 ?_
      refine J_iload_n (pc := 53) (q := 1) rfl rfl dX6_reckonShutting_53 ?_
      refine J_iload_n (pc := 54) (q := 3) rfl rfl dX6_reckonShutting_54 ?_
      refine J_iconst (pc := 55) (v := (3 : Int32)) (by decide) dX6_reckonShutting_55 ?_
      refine J_irem (pc := 56) (by decide) dX6_reckonShutting_56 ?_
      obtain ⟨b57, hb57, g_7⟩ := bnd g_6
      obtain ⟨r57, M57, h57, g_8⟩ := bnd2 g_7
      refine J_callVI (pc := 57) (as := [vI (0 : Int32), vI x1, vI (x3 - x3 / (3 : Int32) * (3 : Int32))]) (tX6_oneShutThen (d := d)  h57) cf_X6_oneShutThen cv_X6_oneShutThen clF6 hb57 ml_RX6_100 (by omega) (Nat.le_of_ble_eq_true rfl) dX6_reckonShutting_57 ?_
      refine J_istore (pc := 60) (by decide) (lv' := [(0, vR (some x0)), (1, vI x1), (2, vI x2), (3, vI x3), (4, vI r57)]) rfl dX6_reckonShutting_60 ?_
      refine J_aload_n (pc := 62) (q := 0) rfl rfl dX6_reckonShutting_62 ?_
      refine J_iconst (pc := 63) (v := (1 : Int32)) (by decide) dX6_reckonShutting_63 ?_
      refine J_iload_n (pc := 64) (q := 1) rfl rfl dX6_reckonShutting_64 ?_
      refine J_iload_n (pc := 65) (q := 3) rfl rfl dX6_reckonShutting_65 ?_
      refine J_iconst (pc := 66) (v := (3 : Int32)) (by decide) dX6_reckonShutting_66 ?_
      refine J_idiv (pc := 67) (by decide) dX6_reckonShutting_67 ?_
      obtain ⟨b68, hb68, g_9⟩ := bnd g_8
      obtain ⟨r68, M68, h68, g_10⟩ := bnd2 g_9
      refine J_callVI (pc := 68) (as := [vI (1 : Int32), vI x1, vI (x3 / (3 : Int32))]) (tX6_oneShutThen (d := d)  h68) cf_X6_oneShutThen cv_X6_oneShutThen clF6 hb68 ml_RX6_100 (by omega) (Nat.le_of_ble_eq_true rfl) dX6_reckonShutting_68 ?_
      refine J_istore (pc := 71) (by decide) (lv' := [(0, vR (some x0)), (1, vI x1), (2, vI x2), (3, vI x3), (4, vI r57), (5, vI r68)]) rfl dX6_reckonShutting_71 ?_
      refine J_iload (pc := 73) (q := 4) rfl dX6_reckonShutting_73 ?_
      refine J_iflt (pc := 75) (tgt := 87) (by decide) dX6_reckonShutting_75 (fun hc75 => ?_) (fun hc75 => ?_)
      · rw [if_pos hc75] at g_10
        exact jX6_reckonShutting_b87 hk23 hk43 g_10
      · rw [if_neg hc75] at g_10
        refine J_iload (pc := 78) (q := 5) rfl dX6_reckonShutting_78 ?_
        refine J_iflt (pc := 80) (tgt := 87) (by decide) dX6_reckonShutting_80 (fun hc80 => ?_) (fun hc80 => ?_)
        · rw [if_pos hc80] at g_10
          exact jX6_reckonShutting_b87 hk23 hk43 g_10
        · rw [if_neg hc80] at g_10
          refine J_iconst (pc := 83) (v := (1 : Int32)) (by decide) dX6_reckonShutting_83 ?_
          refine J_goto (pc := 84) (tgt := 88) (by decide) dX6_reckonShutting_84 ?_
          exact jX6_reckonShutting_b88 hk23 hk43 g_10
set_option maxHeartbeats 4000000 in
set_option maxRecDepth 100000 in
theorem jX6_reckonShutting_L23 {ad : Nat → Nat} {ca : Nat → ClassId} {D : va_G} {FU d : Nat} {N : Mem}   {x0 : Nat}   : ∀ (F : Nat) (x1 : Int32) (M : Mem), fX6_reckonShutting_L23 FU  x0 F x1 M = some N → J ad ca D cX6_reckonShutting RX6 7 (d + 2) (Gt ad ca D none (QV N)) 23 [(0, vR (some x0)), (1, vI x1)] [] M := by
  intro F
  induction F with
  | zero =>
    intro x1 M h
    rw [fX6_reckonShutting_L23] at h
    cases h
  | succ F hk23 =>
    intro x1 M h
    rw [fX6_reckonShutting_L23] at h
    refine J_iload_n (pc := 23) (q := 1) rfl rfl dX6_reckonShutting_23 ?_
    refine J_aload_n (pc := 24) (q := 0) rfl rfl dX6_reckonShutting_24 ?_
    obtain ⟨a25, h25, g_11⟩ := bnd h
    refine J_getR (pc := 25) (i := 0) clF6 (by decide) rfl fl_RX6_50 h25 dX6_reckonShutting_25 ?_
    obtain ⟨a28, h28, g_12⟩ := bnd g_11
    refine J_getI (pc := 28) (i := 9) clF3 (by decide) rfl fl_RX6_97 h28 dX6_reckonShutting_28 ?_
    refine J_icge (pc := 31) (tgt := 151) (by decide) dX6_reckonShutting_31 (fun hc31 => ?_) (fun hc31 => ?_)
    · rw [if_pos hc31] at g_12
      exact J_vret (pc := 151) (qv_of g_12) dX6_reckonShutting_151
    · rw [if_neg hc31] at g_12
      refine J_iload_n (pc := 34) (q := 1) rfl rfl dX6_reckonShutting_34 ?_
      refine J_iconst (pc := 35) (v := (1 : Int32)) (by decide) dX6_reckonShutting_35 ?_
      refine J_iadd (pc := 36) dX6_reckonShutting_36 ?_
      refine J_bipush (pc := 37) (v := (9 : Int32)) (by decide) dX6_reckonShutting_37 ?_
      refine J_imul (pc := 39) dX6_reckonShutting_39 ?_
      refine J_istore_n (pc := 40) rfl (by decide) (lv' := [(0, vR (some x0)), (1, vI x1), (2, vI ((x1 + (1 : Int32)) * (9 : Int32)))]) rfl dX6_reckonShutting_40 ?_
      refine J_iconst (pc := 41) (v := (0 : Int32)) (by decide) dX6_reckonShutting_41 ?_
      refine J_istore_n (pc := 42) rfl (by decide) (lv' := [(0, vR (some x0)), (1, vI x1), (2, vI ((x1 + (1 : Int32)) * (9 : Int32))), (3, vI (0 : Int32))]) rfl dX6_reckonShutting_42 ?_
      exact jX6_reckonShutting_L43 hk23 FU _ _ g_12
set_option maxHeartbeats 4000000 in
set_option maxRecDepth 100000 in
theorem jX6_reckonShutting_L2 {ad : Nat → Nat} {ca : Nat → ClassId} {D : va_G} {FU d : Nat} {N : Mem}   {x0 : Nat}   : ∀ (F : Nat) (x1 : Int32) (M : Mem), fX6_reckonShutting_L2 FU  x0 F x1 M = some N → J ad ca D cX6_reckonShutting RX6 7 (d + 2) (Gt ad ca D none (QV N)) 2 [(0, vR (some x0)), (1, vI x1)] [] M := by
  intro F
  induction F with
  | zero =>
    intro x1 M h
    rw [fX6_reckonShutting_L2] at h
    cases h
  | succ F hk2 =>
    intro x1 M h
    rw [fX6_reckonShutting_L2] at h
    refine J_iload_n (pc := 2) (q := 1) rfl rfl dX6_reckonShutting_2 ?_
    refine J_bipush (pc := 3) (v := (27 : Int32)) (by decide) dX6_reckonShutting_3 ?_
    refine J_icge (pc := 5) (tgt := 21) (by decide) dX6_reckonShutting_5 (fun hc5 => ?_) (fun hc5 => ?_)
    · rw [if_pos hc5] at h
      refine J_iconst (pc := 21) (v := (-1 : Int32)) (by decide) dX6_reckonShutting_21 ?_
      refine J_istore_n (pc := 22) rfl (by decide) (lv' := [(0, vR (some x0)), (1, vI (-1 : Int32))]) rfl dX6_reckonShutting_22 ?_
      exact jX6_reckonShutting_L23  FU _ _ h
    · rw [if_neg hc5] at h
      refine J_aload_n (pc := 8) (q := 0) rfl rfl dX6_reckonShutting_8 ?_
      obtain ⟨a9, h9, g_13⟩ := bnd h
      refine J_getR (pc := 9) (i := 16) clF6 (by decide) rfl fl_RX6_43 h9 dX6_reckonShutting_9 ?_
      refine J_iload_n (pc := 12) (q := 1) rfl rfl dX6_reckonShutting_12 ?_
      refine J_iconst (pc := 13) (v := (0 : Int32)) (by decide) dX6_reckonShutting_13 ?_
      obtain ⟨M14, h14, g_14⟩ := bnd g_13
      refine J_ast0 (pc := 14) h14 dX6_reckonShutting_14 ?_
      refine J_iinc (pc := 15) (q := 1) rfl (v := x1 + (1 : Int32)) rfl (by decide) (lv' := [(0, vR (some x0)), (1, vI (x1 + (1 : Int32)))]) rfl dX6_reckonShutting_15 ?_
      refine J_goto (pc := 18) (tgt := 2) (by decide) dX6_reckonShutting_18 ?_
      exact hk2 _ _ g_14
set_option maxHeartbeats 4000000 in
set_option maxRecDepth 100000 in
theorem tX6_reckonShutting {ad : Nat → Nat} {ca : Nat → ClassId} {D : va_G} {FU d : Nat} {N : Mem}  {x0 : Nat} {M : Mem}  (h : fX6_reckonShutting FU  x0 M = some N) : Ct ad ca D yX6_reckonShutting cX6_reckonShutting 7 none (d + 2) [vR (some x0)] M (QV N) := by
  refine Ct_of (by decide) (Nat.le_of_ble_eq_true rfl) ?_
  show J ad ca D cX6_reckonShutting RX6 7 (d + 2) (Gt ad ca D none (QV N)) 0 [(0, vR (some x0))] [] M
  unfold fX6_reckonShutting at h
  refine J_iconst (pc := 0) (v := (0 : Int32)) (by decide) dX6_reckonShutting_0 ?_
  refine J_istore_n (pc := 1) rfl (by decide) (lv' := [(0, vR (some x0)), (1, vI (0 : Int32))]) rfl dX6_reckonShutting_1 ?_
  exact jX6_reckonShutting_L2  FU _ _ h
set_option maxHeartbeats 4000000 in
set_option maxRecDepth 100000 in
theorem tX6_addEdge {ad : Nat → Nat} {ca : Nat → ClassId} {D : va_G} {FU d : Nat} {N : Mem}  {x0 : Nat} {x1 : Int32} {x2 : Int32} {x3 : Int32} {M : Mem}  (h : fX6_addEdge FU  x0 x1 x2 x3 M = some N) : Ct ad ca D yX6_addEdge cX6_addEdge 4 none (d + 0) [vR (some x0), vI x1, vI x2, vI x3] M (QV N) := by
  refine Ct_of (by decide) (Nat.le_of_ble_eq_true rfl) ?_
  show J ad ca D cX6_addEdge RX6 4 (d + 0) (Gt ad ca D none (QV N)) 0 [(0, vR (some x0)), (1, vI x1), (2, vI x2), (3, vI x3)] [] M
  unfold fX6_addEdge at h
  refine J_aload_n (pc := 0) (q := 0) rfl rfl dX6_addEdge_0 ?_
  obtain ⟨a1, h1, g_1⟩ := bnd h
  refine J_getI (pc := 1) (i := 13) clF6 (by decide) rfl fl_RX6_94 h1 dX6_addEdge_1 ?_
  refine J_sipush (pc := 4) (v := (3776 : Int32)) (by decide) dX6_addEdge_4 ?_
  refine J_iclt (pc := 7) (tgt := 11) (by decide) dX6_addEdge_7 (fun hc7 => ?_) (fun hc7 => ?_)
  · rw [if_pos hc7] at g_1
    refine J_aload_n (pc := 11) (q := 0) rfl rfl dX6_addEdge_11 ?_
    obtain ⟨a12, h12, g_2⟩ := bnd g_1
    refine J_getR (pc := 12) (i := 11) clF6 (by decide) rfl fl_RX6_31 h12 dX6_addEdge_12 ?_
    refine J_aload_n (pc := 15) (q := 0) rfl rfl dX6_addEdge_15 ?_
    obtain ⟨a16, h16, g_3⟩ := bnd g_2
    refine J_getI (pc := 16) (i := 13) clF6 (by decide) rfl fl_RX6_94 h16 dX6_addEdge_16 ?_
    refine J_iload_n (pc := 19) (q := 1) rfl rfl dX6_addEdge_19 ?_
    obtain ⟨M20, h20, g_4⟩ := bnd g_3
    refine J_ast0 (pc := 20) h20 dX6_addEdge_20 ?_
    refine J_aload_n (pc := 21) (q := 0) rfl rfl dX6_addEdge_21 ?_
    obtain ⟨a22, h22, g_5⟩ := bnd g_4
    refine J_getR (pc := 22) (i := 12) clF6 (by decide) rfl fl_RX6_34 h22 dX6_addEdge_22 ?_
    refine J_aload_n (pc := 25) (q := 0) rfl rfl dX6_addEdge_25 ?_
    obtain ⟨a26, h26, g_6⟩ := bnd g_5
    refine J_getI (pc := 26) (i := 13) clF6 (by decide) rfl fl_RX6_94 h26 dX6_addEdge_26 ?_
    refine J_iload_n (pc := 29) (q := 3) rfl rfl dX6_addEdge_29 ?_
    obtain ⟨M30, h30, g_7⟩ := bnd g_6
    refine J_ast0 (pc := 30) h30 dX6_addEdge_30 ?_
    refine J_aload_n (pc := 31) (q := 0) rfl rfl dX6_addEdge_31 ?_
    obtain ⟨a32, h32, g_8⟩ := bnd g_7
    refine J_getR (pc := 32) (i := 10) clF6 (by decide) rfl fl_RX6_28 h32 dX6_addEdge_32 ?_
    refine J_aload_n (pc := 35) (q := 0) rfl rfl dX6_addEdge_35 ?_
    obtain ⟨a36, h36, g_9⟩ := bnd g_8
    refine J_getI (pc := 36) (i := 13) clF6 (by decide) rfl fl_RX6_94 h36 dX6_addEdge_36 ?_
    refine J_aload_n (pc := 39) (q := 0) rfl rfl dX6_addEdge_39 ?_
    obtain ⟨a40, h40, g_10⟩ := bnd g_9
    refine J_getR (pc := 40) (i := 9) clF6 (by decide) rfl fl_RX6_25 h40 dX6_addEdge_40 ?_
    refine J_iload_n (pc := 43) (q := 2) rfl rfl dX6_addEdge_43 ?_
    obtain ⟨a44, h44, g_11⟩ := bnd g_10
    refine J_ald0 (pc := 44) h44 dX6_addEdge_44 ?_
    obtain ⟨M45, h45, g_12⟩ := bnd g_11
    refine J_ast0 (pc := 45) h45 dX6_addEdge_45 ?_
    refine J_aload_n (pc := 46) (q := 0) rfl rfl dX6_addEdge_46 ?_
    obtain ⟨a47, h47, g_13⟩ := bnd g_12
    refine J_getR (pc := 47) (i := 9) clF6 (by decide) rfl fl_RX6_25 h47 dX6_addEdge_47 ?_
    refine J_iload_n (pc := 50) (q := 2) rfl rfl dX6_addEdge_50 ?_
    refine J_aload_n (pc := 51) (q := 0) rfl rfl dX6_addEdge_51 ?_
    refine J_dup (pc := 52) rfl dX6_addEdge_52 ?_
    obtain ⟨a53, h53, g_14⟩ := bnd g_13
    refine J_getI (pc := 53) (i := 13) clF6 (by decide) rfl fl_RX6_94 h53 dX6_addEdge_53 ?_
    refine J_dup_x1 (pc := 56) rfl rfl dX6_addEdge_56 ?_
    refine J_iconst (pc := 57) (v := (1 : Int32)) (by decide) dX6_addEdge_57 ?_
    refine J_iadd (pc := 58) dX6_addEdge_58 ?_
    obtain ⟨M59, h59, g_15⟩ := bnd g_14
    refine J_putI (pc := 59) (i := 13) clF6 (by decide) rfl fl_RX6_94 rfl rfl h59 dX6_addEdge_59 ?_
    obtain ⟨M62, h62, g_16⟩ := bnd g_15
    refine J_ast0 (pc := 62) h62 dX6_addEdge_62 ?_
    exact J_vret (pc := 63) (qv_of g_16) dX6_addEdge_63
  · rw [if_neg hc7] at g_1
    exact J_vret (pc := 10) (qv_of g_1) dX6_addEdge_10
set_option maxHeartbeats 4000000 in
set_option maxRecDepth 100000 in
theorem jX6_linkHunters_b91 {ad : Nat → Nat} {ca : Nat → ClassId} {D : va_G} {FU d : Nat} {N : Mem}  {k7 : Int32 → Mem → Option (Mem)} {k45 : Int32 → Mem → Option (Mem)} {x0 : Nat} {x1 : Int32} {x2 : Int32} {x3 : Int32} {x4 : Int32} {x5 : Int32} {x6 : Int32} {M : Mem}  (hk7 : ∀ (y3 : Int32) (M : Mem), k7 y3 M = some N → J ad ca D cX6_linkHunters RX6 7 (d + 3) (Gt ad ca D none (QV N)) 7 [(0, vR (some x0)), (1, vI x1), (2, vI x2), (3, vI y3)] [] M) (hk45 : ∀ (y6 : Int32) (M : Mem), k45 y6 M = some N → J ad ca D cX6_linkHunters RX6 7 (d + 3) (Gt ad ca D none (QV N)) 45 [(0, vR (some x0)), (1, vI x1), (2, vI x2), (3, vI x3), (4, vI x4), (5, vI x5), (6, vI y6)] [] M) (h : fX6_linkHunters_b91 FU  k7 k45 x0 x1 x2 x3 x4 x5 x6 M = some N) : J ad ca D cX6_linkHunters RX6 7 (d + 3) (Gt ad ca D none (QV N)) 91 [(0, vR (some x0)), (1, vI x1), (2, vI x2), (3, vI x3), (4, vI x4), (5, vI x5), (6, vI x6)] [] M := by
  unfold fX6_linkHunters_b91 at h
  refine J_iinc (pc := 91) (q := 6) rfl (v := x6 + (1 : Int32)) rfl (by decide) (lv' := [(0, vR (some x0)), (1, vI x1), (2, vI x2), (3, vI x3), (4, vI x4), (5, vI x5), (6, vI (x6 + (1 : Int32)))]) rfl dX6_linkHunters_91 ?_
  refine J_goto (pc := 94) (tgt := 45) (by decide) dX6_linkHunters_94 ?_
  exact hk45 _ _ h
set_option maxHeartbeats 4000000 in
set_option maxRecDepth 100000 in
theorem jX6_linkHunters_b97 {ad : Nat → Nat} {ca : Nat → ClassId} {D : va_G} {FU d : Nat} {N : Mem}  {k7 : Int32 → Mem → Option (Mem)} {x0 : Nat} {x1 : Int32} {x2 : Int32} {x3 : Int32} {M : Mem}  (hk7 : ∀ (y3 : Int32) (M : Mem), k7 y3 M = some N → J ad ca D cX6_linkHunters RX6 7 (d + 3) (Gt ad ca D none (QV N)) 7 [(0, vR (some x0)), (1, vI x1), (2, vI x2), (3, vI y3)] [] M) (h : fX6_linkHunters_b97 FU  k7 x0 x1 x2 x3 M = some N) : J ad ca D cX6_linkHunters RX6 7 (d + 3) (Gt ad ca D none (QV N)) 97 [(0, vR (some x0)), (1, vI x1), (2, vI x2), (3, vI x3)] [] M := by
  unfold fX6_linkHunters_b97 at h
  refine J_iinc (pc := 97) (q := 3) rfl (v := x3 + (1 : Int32)) rfl (by decide) (lv' := [(0, vR (some x0)), (1, vI x1), (2, vI x2), (3, vI (x3 + (1 : Int32)))]) rfl dX6_linkHunters_97 ?_
  refine J_goto (pc := 100) (tgt := 7) (by decide) dX6_linkHunters_100 ?_
  exact hk7 _ _ h
set_option maxHeartbeats 4000000 in
set_option maxRecDepth 100000 in
theorem jX6_linkHunters_L45 {ad : Nat → Nat} {ca : Nat → ClassId} {D : va_G} {FU d : Nat} {N : Mem}  {k7 : Int32 → Mem → Option (Mem)} {x0 : Nat} {x1 : Int32} {x2 : Int32} {x3 : Int32} {x4 : Int32} {x5 : Int32}  (hk7 : ∀ (y3 : Int32) (M : Mem), k7 y3 M = some N → J ad ca D cX6_linkHunters RX6 7 (d + 3) (Gt ad ca D none (QV N)) 7 [(0, vR (some x0)), (1, vI x1), (2, vI x2), (3, vI y3)] [] M) : ∀ (F : Nat) (x6 : Int32) (M : Mem), fX6_linkHunters_L45 FU  k7 x0 x1 x2 x3 x4 x5 F x6 M = some N → J ad ca D cX6_linkHunters RX6 7 (d + 3) (Gt ad ca D none (QV N)) 45 [(0, vR (some x0)), (1, vI x1), (2, vI x2), (3, vI x3), (4, vI x4), (5, vI x5), (6, vI x6)] [] M := by
  intro F
  induction F with
  | zero =>
    intro x6 M h
    rw [fX6_linkHunters_L45] at h
    cases h
  | succ F hk45 =>
    intro x6 M h
    rw [fX6_linkHunters_L45] at h
    refine J_iload (pc := 45) (q := 6) rfl dX6_linkHunters_45 ?_
    refine J_aload_n (pc := 47) (q := 0) rfl rfl dX6_linkHunters_47 ?_
    obtain ⟨a48, h48, g_1⟩ := bnd h
    refine J_getR (pc := 48) (i := 0) clF6 (by decide) rfl fl_RX6_50 h48 dX6_linkHunters_48 ?_
    obtain ⟨a51, h51, g_2⟩ := bnd g_1
    refine J_getI (pc := 51) (i := 0) clF3 (by decide) rfl fl_RX6_123 h51 dX6_linkHunters_51 ?_
    refine J_icge (pc := 54) (tgt := 97) (by decide) dX6_linkHunters_54 (fun hc54 => ?_) (fun hc54 => ?_)
    · rw [if_pos hc54] at g_2
      refine J_sub [0, 1, 2, 3] (lv' := [(0, vR (some x0)), (1, vI x1), (2, vI x2), (3, vI x3)]) rfl ?_
      exact jX6_linkHunters_b97 hk7 g_2
    · rw [if_neg hc54] at g_2
      refine J_iload_n (pc := 57) (q := 2) rfl rfl dX6_linkHunters_57 ?_
      refine J_iload (pc := 58) (q := 6) rfl dX6_linkHunters_58 ?_
      refine J_ishr (pc := 60) dX6_linkHunters_60 ?_
      refine J_iconst (pc := 61) (v := (1 : Int32)) (by decide) dX6_linkHunters_61 ?_
      refine J_iand (pc := 62) dX6_linkHunters_62 ?_
      refine J_ifne (pc := 63) (tgt := 91) (by decide) dX6_linkHunters_63 (fun hc63 => ?_) (fun hc63 => ?_)
      · rw [if_pos hc63] at g_2
        exact jX6_linkHunters_b91 hk7 hk45 g_2
      · rw [if_neg hc63] at g_2
        refine J_aload_n (pc := 66) (q := 0) rfl rfl dX6_linkHunters_66 ?_
        refine J_iload_n (pc := 67) (q := 1) rfl rfl dX6_linkHunters_67 ?_
        refine J_bipush (pc := 68) (v := (8 : Int32)) (by decide) dX6_linkHunters_68 ?_
        refine J_imul (pc := 70) dX6_linkHunters_70 ?_
        refine J_iload (pc := 71) (q := 6) rfl dX6_linkHunters_71 ?_
        refine J_iadd (pc := 73) dX6_linkHunters_73 ?_
        refine J_sipush (pc := 74) (v := (512 : Int32)) (by decide) dX6_linkHunters_74 ?_
        refine J_iload (pc := 77) (q := 4) rfl dX6_linkHunters_77 ?_
        refine J_bipush (pc := 79) (v := (8 : Int32)) (by decide) dX6_linkHunters_79 ?_
        refine J_imul (pc := 81) dX6_linkHunters_81 ?_
        refine J_iadd (pc := 82) dX6_linkHunters_82 ?_
        refine J_iload (pc := 83) (q := 6) rfl dX6_linkHunters_83 ?_
        refine J_iadd (pc := 85) dX6_linkHunters_85 ?_
        refine J_iload (pc := 86) (q := 5) rfl dX6_linkHunters_86 ?_
        obtain ⟨b88, hb88, g_3⟩ := bnd g_2
        obtain ⟨M88, h88, g_4⟩ := bnd g_3
        refine J_callVV (pc := 88) (as := [vI ((x1 * (8 : Int32)) + x6), vI (((512 : Int32) + (x4 * (8 : Int32))) + x6), vI x5]) (tX6_addEdge (d := d)  h88) cf_X6_addEdge cv_X6_addEdge clF6 hb88 ml_RX6_126 (by omega) (Nat.le_of_ble_eq_true rfl) dX6_linkHunters_88 ?_
        exact jX6_linkHunters_b91 hk7 hk45 g_4
set_option maxHeartbeats 4000000 in
set_option maxRecDepth 100000 in
theorem jX6_linkHunters_L7 {ad : Nat → Nat} {ca : Nat → ClassId} {D : va_G} {FU d : Nat} {N : Mem}   {x0 : Nat} {x1 : Int32} {x2 : Int32}   : ∀ (F : Nat) (x3 : Int32) (M : Mem), fX6_linkHunters_L7 FU  x0 x1 x2 F x3 M = some N → J ad ca D cX6_linkHunters RX6 7 (d + 3) (Gt ad ca D none (QV N)) 7 [(0, vR (some x0)), (1, vI x1), (2, vI x2), (3, vI x3)] [] M := by
  intro F
  induction F with
  | zero =>
    intro x3 M h
    rw [fX6_linkHunters_L7] at h
    cases h
  | succ F hk7 =>
    intro x3 M h
    rw [fX6_linkHunters_L7] at h
    refine J_iload_n (pc := 7) (q := 3) rfl rfl dX6_linkHunters_7 ?_
    refine J_bipush (pc := 8) (v := (32 : Int32)) (by decide) dX6_linkHunters_8 ?_
    refine J_icgt (pc := 10) (tgt := 103) (by decide) dX6_linkHunters_10 (fun hc10 => ?_) (fun hc10 => ?_)
    · rw [if_pos hc10] at h
      exact J_vret (pc := 103) (qv_of h) dX6_linkHunters_103
    · rw [if_neg hc10] at h
      refine J_aload_n (pc := 13) (q := 0) rfl rfl dX6_linkHunters_13 ?_
      obtain ⟨a14, h14, g_5⟩ := bnd h
      refine J_getR (pc := 14) (i := 0) clF6 (by decide) rfl fl_RX6_50 h14 dX6_linkHunters_14 ?_
      refine J_iload_n (pc := 17) (q := 1) rfl rfl dX6_linkHunters_17 ?_
      refine J_iload_n (pc := 18) (q := 3) rfl rfl dX6_linkHunters_18 ?_
      obtain ⟨b19, hb19, g_6⟩ := bnd g_5
      obtain ⟨r19, M19, h19, g_7⟩ := bnd2 g_6
      refine J_callVI (pc := 19) (as := [vI x1, vI x3]) (tX3_pairAfter (d := d)  h19) cf_X3_pairAfter cv_X3_pairAfter clF3 hb19 ml_RX6_117 (by omega) (Nat.le_of_ble_eq_true rfl) dX6_linkHunters_19 ?_
      refine J_istore (pc := 22) (by decide) (lv' := [(0, vR (some x0)), (1, vI x1), (2, vI x2), (3, vI x3), (4, vI r19)]) rfl dX6_linkHunters_22 ?_
      refine J_iload (pc := 24) (q := 4) rfl dX6_linkHunters_24 ?_
      refine J_ifge (pc := 26) (tgt := 32) (by decide) dX6_linkHunters_26 (fun hc26 => ?_) (fun hc26 => ?_)
      · rw [if_pos hc26] at g_7
        refine J_aload_n (pc := 32) (q := 0) rfl rfl dX6_linkHunters_32 ?_
        obtain ⟨a33, h33, g_8⟩ := bnd g_7
        refine J_getR (pc := 33) (i := 0) clF6 (by decide) rfl fl_RX6_50 h33 dX6_linkHunters_33 ?_
        refine J_iload_n (pc := 36) (q := 3) rfl rfl dX6_linkHunters_36 ?_
        obtain ⟨b37, hb37, g_9⟩ := bnd g_8
        obtain ⟨r37, M37, h37, g_10⟩ := bnd2 g_9
        refine J_callVI (pc := 37) (as := [vI x3]) (tX3_shutterPassed (d := d)  h37) cf_X3_shutterPassed cv_X3_shutterPassed clF3 hb37 ml_RX6_120 (by omega) (Nat.le_of_ble_eq_true rfl) dX6_linkHunters_37 ?_
        refine J_istore (pc := 40) (by decide) (lv' := [(0, vR (some x0)), (1, vI x1), (2, vI x2), (3, vI x3), (4, vI r19), (5, vI r37)]) rfl dX6_linkHunters_40 ?_
        refine J_iconst (pc := 42) (v := (0 : Int32)) (by decide) dX6_linkHunters_42 ?_
        refine J_istore (pc := 43) (by decide) (lv' := [(0, vR (some x0)), (1, vI x1), (2, vI x2), (3, vI x3), (4, vI r19), (5, vI r37), (6, vI (0 : Int32))]) rfl dX6_linkHunters_43 ?_
        exact jX6_linkHunters_L45 hk7 FU _ _ g_10
      · rw [if_neg hc26] at g_7
        refine J_goto (pc := 29) (tgt := 97) (by decide) dX6_linkHunters_29 ?_
        refine J_sub [0, 1, 2, 3] (lv' := [(0, vR (some x0)), (1, vI x1), (2, vI x2), (3, vI x3)]) rfl ?_
        exact jX6_linkHunters_b97 hk7 g_7
set_option maxHeartbeats 4000000 in
set_option maxRecDepth 100000 in
theorem tX6_linkHunters {ad : Nat → Nat} {ca : Nat → ClassId} {D : va_G} {FU d : Nat} {N : Mem}  {x0 : Nat} {x1 : Int32} {M : Mem}  (h : fX6_linkHunters FU  x0 x1 M = some N) : Ct ad ca D yX6_linkHunters cX6_linkHunters 7 none (d + 3) [vR (some x0), vI x1] M (QV N) := by
  refine Ct_of (by decide) (Nat.le_of_ble_eq_true rfl) ?_
  show J ad ca D cX6_linkHunters RX6 7 (d + 3) (Gt ad ca D none (QV N)) 0 [(0, vR (some x0)), (1, vI x1)] [] M
  unfold fX6_linkHunters at h
  refine J_iload_n (pc := 0) (q := 1) rfl rfl dX6_linkHunters_0 ?_
  obtain ⟨r1, M1, h1, g_11⟩ := bnd2 h
  refine J_callSI (pc := 1) (as := [vI x1]) (tX3_placesOf (d := d)  h1) cf_X3_placesOf cv_X3_placesOf ml_RX6_113 (by omega) (Nat.le_of_ble_eq_true rfl) dX6_linkHunters_1 ?_
  refine J_istore_n (pc := 4) rfl (by decide) (lv' := [(0, vR (some x0)), (1, vI x1), (2, vI r1)]) rfl dX6_linkHunters_4 ?_
  refine J_iconst (pc := 5) (v := (0 : Int32)) (by decide) dX6_linkHunters_5 ?_
  refine J_istore_n (pc := 6) rfl (by decide) (lv' := [(0, vR (some x0)), (1, vI x1), (2, vI r1), (3, vI (0 : Int32))]) rfl dX6_linkHunters_6 ?_
  exact jX6_linkHunters_L7  FU _ _ g_11
set_option maxHeartbeats 4000000 in
set_option maxRecDepth 100000 in
theorem jX6_countMove_b48 {ad : Nat → Nat} {ca : Nat → ClassId} {D : va_G} {FU d : Nat} {N : Mem}  {k10 : Int32 → Mem → Option (Mem)} {x0 : Nat} {x1 : Int32} {x3 : Int32} {x4 : Int32} {M : Mem}  (hk10 : ∀ (y4 : Int32) (M : Mem), k10 y4 M = some N → J ad ca D cX6_countMove RX6 5 (d + 0) (Gt ad ca D none (QV N)) 10 [(0, vR (some x0)), (1, vI x1), (3, vI x3), (4, vI y4)] [] M) (h : fX6_countMove_b48 FU  k10 x0 x1 x3 x4 M = some N) : J ad ca D cX6_countMove RX6 5 (d + 0) (Gt ad ca D none (QV N)) 48 [(0, vR (some x0)), (1, vI x1), (3, vI x3), (4, vI x4)] [] M := by
  unfold fX6_countMove_b48 at h
  refine J_iinc (pc := 48) (q := 3) rfl (v := x4 + (1 : Int32)) rfl (by decide) (lv' := [(0, vR (some x0)), (1, vI x1), (3, vI x3), (4, vI (x4 + (1 : Int32)))]) rfl dX6_countMove_48 ?_
  refine J_goto (pc := 51) (tgt := 10) (by decide) dX6_countMove_51 ?_
  exact hk10 _ _ h
set_option maxHeartbeats 4000000 in
set_option maxRecDepth 100000 in
theorem jX6_countMove_L10 {ad : Nat → Nat} {ca : Nat → ClassId} {D : va_G} {FU d : Nat} {N : Mem}   {x0 : Nat} {x1 : Int32} {x3 : Int32}   : ∀ (F : Nat) (x4 : Int32) (M : Mem), fX6_countMove_L10 FU  x0 x1 x3 F x4 M = some N → J ad ca D cX6_countMove RX6 5 (d + 0) (Gt ad ca D none (QV N)) 10 [(0, vR (some x0)), (1, vI x1), (3, vI x3), (4, vI x4)] [] M := by
  intro F
  induction F with
  | zero =>
    intro x4 M h
    rw [fX6_countMove_L10] at h
    cases h
  | succ F hk10 =>
    intro x4 M h
    rw [fX6_countMove_L10] at h
    refine J_iload (pc := 10) (q := 3) rfl dX6_countMove_10 ?_
    refine J_aload_n (pc := 12) (q := 0) rfl rfl dX6_countMove_12 ?_
    obtain ⟨a13, h13, g_1⟩ := bnd h
    refine J_getI (pc := 13) (i := 14) clF6 (by decide) rfl fl_RX6_37 h13 dX6_countMove_13 ?_
    refine J_icge (pc := 16) (tgt := 54) (by decide) dX6_countMove_16 (fun hc16 => ?_) (fun hc16 => ?_)
    · rw [if_pos hc16] at g_1
      exact J_vret (pc := 54) (qv_of g_1) dX6_countMove_54
    · rw [if_neg hc16] at g_1
      refine J_aload_n (pc := 19) (q := 0) rfl rfl dX6_countMove_19 ?_
      obtain ⟨a20, h20, g_2⟩ := bnd g_1
      refine J_getR (pc := 20) (i := 15) clF6 (by decide) rfl fl_RX6_40 h20 dX6_countMove_20 ?_
      refine J_iload_n (pc := 23) (q := 2) rfl rfl dX6_countMove_23 ?_
      refine J_iload (pc := 24) (q := 3) rfl dX6_countMove_24 ?_
      refine J_iadd (pc := 26) dX6_countMove_26 ?_
      obtain ⟨a27, h27, g_3⟩ := bnd g_2
      refine J_ald0 (pc := 27) h27 dX6_countMove_27 ?_
      refine J_iflt (pc := 28) (tgt := 48) (by decide) dX6_countMove_28 (fun hc28 => ?_) (fun hc28 => ?_)
      · rw [if_pos hc28] at g_3
        exact jX6_countMove_b48 hk10 g_3
      · rw [if_neg hc28] at g_3
        refine J_aload_n (pc := 31) (q := 0) rfl rfl dX6_countMove_31 ?_
        obtain ⟨a32, h32, g_4⟩ := bnd g_3
        refine J_getR (pc := 32) (i := 6) clF6 (by decide) rfl fl_RX6_19 h32 dX6_countMove_32 ?_
        refine J_iload (pc := 35) (q := 3) rfl dX6_countMove_35 ?_
        refine J_sipush (pc := 37) (v := (1024 : Int32)) (by decide) dX6_countMove_37 ?_
        refine J_imul (pc := 40) dX6_countMove_40 ?_
        refine J_iload_n (pc := 41) (q := 1) rfl rfl dX6_countMove_41 ?_
        refine J_iadd (pc := 42) dX6_countMove_42 ?_
        refine J_dup2 (pc := 43) rfl rfl dX6_countMove_43 ?_
        obtain ⟨a44, h44, g_5⟩ := bnd g_4
        refine J_ald0 (pc := 44) h44 dX6_countMove_44 ?_
        refine J_iconst (pc := 45) (v := (1 : Int32)) (by decide) dX6_countMove_45 ?_
        refine J_iadd (pc := 46) dX6_countMove_46 ?_
        obtain ⟨M47, h47, g_6⟩ := bnd g_5
        refine J_ast0 (pc := 47) h47 dX6_countMove_47 ?_
        exact jX6_countMove_b48 hk10 g_6
set_option maxHeartbeats 4000000 in
set_option maxRecDepth 100000 in
theorem tX6_countMove {ad : Nat → Nat} {ca : Nat → ClassId} {D : va_G} {FU d : Nat} {N : Mem}  {x0 : Nat} {x1 : Int32} {x2 : Int32} {M : Mem}  (h : fX6_countMove FU  x0 x1 x2 M = some N) : Ct ad ca D yX6_countMove cX6_countMove 5 none (d + 0) [vR (some x0), vI x1, vI x2] M (QV N) := by
  refine Ct_of (by decide) (Nat.le_of_ble_eq_true rfl) ?_
  show J ad ca D cX6_countMove RX6 5 (d + 0) (Gt ad ca D none (QV N)) 0 [(0, vR (some x0)), (1, vI x1), (2, vI x2)] [] M
  unfold fX6_countMove at h
  refine J_iload_n (pc := 0) (q := 2) rfl rfl dX6_countMove_0 ?_
  refine J_iconst (pc := 1) (v := (1 : Int32)) (by decide) dX6_countMove_1 ?_
  refine J_iadd (pc := 2) dX6_countMove_2 ?_
  refine J_bipush (pc := 3) (v := (9 : Int32)) (by decide) dX6_countMove_3 ?_
  refine J_imul (pc := 5) dX6_countMove_5 ?_
  refine J_istore_n (pc := 6) rfl (by decide) (lv' := [(0, vR (some x0)), (1, vI x1), (2, vI x2), (3, vI ((x2 + (1 : Int32)) * (9 : Int32)))]) rfl dX6_countMove_6 ?_
  refine J_iconst (pc := 7) (v := (0 : Int32)) (by decide) dX6_countMove_7 ?_
  refine J_istore (pc := 8) (by decide) (lv' := [(0, vR (some x0)), (1, vI x1), (2, vI x2), (3, vI ((x2 + (1 : Int32)) * (9 : Int32))), (4, vI (0 : Int32))]) rfl dX6_countMove_8 ?_
  refine J_sub [0, 1, 3, 4] (lv' := [(0, vR (some x0)), (1, vI x1), (3, vI ((x2 + (1 : Int32)) * (9 : Int32))), (4, vI (0 : Int32))]) rfl ?_
  exact jX6_countMove_L10  FU _ _ h
set_option maxHeartbeats 4000000 in
set_option maxRecDepth 100000 in
theorem jX6_linkRunner_b108 {ad : Nat → Nat} {ca : Nat → ClassId} {D : va_G} {FU d : Nat} {N : Mem}  {k7 : Int32 → Mem → Option (Mem)} {k44 : Int32 → Mem → Option (Mem)} {x0 : Nat} {x1 : Int32} {x2 : Int32} {x3 : Int32} {x4 : Int32} {x5 : Int32} {M : Mem}  (hk7 : ∀ (y3 : Int32) (M : Mem), k7 y3 M = some N → J ad ca D cX6_linkRunner RX6 8 (d + 3) (Gt ad ca D none (QV N)) 7 [(0, vR (some x0)), (1, vI x1), (2, vI x2), (3, vI y3)] [] M) (hk44 : ∀ (y5 : Int32) (M : Mem), k44 y5 M = some N → J ad ca D cX6_linkRunner RX6 8 (d + 3) (Gt ad ca D none (QV N)) 44 [(0, vR (some x0)), (1, vI x1), (2, vI x2), (3, vI x3), (4, vI x4), (5, vI y5)] [] M) (h : fX6_linkRunner_b108 FU  k7 k44 x0 x1 x2 x3 x4 x5 M = some N) : J ad ca D cX6_linkRunner RX6 8 (d + 3) (Gt ad ca D none (QV N)) 108 [(0, vR (some x0)), (1, vI x1), (2, vI x2), (3, vI x3), (4, vI x4), (5, vI x5)] [] M := by
  unfold fX6_linkRunner_b108 at h
  refine J_iinc (pc := 108) (q := 5) rfl (v := x5 + (1 : Int32)) rfl (by decide) (lv' := [(0, vR (some x0)), (1, vI x1), (2, vI x2), (3, vI x3), (4, vI x4), (5, vI (x5 + (1 : Int32)))]) rfl dX6_linkRunner_108 ?_
  refine J_goto (pc := 111) (tgt := 44) (by decide) dX6_linkRunner_111 ?_
  exact hk44 _ _ h
set_option maxHeartbeats 4000000 in
set_option maxRecDepth 100000 in
theorem jX6_linkRunner_b114 {ad : Nat → Nat} {ca : Nat → ClassId} {D : va_G} {FU d : Nat} {N : Mem}  {k7 : Int32 → Mem → Option (Mem)} {x0 : Nat} {x1 : Int32} {x2 : Int32} {x3 : Int32} {M : Mem}  (hk7 : ∀ (y3 : Int32) (M : Mem), k7 y3 M = some N → J ad ca D cX6_linkRunner RX6 8 (d + 3) (Gt ad ca D none (QV N)) 7 [(0, vR (some x0)), (1, vI x1), (2, vI x2), (3, vI y3)] [] M) (h : fX6_linkRunner_b114 FU  k7 x0 x1 x2 x3 M = some N) : J ad ca D cX6_linkRunner RX6 8 (d + 3) (Gt ad ca D none (QV N)) 114 [(0, vR (some x0)), (1, vI x1), (2, vI x2), (3, vI x3)] [] M := by
  unfold fX6_linkRunner_b114 at h
  refine J_iinc (pc := 114) (q := 3) rfl (v := x3 + (1 : Int32)) rfl (by decide) (lv' := [(0, vR (some x0)), (1, vI x1), (2, vI x2), (3, vI (x3 + (1 : Int32)))]) rfl dX6_linkRunner_114 ?_
  refine J_goto (pc := 117) (tgt := 7) (by decide) dX6_linkRunner_117 ?_
  exact hk7 _ _ h
set_option maxHeartbeats 4000000 in
set_option maxRecDepth 100000 in
theorem jX6_linkRunner_L44 {ad : Nat → Nat} {ca : Nat → ClassId} {D : va_G} {FU d : Nat} {N : Mem}  {k7 : Int32 → Mem → Option (Mem)} {x0 : Nat} {x1 : Int32} {x2 : Int32} {x3 : Int32} {x4 : Int32}  (hk7 : ∀ (y3 : Int32) (M : Mem), k7 y3 M = some N → J ad ca D cX6_linkRunner RX6 8 (d + 3) (Gt ad ca D none (QV N)) 7 [(0, vR (some x0)), (1, vI x1), (2, vI x2), (3, vI y3)] [] M) : ∀ (F : Nat) (x5 : Int32) (M : Mem), fX6_linkRunner_L44 FU  k7 x0 x1 x2 x3 x4 F x5 M = some N → J ad ca D cX6_linkRunner RX6 8 (d + 3) (Gt ad ca D none (QV N)) 44 [(0, vR (some x0)), (1, vI x1), (2, vI x2), (3, vI x3), (4, vI x4), (5, vI x5)] [] M := by
  intro F
  induction F with
  | zero =>
    intro x5 M h
    rw [fX6_linkRunner_L44] at h
    cases h
  | succ F hk44 =>
    intro x5 M h
    rw [fX6_linkRunner_L44] at h
    refine J_iload (pc := 44) (q := 5) rfl dX6_linkRunner_44 ?_
    refine J_aload_n (pc := 46) (q := 0) rfl rfl dX6_linkRunner_46 ?_
    obtain ⟨a47, h47, g_1⟩ := bnd h
    refine J_getR (pc := 47) (i := 0) clF6 (by decide) rfl fl_RX6_50 h47 dX6_linkRunner_47 ?_
    obtain ⟨a50, h50, g_2⟩ := bnd g_1
    refine J_getI (pc := 50) (i := 8) clF3 (by decide) rfl fl_RX6_130 h50 dX6_linkRunner_50 ?_
    refine J_icgt (pc := 53) (tgt := 114) (by decide) dX6_linkRunner_53 (fun hc53 => ?_) (fun hc53 => ?_)
    · rw [if_pos hc53] at g_2
      refine J_sub [0, 1, 2, 3] (lv' := [(0, vR (some x0)), (1, vI x1), (2, vI x2), (3, vI x3)]) rfl ?_
      exact jX6_linkRunner_b114 hk7 g_2
    · rw [if_neg hc53] at g_2
      refine J_aload_n (pc := 56) (q := 0) rfl rfl dX6_linkRunner_56 ?_
      obtain ⟨a57, h57, g_3⟩ := bnd g_2
      refine J_getR (pc := 57) (i := 0) clF6 (by decide) rfl fl_RX6_50 h57 dX6_linkRunner_57 ?_
      refine J_iload_n (pc := 60) (q := 1) rfl rfl dX6_linkRunner_60 ?_
      refine J_iload_n (pc := 61) (q := 3) rfl rfl dX6_linkRunner_61 ?_
      refine J_iload (pc := 62) (q := 5) rfl dX6_linkRunner_62 ?_
      obtain ⟨b64, hb64, g_4⟩ := bnd g_3
      obtain ⟨r64, M64, h64, g_5⟩ := bnd2 g_4
      refine J_callVI (pc := 64) (as := [vI x1, vI x3, vI x5]) (tX3_runnerAfter (d := d)  h64) cf_X3_runnerAfter cv_X3_runnerAfter clF3 hb64 ml_RX6_133 (by omega) (Nat.le_of_ble_eq_true rfl) dX6_linkRunner_64 ?_
      refine J_istore (pc := 67) (by decide) (lv' := [(0, vR (some x0)), (1, vI x1), (2, vI x2), (3, vI x3), (4, vI x4), (5, vI x5), (6, vI r64)]) rfl dX6_linkRunner_67 ?_
      refine J_iload (pc := 69) (q := 6) rfl dX6_linkRunner_69 ?_
      refine J_iflt (pc := 71) (tgt := 108) (by decide) dX6_linkRunner_71 (fun hc71 => ?_) (fun hc71 => ?_)
      · rw [if_pos hc71] at g_5
        refine J_sub [0, 1, 2, 3, 4, 5] (lv' := [(0, vR (some x0)), (1, vI x1), (2, vI x2), (3, vI x3), (4, vI x4), (5, vI x5)]) rfl ?_
        exact jX6_linkRunner_b108 hk7 hk44 g_5
      · rw [if_neg hc71] at g_5
        refine J_aload_n (pc := 74) (q := 0) rfl rfl dX6_linkRunner_74 ?_
        obtain ⟨a75, h75, g_6⟩ := bnd g_5
        refine J_getR (pc := 75) (i := 0) clF6 (by decide) rfl fl_RX6_50 h75 dX6_linkRunner_75 ?_
        refine J_iload (pc := 78) (q := 5) rfl dX6_linkRunner_78 ?_
        obtain ⟨b80, hb80, g_7⟩ := bnd g_6
        obtain ⟨r80, M80, h80, g_8⟩ := bnd2 g_7
        refine J_callVI (pc := 80) (as := [vI x5]) (tX3_shutterPassed (d := d)  h80) cf_X3_shutterPassed cv_X3_shutterPassed clF3 hb80 ml_RX6_120 (by omega) (Nat.le_of_ble_eq_true rfl) dX6_linkRunner_80 ?_
        refine J_istore (pc := 83) (by decide) (lv' := [(0, vR (some x0)), (1, vI x1), (2, vI x2), (3, vI x3), (4, vI x4), (5, vI x5), (6, vI r64), (7, vI r80)]) rfl dX6_linkRunner_83 ?_
        refine J_aload_n (pc := 85) (q := 0) rfl rfl dX6_linkRunner_85 ?_
        refine J_iload (pc := 86) (q := 4) rfl dX6_linkRunner_86 ?_
        refine J_iload_n (pc := 88) (q := 1) rfl rfl dX6_linkRunner_88 ?_
        refine J_bipush (pc := 89) (v := (8 : Int32)) (by decide) dX6_linkRunner_89 ?_
        refine J_imul (pc := 91) dX6_linkRunner_91 ?_
        refine J_iload (pc := 92) (q := 6) rfl dX6_linkRunner_92 ?_
        refine J_iadd (pc := 94) dX6_linkRunner_94 ?_
        refine J_iload (pc := 95) (q := 7) rfl dX6_linkRunner_95 ?_
        obtain ⟨b97, hb97, g_9⟩ := bnd g_8
        obtain ⟨M97, h97, g_10⟩ := bnd g_9
        refine J_callVV (pc := 97) (as := [vI x4, vI ((x1 * (8 : Int32)) + r64), vI r80]) (tX6_addEdge (d := d)  h97) cf_X6_addEdge cv_X6_addEdge clF6 hb97 ml_RX6_126 (by omega) (Nat.le_of_ble_eq_true rfl) dX6_linkRunner_97 ?_
        refine J_aload_n (pc := 100) (q := 0) rfl rfl dX6_linkRunner_100 ?_
        refine J_iload (pc := 101) (q := 4) rfl dX6_linkRunner_101 ?_
        refine J_iload (pc := 103) (q := 7) rfl dX6_linkRunner_103 ?_
        obtain ⟨b105, hb105, g_11⟩ := bnd g_10
        obtain ⟨M105, h105, g_12⟩ := bnd g_11
        refine J_callVV (pc := 105) (as := [vI x4, vI r80]) (tX6_countMove (d := d)  h105) cf_X6_countMove cv_X6_countMove clF6 hb105 ml_RX6_136 (by omega) (Nat.le_of_ble_eq_true rfl) dX6_linkRunner_105 ?_
        refine J_sub [0, 1, 2, 3, 4, 5] (lv' := [(0, vR (some x0)), (1, vI x1), (2, vI x2), (3, vI x3), (4, vI x4), (5, vI x5)]) rfl ?_
        exact jX6_linkRunner_b108 hk7 hk44 g_12
set_option maxHeartbeats 4000000 in
set_option maxRecDepth 100000 in
theorem jX6_linkRunner_L7 {ad : Nat → Nat} {ca : Nat → ClassId} {D : va_G} {FU d : Nat} {N : Mem}   {x0 : Nat} {x1 : Int32} {x2 : Int32}   : ∀ (F : Nat) (x3 : Int32) (M : Mem), fX6_linkRunner_L7 FU  x0 x1 x2 F x3 M = some N → J ad ca D cX6_linkRunner RX6 8 (d + 3) (Gt ad ca D none (QV N)) 7 [(0, vR (some x0)), (1, vI x1), (2, vI x2), (3, vI x3)] [] M := by
  intro F
  induction F with
  | zero =>
    intro x3 M h
    rw [fX6_linkRunner_L7] at h
    cases h
  | succ F hk7 =>
    intro x3 M h
    rw [fX6_linkRunner_L7] at h
    refine J_iload_n (pc := 7) (q := 3) rfl rfl dX6_linkRunner_7 ?_
    refine J_aload_n (pc := 8) (q := 0) rfl rfl dX6_linkRunner_8 ?_
    obtain ⟨a9, h9, g_13⟩ := bnd h
    refine J_getR (pc := 9) (i := 0) clF6 (by decide) rfl fl_RX6_50 h9 dX6_linkRunner_9 ?_
    obtain ⟨a12, h12, g_14⟩ := bnd g_13
    refine J_getI (pc := 12) (i := 0) clF3 (by decide) rfl fl_RX6_123 h12 dX6_linkRunner_12 ?_
    refine J_icge (pc := 15) (tgt := 120) (by decide) dX6_linkRunner_15 (fun hc15 => ?_) (fun hc15 => ?_)
    · rw [if_pos hc15] at g_14
      exact J_vret (pc := 120) (qv_of g_14) dX6_linkRunner_120
    · rw [if_neg hc15] at g_14
      refine J_iload_n (pc := 18) (q := 2) rfl rfl dX6_linkRunner_18 ?_
      refine J_iload_n (pc := 19) (q := 3) rfl rfl dX6_linkRunner_19 ?_
      refine J_ishr (pc := 20) dX6_linkRunner_20 ?_
      refine J_iconst (pc := 21) (v := (1 : Int32)) (by decide) dX6_linkRunner_21 ?_
      refine J_iand (pc := 22) dX6_linkRunner_22 ?_
      refine J_ifeq (pc := 23) (tgt := 29) (by decide) dX6_linkRunner_23 (fun hc23 => ?_) (fun hc23 => ?_)
      · rw [if_pos hc23] at g_14
        refine J_sipush (pc := 29) (v := (512 : Int32)) (by decide) dX6_linkRunner_29 ?_
        refine J_iload_n (pc := 32) (q := 1) rfl rfl dX6_linkRunner_32 ?_
        refine J_bipush (pc := 33) (v := (8 : Int32)) (by decide) dX6_linkRunner_33 ?_
        refine J_imul (pc := 35) dX6_linkRunner_35 ?_
        refine J_iadd (pc := 36) dX6_linkRunner_36 ?_
        refine J_iload_n (pc := 37) (q := 3) rfl rfl dX6_linkRunner_37 ?_
        refine J_iadd (pc := 38) dX6_linkRunner_38 ?_
        refine J_istore (pc := 39) (by decide) (lv' := [(0, vR (some x0)), (1, vI x1), (2, vI x2), (3, vI x3), (4, vI (((512 : Int32) + (x1 * (8 : Int32))) + x3))]) rfl dX6_linkRunner_39 ?_
        refine J_iconst (pc := 41) (v := (0 : Int32)) (by decide) dX6_linkRunner_41 ?_
        refine J_istore (pc := 42) (by decide) (lv' := [(0, vR (some x0)), (1, vI x1), (2, vI x2), (3, vI x3), (4, vI (((512 : Int32) + (x1 * (8 : Int32))) + x3)), (5, vI (0 : Int32))]) rfl dX6_linkRunner_42 ?_
        exact jX6_linkRunner_L44 hk7 FU _ _ g_14
      · rw [if_neg hc23] at g_14
        refine J_goto (pc := 26) (tgt := 114) (by decide) dX6_linkRunner_26 ?_
        exact jX6_linkRunner_b114 hk7 g_14
set_option maxHeartbeats 4000000 in
set_option maxRecDepth 100000 in
theorem tX6_linkRunner {ad : Nat → Nat} {ca : Nat → ClassId} {D : va_G} {FU d : Nat} {N : Mem}  {x0 : Nat} {x1 : Int32} {M : Mem}  (h : fX6_linkRunner FU  x0 x1 M = some N) : Ct ad ca D yX6_linkRunner cX6_linkRunner 8 none (d + 3) [vR (some x0), vI x1] M (QV N) := by
  refine Ct_of (by decide) (Nat.le_of_ble_eq_true rfl) ?_
  show J ad ca D cX6_linkRunner RX6 8 (d + 3) (Gt ad ca D none (QV N)) 0 [(0, vR (some x0)), (1, vI x1)] [] M
  unfold fX6_linkRunner at h
  refine J_iload_n (pc := 0) (q := 1) rfl rfl dX6_linkRunner_0 ?_
  obtain ⟨r1, M1, h1, g_15⟩ := bnd2 h
  refine J_callSI (pc := 1) (as := [vI x1]) (tX3_placesOf (d := d)  h1) cf_X3_placesOf cv_X3_placesOf ml_RX6_113 (by omega) (Nat.le_of_ble_eq_true rfl) dX6_linkRunner_1 ?_
  refine J_istore_n (pc := 4) rfl (by decide) (lv' := [(0, vR (some x0)), (1, vI x1), (2, vI r1)]) rfl dX6_linkRunner_4 ?_
  refine J_iconst (pc := 5) (v := (0 : Int32)) (by decide) dX6_linkRunner_5 ?_
  refine J_istore_n (pc := 6) rfl (by decide) (lv' := [(0, vR (some x0)), (1, vI x1), (2, vI r1), (3, vI (0 : Int32))]) rfl dX6_linkRunner_6 ?_
  exact jX6_linkRunner_L7  FU _ _ g_15
set_option maxHeartbeats 4000000 in
set_option maxRecDepth 100000 in
theorem tX6_decide {ad : Nat → Nat} {ca : Nat → ClassId} {D : va_G} {FU d : Nat} {N : Mem}  {x0 : Nat} {x1 : Int32} {x2 : Int32} {M : Mem}  (h : fX6_decide FU  x0 x1 x2 M = some N) : Ct ad ca D yX6_decide cX6_decide 3 none (d + 0) [vR (some x0), vI x1, vI x2] M (QV N) := by
  refine Ct_of (by decide) (Nat.le_of_ble_eq_true rfl) ?_
  show J ad ca D cX6_decide RX6 3 (d + 0) (Gt ad ca D none (QV N)) 0 [(0, vR (some x0)), (1, vI x1), (2, vI x2)] [] M
  unfold fX6_decide at h
  refine J_aload_n (pc := 0) (q := 0) rfl rfl dX6_decide_0 ?_
  obtain ⟨a1, h1, g_1⟩ := bnd h
  refine J_getI (pc := 1) (i := 8) clF6 (by decide) rfl fl_RX6_91 h1 dX6_decide_1 ?_
  refine J_sipush (pc := 4) (v := (9216 : Int32)) (by decide) dX6_decide_4 ?_
  refine J_icge (pc := 7) (tgt := 34) (by decide) dX6_decide_7 (fun hc7 => ?_) (fun hc7 => ?_)
  · rw [if_pos hc7] at g_1
    exact J_vret (pc := 34) (qv_of g_1) dX6_decide_34
  · rw [if_neg hc7] at g_1
    refine J_aload_n (pc := 10) (q := 0) rfl rfl dX6_decide_10 ?_
    obtain ⟨a11, h11, g_2⟩ := bnd g_1
    refine J_getR (pc := 11) (i := 5) clF6 (by decide) rfl fl_RX6_15 h11 dX6_decide_11 ?_
    refine J_iload_n (pc := 14) (q := 1) rfl rfl dX6_decide_14 ?_
    refine J_iload_n (pc := 15) (q := 2) rfl rfl dX6_decide_15 ?_
    obtain ⟨M16, h16, g_3⟩ := bnd g_2
    refine J_ast0 (pc := 16) h16 dX6_decide_16 ?_
    refine J_aload_n (pc := 17) (q := 0) rfl rfl dX6_decide_17 ?_
    obtain ⟨a18, h18, g_4⟩ := bnd g_3
    refine J_getR (pc := 18) (i := 7) clF6 (by decide) rfl fl_RX6_22 h18 dX6_decide_18 ?_
    refine J_aload_n (pc := 21) (q := 0) rfl rfl dX6_decide_21 ?_
    refine J_dup (pc := 22) rfl dX6_decide_22 ?_
    obtain ⟨a23, h23, g_5⟩ := bnd g_4
    refine J_getI (pc := 23) (i := 8) clF6 (by decide) rfl fl_RX6_91 h23 dX6_decide_23 ?_
    refine J_dup_x1 (pc := 26) rfl rfl dX6_decide_26 ?_
    refine J_iconst (pc := 27) (v := (1 : Int32)) (by decide) dX6_decide_27 ?_
    refine J_iadd (pc := 28) dX6_decide_28 ?_
    obtain ⟨M29, h29, g_6⟩ := bnd g_5
    refine J_putI (pc := 29) (i := 8) clF6 (by decide) rfl fl_RX6_91 rfl rfl h29 dX6_decide_29 ?_
    refine J_iload_n (pc := 32) (q := 1) rfl rfl dX6_decide_32 ?_
    obtain ⟨M33, h33, g_7⟩ := bnd g_6
    refine J_ast0 (pc := 33) h33 dX6_decide_33 ?_
    exact J_vret (pc := 34) (qv_of g_7) dX6_decide_34
set_option maxHeartbeats 4000000 in
set_option maxRecDepth 100000 in
theorem jX6_queueCaught_b102 {ad : Nat → Nat} {ca : Nat → ClassId} {D : va_G} {FU d : Nat} {N : Mem}  {k7 : Int32 → Mem → Option (Mem)} {k36 : Int32 → Mem → Option (Mem)} {x0 : Nat} {x1 : Int32} {x2 : Int32} {x3 : Int32} {x4 : Int32} {x5 : Int32} {M : Mem}  (hk7 : ∀ (y3 : Int32) (M : Mem), k7 y3 M = some N → J ad ca D cX6_queueCaught RX6 7 (d + 1) (Gt ad ca D none (QV N)) 7 [(0, vR (some x0)), (1, vI x1), (2, vI x2), (3, vI y3)] [] M) (hk36 : ∀ (y5 : Int32) (M : Mem), k36 y5 M = some N → J ad ca D cX6_queueCaught RX6 7 (d + 1) (Gt ad ca D none (QV N)) 36 [(0, vR (some x0)), (1, vI x1), (2, vI x2), (3, vI x3), (4, vI x4), (5, vI y5)] [] M) (h : fX6_queueCaught_b102 FU  k7 k36 x0 x1 x2 x3 x4 x5 M = some N) : J ad ca D cX6_queueCaught RX6 7 (d + 1) (Gt ad ca D none (QV N)) 102 [(0, vR (some x0)), (1, vI x1), (2, vI x2), (3, vI x3), (4, vI x4), (5, vI x5)] [] M := by
  unfold fX6_queueCaught_b102 at h
  refine J_iinc (pc := 102) (q := 5) rfl (v := x5 + (1 : Int32)) rfl (by decide) (lv' := [(0, vR (some x0)), (1, vI x1), (2, vI x2), (3, vI x3), (4, vI x4), (5, vI (x5 + (1 : Int32)))]) rfl dX6_queueCaught_102 ?_
  refine J_goto (pc := 105) (tgt := 36) (by decide) dX6_queueCaught_105 ?_
  exact hk36 _ _ h
set_option maxHeartbeats 4000000 in
set_option maxRecDepth 100000 in
theorem jX6_queueCaught_b91 {ad : Nat → Nat} {ca : Nat → ClassId} {D : va_G} {FU d : Nat} {N : Mem}  {k7 : Int32 → Mem → Option (Mem)} {k36 : Int32 → Mem → Option (Mem)} {x0 : Nat} {x1 : Int32} {x2 : Int32} {x3 : Int32} {x4 : Int32} {x5 : Int32} {x6 : Int32} {M : Mem}  (hk7 : ∀ (y3 : Int32) (M : Mem), k7 y3 M = some N → J ad ca D cX6_queueCaught RX6 7 (d + 1) (Gt ad ca D none (QV N)) 7 [(0, vR (some x0)), (1, vI x1), (2, vI x2), (3, vI y3)] [] M) (hk36 : ∀ (y5 : Int32) (M : Mem), k36 y5 M = some N → J ad ca D cX6_queueCaught RX6 7 (d + 1) (Gt ad ca D none (QV N)) 36 [(0, vR (some x0)), (1, vI x1), (2, vI x2), (3, vI x3), (4, vI x4), (5, vI y5)] [] M) (h : fX6_queueCaught_b91 FU  k7 k36 x0 x1 x2 x3 x4 x5 x6 M = some N) : J ad ca D cX6_queueCaught RX6 7 (d + 1) (Gt ad ca D none (QV N)) 91 [(0, vR (some x0)), (1, vI x1), (2, vI x2), (3, vI x3), (4, vI x4), (5, vI x5), (6, vI x6)] [] M := by
  unfold fX6_queueCaught_b91 at h
  refine J_aload_n (pc := 91) (q := 0) rfl rfl dX6_queueCaught_91 ?_
  refine J_iload (pc := 92) (q := 6) rfl dX6_queueCaught_92 ?_
  refine J_sipush (pc := 94) (v := (512 : Int32)) (by decide) dX6_queueCaught_94 ?_
  refine J_iadd (pc := 97) dX6_queueCaught_97 ?_
  refine J_iconst (pc := 98) (v := (0 : Int32)) (by decide) dX6_queueCaught_98 ?_
  obtain ⟨b99, hb99, g_1⟩ := bnd h
  obtain ⟨M99, h99, g_2⟩ := bnd g_1
  refine J_callVV (pc := 99) (as := [vI (x6 + (512 : Int32)), vI (0 : Int32)]) (tX6_decide (d := d)  h99) cf_X6_decide cv_X6_decide clF6 hb99 ml_RX6_140 (by omega) (Nat.le_of_ble_eq_true rfl) dX6_queueCaught_99 ?_
  refine J_sub [0, 1, 2, 3, 4, 5] (lv' := [(0, vR (some x0)), (1, vI x1), (2, vI x2), (3, vI x3), (4, vI x4), (5, vI x5)]) rfl ?_
  exact jX6_queueCaught_b102 hk7 hk36 g_2
set_option maxHeartbeats 4000000 in
set_option maxRecDepth 100000 in
theorem jX6_queueCaught_b72 {ad : Nat → Nat} {ca : Nat → ClassId} {D : va_G} {FU d : Nat} {N : Mem}  {k7 : Int32 → Mem → Option (Mem)} {k36 : Int32 → Mem → Option (Mem)} {x0 : Nat} {x1 : Int32} {x2 : Int32} {x3 : Int32} {x4 : Int32} {x5 : Int32} {x6 : Int32} {M : Mem}  (hk7 : ∀ (y3 : Int32) (M : Mem), k7 y3 M = some N → J ad ca D cX6_queueCaught RX6 7 (d + 1) (Gt ad ca D none (QV N)) 7 [(0, vR (some x0)), (1, vI x1), (2, vI x2), (3, vI y3)] [] M) (hk36 : ∀ (y5 : Int32) (M : Mem), k36 y5 M = some N → J ad ca D cX6_queueCaught RX6 7 (d + 1) (Gt ad ca D none (QV N)) 36 [(0, vR (some x0)), (1, vI x1), (2, vI x2), (3, vI x3), (4, vI x4), (5, vI y5)] [] M) (h : fX6_queueCaught_b72 FU  k7 k36 x0 x1 x2 x3 x4 x5 x6 M = some N) : J ad ca D cX6_queueCaught RX6 7 (d + 1) (Gt ad ca D none (QV N)) 72 [(0, vR (some x0)), (1, vI x1), (2, vI x2), (3, vI x3), (4, vI x4), (5, vI x5), (6, vI x6)] [] M := by
  unfold fX6_queueCaught_b72 at h
  refine J_iload (pc := 72) (q := 4) rfl dX6_queueCaught_72 ?_
  refine J_ifne (pc := 74) (tgt := 91) (by decide) dX6_queueCaught_74 (fun hc74 => ?_) (fun hc74 => ?_)
  · rw [if_pos hc74] at h
    exact jX6_queueCaught_b91 hk7 hk36 h
  · rw [if_neg hc74] at h
    refine J_aload_n (pc := 77) (q := 0) rfl rfl dX6_queueCaught_77 ?_
    obtain ⟨a78, h78, g_3⟩ := bnd h
    refine J_getR (pc := 78) (i := 6) clF6 (by decide) rfl fl_RX6_19 h78 dX6_queueCaught_78 ?_
    refine J_iload (pc := 81) (q := 6) rfl dX6_queueCaught_81 ?_
    refine J_sipush (pc := 83) (v := (512 : Int32)) (by decide) dX6_queueCaught_83 ?_
    refine J_iadd (pc := 86) dX6_queueCaught_86 ?_
    obtain ⟨a87, h87, g_4⟩ := bnd g_3
    refine J_ald0 (pc := 87) h87 dX6_queueCaught_87 ?_
    refine J_ifne (pc := 88) (tgt := 102) (by decide) dX6_queueCaught_88 (fun hc88 => ?_) (fun hc88 => ?_)
    · rw [if_pos hc88] at g_4
      refine J_sub [0, 1, 2, 3, 4, 5] (lv' := [(0, vR (some x0)), (1, vI x1), (2, vI x2), (3, vI x3), (4, vI x4), (5, vI x5)]) rfl ?_
      exact jX6_queueCaught_b102 hk7 hk36 g_4
    · rw [if_neg hc88] at g_4
      exact jX6_queueCaught_b91 hk7 hk36 g_4
set_option maxHeartbeats 4000000 in
set_option maxRecDepth 100000 in
theorem jX6_queueCaught_L36 {ad : Nat → Nat} {ca : Nat → ClassId} {D : va_G} {FU d : Nat} {N : Mem}  {k7 : Int32 → Mem → Option (Mem)} {x0 : Nat} {x1 : Int32} {x2 : Int32} {x3 : Int32} {x4 : Int32}  (hk7 : ∀ (y3 : Int32) (M : Mem), k7 y3 M = some N → J ad ca D cX6_queueCaught RX6 7 (d + 1) (Gt ad ca D none (QV N)) 7 [(0, vR (some x0)), (1, vI x1), (2, vI x2), (3, vI y3)] [] M) : ∀ (F : Nat) (x5 : Int32) (M : Mem), fX6_queueCaught_L36 FU  k7 x0 x1 x2 x3 x4 F x5 M = some N → J ad ca D cX6_queueCaught RX6 7 (d + 1) (Gt ad ca D none (QV N)) 36 [(0, vR (some x0)), (1, vI x1), (2, vI x2), (3, vI x3), (4, vI x4), (5, vI x5)] [] M := by
  intro F
  induction F with
  | zero =>
    intro x5 M h
    rw [fX6_queueCaught_L36] at h
    cases h
  | succ F hk36 =>
    intro x5 M h
    rw [fX6_queueCaught_L36] at h
    refine J_iload (pc := 36) (q := 5) rfl dX6_queueCaught_36 ?_
    refine J_aload_n (pc := 38) (q := 0) rfl rfl dX6_queueCaught_38 ?_
    obtain ⟨a39, h39, g_5⟩ := bnd h
    refine J_getI (pc := 39) (i := 14) clF6 (by decide) rfl fl_RX6_37 h39 dX6_queueCaught_39 ?_
    refine J_icge (pc := 42) (tgt := 108) (by decide) dX6_queueCaught_42 (fun hc42 => ?_) (fun hc42 => ?_)
    · rw [if_pos hc42] at g_5
      refine J_iinc (pc := 108) (q := 3) rfl (v := x3 + (1 : Int32)) rfl (by decide) (lv' := [(0, vR (some x0)), (1, vI x1), (2, vI x2), (4, vI x4), (5, vI x5), (3, vI (x3 + (1 : Int32)))]) rfl dX6_queueCaught_108 ?_
      refine J_goto (pc := 111) (tgt := 7) (by decide) dX6_queueCaught_111 ?_
      refine J_sub [0, 1, 2, 5] (lv' := [(0, vR (some x0)), (1, vI x1), (2, vI x2), (3, vI (x3 + (1 : Int32)))]) rfl ?_
      exact hk7 _ _ g_5
    · rw [if_neg hc42] at g_5
      refine J_iload (pc := 45) (q := 5) rfl dX6_queueCaught_45 ?_
      refine J_sipush (pc := 47) (v := (1024 : Int32)) (by decide) dX6_queueCaught_47 ?_
      refine J_imul (pc := 50) dX6_queueCaught_50 ?_
      refine J_iload_n (pc := 51) (q := 1) rfl rfl dX6_queueCaught_51 ?_
      refine J_bipush (pc := 52) (v := (8 : Int32)) (by decide) dX6_queueCaught_52 ?_
      refine J_imul (pc := 54) dX6_queueCaught_54 ?_
      refine J_iadd (pc := 55) dX6_queueCaught_55 ?_
      refine J_iload_n (pc := 56) (q := 3) rfl rfl dX6_queueCaught_56 ?_
      refine J_iadd (pc := 57) dX6_queueCaught_57 ?_
      refine J_istore (pc := 58) (by decide) (lv' := [(0, vR (some x0)), (1, vI x1), (2, vI x2), (3, vI x3), (4, vI x4), (5, vI x5), (6, vI (((x5 * (1024 : Int32)) + (x1 * (8 : Int32))) + x3))]) rfl dX6_queueCaught_58 ?_
      refine J_iload (pc := 60) (q := 4) rfl dX6_queueCaught_60 ?_
      refine J_ifeq (pc := 62) (tgt := 72) (by decide) dX6_queueCaught_62 (fun hc62 => ?_) (fun hc62 => ?_)
      · rw [if_pos hc62] at g_5
        exact jX6_queueCaught_b72 hk7 hk36 g_5
      · rw [if_neg hc62] at g_5
        refine J_aload_n (pc := 65) (q := 0) rfl rfl dX6_queueCaught_65 ?_
        refine J_iload (pc := 66) (q := 6) rfl dX6_queueCaught_66 ?_
        refine J_iconst (pc := 68) (v := (0 : Int32)) (by decide) dX6_queueCaught_68 ?_
        obtain ⟨b69, hb69, g_6⟩ := bnd g_5
        obtain ⟨M69, h69, g_7⟩ := bnd g_6
        refine J_callVV (pc := 69) (as := [vI (((x5 * (1024 : Int32)) + (x1 * (8 : Int32))) + x3), vI (0 : Int32)]) (tX6_decide (d := d)  h69) cf_X6_decide cv_X6_decide clF6 hb69 ml_RX6_140 (by omega) (Nat.le_of_ble_eq_true rfl) dX6_queueCaught_69 ?_
        exact jX6_queueCaught_b72 hk7 hk36 g_7
set_option maxHeartbeats 4000000 in
set_option maxRecDepth 100000 in
theorem jX6_queueCaught_b31 {ad : Nat → Nat} {ca : Nat → ClassId} {D : va_G} {FU d : Nat} {N : Mem}  {k7 : Int32 → Mem → Option (Mem)} {x0 : Nat} {x1 : Int32} {x2 : Int32} {x3 : Int32} {s0 : Int32} {M : Mem}  (hk7 : ∀ (y3 : Int32) (M : Mem), k7 y3 M = some N → J ad ca D cX6_queueCaught RX6 7 (d + 1) (Gt ad ca D none (QV N)) 7 [(0, vR (some x0)), (1, vI x1), (2, vI x2), (3, vI y3)] [] M) (h : fX6_queueCaught_b31 FU  k7 x0 x1 x2 x3 s0 M = some N) : J ad ca D cX6_queueCaught RX6 7 (d + 1) (Gt ad ca D none (QV N)) 31 [(0, vR (some x0)), (1, vI x1), (2, vI x2), (3, vI x3)] [vI s0] M := by
  unfold fX6_queueCaught_b31 at h
  refine J_istore (pc := 31) (by decide) (lv' := [(0, vR (some x0)), (1, vI x1), (2, vI x2), (3, vI x3), (4, vI s0)]) rfl dX6_queueCaught_31 ?_
  refine J_iconst (pc := 33) (v := (0 : Int32)) (by decide) dX6_queueCaught_33 ?_
  refine J_istore (pc := 34) (by decide) (lv' := [(0, vR (some x0)), (1, vI x1), (2, vI x2), (3, vI x3), (4, vI s0), (5, vI (0 : Int32))]) rfl dX6_queueCaught_34 ?_
  exact jX6_queueCaught_L36 hk7 FU _ _ h
set_option maxHeartbeats 4000000 in
set_option maxRecDepth 100000 in
theorem jX6_queueCaught_L7 {ad : Nat → Nat} {ca : Nat → ClassId} {D : va_G} {FU d : Nat} {N : Mem}   {x0 : Nat} {x1 : Int32} {x2 : Int32}   : ∀ (F : Nat) (x3 : Int32) (M : Mem), fX6_queueCaught_L7 FU  x0 x1 x2 F x3 M = some N → J ad ca D cX6_queueCaught RX6 7 (d + 1) (Gt ad ca D none (QV N)) 7 [(0, vR (some x0)), (1, vI x1), (2, vI x2), (3, vI x3)] [] M := by
  intro F
  induction F with
  | zero =>
    intro x3 M h
    rw [fX6_queueCaught_L7] at h
    cases h
  | succ F hk7 =>
    intro x3 M h
    rw [fX6_queueCaught_L7] at h
    refine J_iload_n (pc := 7) (q := 3) rfl rfl dX6_queueCaught_7 ?_
    refine J_aload_n (pc := 8) (q := 0) rfl rfl dX6_queueCaught_8 ?_
    obtain ⟨a9, h9, g_8⟩ := bnd h
    refine J_getR (pc := 9) (i := 0) clF6 (by decide) rfl fl_RX6_50 h9 dX6_queueCaught_9 ?_
    obtain ⟨a12, h12, g_9⟩ := bnd g_8
    refine J_getI (pc := 12) (i := 0) clF3 (by decide) rfl fl_RX6_123 h12 dX6_queueCaught_12 ?_
    refine J_icge (pc := 15) (tgt := 114) (by decide) dX6_queueCaught_15 (fun hc15 => ?_) (fun hc15 => ?_)
    · rw [if_pos hc15] at g_9
      exact J_vret (pc := 114) (qv_of g_9) dX6_queueCaught_114
    · rw [if_neg hc15] at g_9
      refine J_iload_n (pc := 18) (q := 2) rfl rfl dX6_queueCaught_18 ?_
      refine J_iload_n (pc := 19) (q := 3) rfl rfl dX6_queueCaught_19 ?_
      refine J_ishr (pc := 20) dX6_queueCaught_20 ?_
      refine J_iconst (pc := 21) (v := (1 : Int32)) (by decide) dX6_queueCaught_21 ?_
      refine J_iand (pc := 22) dX6_queueCaught_22 ?_
      refine J_ifeq (pc := 23) (tgt := 30) (by decide) dX6_queueCaught_23 (fun hc23 => ?_) (fun hc23 => ?_)
      · rw [if_pos hc23] at g_9
        refine J_iconst (pc := 30) (v := (0 : Int32)) (by decide) dX6_queueCaught_30 ?_
        exact jX6_queueCaught_b31 hk7 g_9
      · rw [if_neg hc23] at g_9
        refine J_iconst (pc := 26) (v := (1 : Int32)) (by decide) dX6_queueCaught_26 ?_
        refine J_goto (pc := 27) (tgt := 31) (by decide) dX6_queueCaught_27 ?_
        exact jX6_queueCaught_b31 hk7 g_9
set_option maxHeartbeats 4000000 in
set_option maxRecDepth 100000 in
theorem tX6_queueCaught {ad : Nat → Nat} {ca : Nat → ClassId} {D : va_G} {FU d : Nat} {N : Mem}  {x0 : Nat} {x1 : Int32} {M : Mem}  (h : fX6_queueCaught FU  x0 x1 M = some N) : Ct ad ca D yX6_queueCaught cX6_queueCaught 7 none (d + 1) [vR (some x0), vI x1] M (QV N) := by
  refine Ct_of (by decide) (Nat.le_of_ble_eq_true rfl) ?_
  show J ad ca D cX6_queueCaught RX6 7 (d + 1) (Gt ad ca D none (QV N)) 0 [(0, vR (some x0)), (1, vI x1)] [] M
  unfold fX6_queueCaught at h
  refine J_iload_n (pc := 0) (q := 1) rfl rfl dX6_queueCaught_0 ?_
  obtain ⟨r1, M1, h1, g_10⟩ := bnd2 h
  refine J_callSI (pc := 1) (as := [vI x1]) (tX3_placesOf (d := d)  h1) cf_X3_placesOf cv_X3_placesOf ml_RX6_113 (by omega) (Nat.le_of_ble_eq_true rfl) dX6_queueCaught_1 ?_
  refine J_istore_n (pc := 4) rfl (by decide) (lv' := [(0, vR (some x0)), (1, vI x1), (2, vI r1)]) rfl dX6_queueCaught_4 ?_
  refine J_iconst (pc := 5) (v := (0 : Int32)) (by decide) dX6_queueCaught_5 ?_
  refine J_istore_n (pc := 6) rfl (by decide) (lv' := [(0, vR (some x0)), (1, vI x1), (2, vI r1), (3, vI (0 : Int32))]) rfl dX6_queueCaught_6 ?_
  exact jX6_queueCaught_L7  FU _ _ g_10
set_option maxHeartbeats 4000000 in
set_option maxRecDepth 100000 in
theorem jX6_leadsTo_b37 {ad : Nat → Nat} {ca : Nat → ClassId} {D : va_G} {FU d : Nat} {N : Mem}   {x0 : Nat} {x1 : Int32} {x2 : Int32} {M : Mem}   (h : fX6_leadsTo_b37 FU  x0 x1 x2 M = some N) : J ad ca D cX6_leadsTo RX6 3 (d + 1) (Gt ad ca D none (QV N)) 37 [(0, vR (some x0)), (1, vI x1), (2, vI x2)] [] M := by
  unfold fX6_leadsTo_b37 at h
  refine J_aload_n (pc := 37) (q := 0) rfl rfl dX6_leadsTo_37 ?_
  refine J_iload_n (pc := 38) (q := 1) rfl rfl dX6_leadsTo_38 ?_
  refine J_iload_n (pc := 39) (q := 2) rfl rfl dX6_leadsTo_39 ?_
  obtain ⟨b40, hb40, g_1⟩ := bnd h
  obtain ⟨M40, h40, g_2⟩ := bnd g_1
  refine J_callVV (pc := 40) (as := [vI x1, vI x2]) (tX6_decide (d := d)  h40) cf_X6_decide cv_X6_decide clF6 hb40 ml_RX6_140 (by omega) (Nat.le_of_ble_eq_true rfl) dX6_leadsTo_40 ?_
  exact J_vret (pc := 43) (qv_of g_2) dX6_leadsTo_43
set_option maxHeartbeats 4000000 in
set_option maxRecDepth 100000 in
theorem tX6_leadsTo {ad : Nat → Nat} {ca : Nat → ClassId} {D : va_G} {FU d : Nat} {N : Mem}  {x0 : Nat} {x1 : Int32} {x2 : Int32} {M : Mem}  (h : fX6_leadsTo FU  x0 x1 x2 M = some N) : Ct ad ca D yX6_leadsTo cX6_leadsTo 3 none (d + 1) [vR (some x0), vI x1, vI x2] M (QV N) := by
  refine Ct_of (by decide) (Nat.le_of_ble_eq_true rfl) ?_
  show J ad ca D cX6_leadsTo RX6 3 (d + 1) (Gt ad ca D none (QV N)) 0 [(0, vR (some x0)), (1, vI x1), (2, vI x2)] [] M
  unfold fX6_leadsTo at h
  refine J_aload_n (pc := 0) (q := 0) rfl rfl dX6_leadsTo_0 ?_
  obtain ⟨a1, h1, g_3⟩ := bnd h
  refine J_getR (pc := 1) (i := 5) clF6 (by decide) rfl fl_RX6_15 h1 dX6_leadsTo_1 ?_
  refine J_iload_n (pc := 4) (q := 1) rfl rfl dX6_leadsTo_4 ?_
  obtain ⟨a5, h5, g_4⟩ := bnd g_3
  refine J_ald0 (pc := 5) h5 dX6_leadsTo_5 ?_
  refine J_iflt (pc := 6) (tgt := 10) (by decide) dX6_leadsTo_6 (fun hc6 => ?_) (fun hc6 => ?_)
  · rw [if_pos hc6] at g_4
    refine J_iload_n (pc := 10) (q := 1) rfl rfl dX6_leadsTo_10 ?_
    obtain ⟨r11, M11, h11, g_5⟩ := bnd2 g_4
    refine J_callSI (pc := 11) (as := [vI x1]) (tX6_isRunnersTurn (d := d)  h11) cf_X6_isRunnersTurn cv_X6_isRunnersTurn ml_RX6_146 (by omega) (Nat.le_of_ble_eq_true rfl) dX6_leadsTo_11 ?_
    refine J_ifeq (pc := 14) (tgt := 37) (by decide) dX6_leadsTo_14 (fun hc14 => ?_) (fun hc14 => ?_)
    · rw [if_pos hc14] at g_5
      exact jX6_leadsTo_b37  g_5
    · rw [if_neg hc14] at g_5
      refine J_aload_n (pc := 17) (q := 0) rfl rfl dX6_leadsTo_17 ?_
      obtain ⟨a18, h18, g_6⟩ := bnd g_5
      refine J_getR (pc := 18) (i := 6) clF6 (by decide) rfl fl_RX6_19 h18 dX6_leadsTo_18 ?_
      refine J_iload_n (pc := 21) (q := 1) rfl rfl dX6_leadsTo_21 ?_
      refine J_dup2 (pc := 22) rfl rfl dX6_leadsTo_22 ?_
      obtain ⟨a23, h23, g_7⟩ := bnd g_6
      refine J_ald0 (pc := 23) h23 dX6_leadsTo_23 ?_
      refine J_iconst (pc := 24) (v := (1 : Int32)) (by decide) dX6_leadsTo_24 ?_
      refine J_isub (pc := 25) dX6_leadsTo_25 ?_
      obtain ⟨M26, h26, g_8⟩ := bnd g_7
      refine J_ast0 (pc := 26) h26 dX6_leadsTo_26 ?_
      refine J_aload_n (pc := 27) (q := 0) rfl rfl dX6_leadsTo_27 ?_
      obtain ⟨a28, h28, g_9⟩ := bnd g_8
      refine J_getR (pc := 28) (i := 6) clF6 (by decide) rfl fl_RX6_19 h28 dX6_leadsTo_28 ?_
      refine J_iload_n (pc := 31) (q := 1) rfl rfl dX6_leadsTo_31 ?_
      obtain ⟨a32, h32, g_10⟩ := bnd g_9
      refine J_ald0 (pc := 32) h32 dX6_leadsTo_32 ?_
      refine J_ifle (pc := 33) (tgt := 37) (by decide) dX6_leadsTo_33 (fun hc33 => ?_) (fun hc33 => ?_)
      · rw [if_pos hc33] at g_10
        exact jX6_leadsTo_b37  g_10
      · rw [if_neg hc33] at g_10
        exact J_vret (pc := 36) (qv_of g_10) dX6_leadsTo_36
  · rw [if_neg hc6] at g_4
    exact J_vret (pc := 9) (qv_of g_4) dX6_leadsTo_9
set_option maxHeartbeats 4000000 in
set_option maxRecDepth 100000 in
theorem jX6_spreadBackward_b127 {ad : Nat → Nat} {ca : Nat → ClassId} {D : va_G} {FU d : Nat} {N : Mem}  {k2 : Int32 → Mem → Option (Mem)} {k45 : Int32 → Int32 → Mem → Option (Mem)} {k82 : Int32 → Mem → Option (Mem)} {x0 : Nat} {x1 : Int32} {x2 : Int32} {x3 : Int32} {x4 : Int32} {x5 : Int32} {x6 : Int32} {x7 : Int32} {M : Mem}  (hk2 : ∀ (y1 : Int32) (M : Mem), k2 y1 M = some N → J ad ca D cX6_spreadBackward RX6 8 (d + 2) (Gt ad ca D none (QV N)) 2 [(0, vR (some x0)), (1, vI y1)] [] M) (hk45 : ∀ (y4 : Int32) (y5 : Int32) (M : Mem), k45 y4 y5 M = some N → J ad ca D cX6_spreadBackward RX6 8 (d + 2) (Gt ad ca D none (QV N)) 45 [(0, vR (some x0)), (1, vI x1), (2, vI x2), (3, vI x3), (4, vI y4), (5, vI y5)] [] M) (hk82 : ∀ (y7 : Int32) (M : Mem), k82 y7 M = some N → J ad ca D cX6_spreadBackward RX6 8 (d + 2) (Gt ad ca D none (QV N)) 82 [(0, vR (some x0)), (1, vI x1), (2, vI x2), (3, vI x3), (4, vI x4), (5, vI x5), (6, vI x6), (7, vI y7)] [] M) (h : fX6_spreadBackward_b127 FU  k2 k45 k82 x0 x1 x2 x3 x4 x5 x6 x7 M = some N) : J ad ca D cX6_spreadBackward RX6 8 (d + 2) (Gt ad ca D none (QV N)) 127 [(0, vR (some x0)), (1, vI x1), (2, vI x2), (3, vI x3), (4, vI x4), (5, vI x5), (6, vI x6), (7, vI x7)] [] M := by
  unfold fX6_spreadBackward_b127 at h
  refine J_iinc (pc := 127) (q := 7) rfl (v := x7 + (1 : Int32)) rfl (by decide) (lv' := [(0, vR (some x0)), (1, vI x1), (2, vI x2), (3, vI x3), (4, vI x4), (5, vI x5), (6, vI x6), (7, vI (x7 + (1 : Int32)))]) rfl dX6_spreadBackward_127 ?_
  refine J_goto (pc := 130) (tgt := 82) (by decide) dX6_spreadBackward_130 ?_
  exact hk82 _ _ h
set_option maxHeartbeats 4000000 in
set_option maxRecDepth 100000 in
theorem jX6_spreadBackward_L82 {ad : Nat → Nat} {ca : Nat → ClassId} {D : va_G} {FU d : Nat} {N : Mem}  {k2 : Int32 → Mem → Option (Mem)} {k45 : Int32 → Int32 → Mem → Option (Mem)} {x0 : Nat} {x1 : Int32} {x2 : Int32} {x3 : Int32} {x4 : Int32} {x5 : Int32} {x6 : Int32}  (hk2 : ∀ (y1 : Int32) (M : Mem), k2 y1 M = some N → J ad ca D cX6_spreadBackward RX6 8 (d + 2) (Gt ad ca D none (QV N)) 2 [(0, vR (some x0)), (1, vI y1)] [] M) (hk45 : ∀ (y4 : Int32) (y5 : Int32) (M : Mem), k45 y4 y5 M = some N → J ad ca D cX6_spreadBackward RX6 8 (d + 2) (Gt ad ca D none (QV N)) 45 [(0, vR (some x0)), (1, vI x1), (2, vI x2), (3, vI x3), (4, vI y4), (5, vI y5)] [] M) : ∀ (F : Nat) (x7 : Int32) (M : Mem), fX6_spreadBackward_L82 FU  k2 k45 x0 x1 x2 x3 x4 x5 x6 F x7 M = some N → J ad ca D cX6_spreadBackward RX6 8 (d + 2) (Gt ad ca D none (QV N)) 82 [(0, vR (some x0)), (1, vI x1), (2, vI x2), (3, vI x3), (4, vI x4), (5, vI x5), (6, vI x6), (7, vI x7)] [] M := by
  intro F
  induction F with
  | zero =>
    intro x7 M h
    rw [fX6_spreadBackward_L82] at h
    cases h
  | succ F hk82 =>
    intro x7 M h
    rw [fX6_spreadBackward_L82] at h
    refine J_iload (pc := 82) (q := 7) rfl dX6_spreadBackward_82 ?_
    refine J_aload_n (pc := 84) (q := 0) rfl rfl dX6_spreadBackward_84 ?_
    obtain ⟨a85, h85, g_1⟩ := bnd h
    refine J_getI (pc := 85) (i := 14) clF6 (by decide) rfl fl_RX6_37 h85 dX6_spreadBackward_85 ?_
    refine J_icge (pc := 88) (tgt := 133) (by decide) dX6_spreadBackward_88 (fun hc88 => ?_) (fun hc88 => ?_)
    · rw [if_pos hc88] at g_1
      refine J_aload_n (pc := 133) (q := 0) rfl rfl dX6_spreadBackward_133 ?_
      obtain ⟨a134, h134, g_2⟩ := bnd g_1
      refine J_getR (pc := 134) (i := 10) clF6 (by decide) rfl fl_RX6_28 h134 dX6_spreadBackward_134 ?_
      refine J_iload (pc := 137) (q := 4) rfl dX6_spreadBackward_137 ?_
      obtain ⟨a139, h139, g_3⟩ := bnd g_2
      refine J_ald0 (pc := 139) h139 dX6_spreadBackward_139 ?_
      refine J_istore (pc := 140) (by decide) (lv' := [(0, vR (some x0)), (1, vI x1), (2, vI x2), (3, vI x3), (5, vI x5), (6, vI x6), (7, vI x7), (4, vI a139)]) rfl dX6_spreadBackward_140 ?_
      refine J_iinc (pc := 142) (q := 4) rfl (v := x5 + (1 : Int32)) rfl (by decide) (lv' := [(0, vR (some x0)), (1, vI x1), (2, vI x2), (3, vI x3), (6, vI x6), (7, vI x7), (4, vI a139), (5, vI (x5 + (1 : Int32)))]) rfl dX6_spreadBackward_142 ?_
      refine J_goto (pc := 145) (tgt := 45) (by decide) dX6_spreadBackward_145 ?_
      refine J_sub [0, 1, 2, 3, 6, 7] (lv' := [(0, vR (some x0)), (1, vI x1), (2, vI x2), (3, vI x3), (4, vI a139), (5, vI (x5 + (1 : Int32)))]) rfl ?_
      exact hk45 _ _ _ g_3
    · rw [if_neg hc88] at g_1
      refine J_iload (pc := 91) (q := 6) rfl dX6_spreadBackward_91 ?_
      refine J_iload (pc := 93) (q := 7) rfl dX6_spreadBackward_93 ?_
      refine J_ishr (pc := 95) dX6_spreadBackward_95 ?_
      refine J_iconst (pc := 96) (v := (1 : Int32)) (by decide) dX6_spreadBackward_96 ?_
      refine J_iand (pc := 97) dX6_spreadBackward_97 ?_
      refine J_ifeq (pc := 98) (tgt := 127) (by decide) dX6_spreadBackward_98 (fun hc98 => ?_) (fun hc98 => ?_)
      · rw [if_pos hc98] at g_1
        exact jX6_spreadBackward_b127 hk2 hk45 hk82 g_1
      · rw [if_neg hc98] at g_1
        refine J_aload_n (pc := 101) (q := 0) rfl rfl dX6_spreadBackward_101 ?_
        refine J_iload (pc := 102) (q := 7) rfl dX6_spreadBackward_102 ?_
        refine J_sipush (pc := 104) (v := (1024 : Int32)) (by decide) dX6_spreadBackward_104 ?_
        refine J_imul (pc := 107) dX6_spreadBackward_107 ?_
        refine J_aload_n (pc := 108) (q := 0) rfl rfl dX6_spreadBackward_108 ?_
        obtain ⟨a109, h109, g_4⟩ := bnd g_1
        refine J_getR (pc := 109) (i := 11) clF6 (by decide) rfl fl_RX6_31 h109 dX6_spreadBackward_109 ?_
        refine J_iload (pc := 112) (q := 4) rfl dX6_spreadBackward_112 ?_
        obtain ⟨a114, h114, g_5⟩ := bnd g_4
        refine J_ald0 (pc := 114) h114 dX6_spreadBackward_114 ?_
        refine J_iadd (pc := 115) dX6_spreadBackward_115 ?_
        refine J_aload_n (pc := 116) (q := 0) rfl rfl dX6_spreadBackward_116 ?_
        obtain ⟨a117, h117, g_6⟩ := bnd g_5
        refine J_getR (pc := 117) (i := 5) clF6 (by decide) rfl fl_RX6_15 h117 dX6_spreadBackward_117 ?_
        refine J_iload_n (pc := 120) (q := 2) rfl rfl dX6_spreadBackward_120 ?_
        obtain ⟨a121, h121, g_7⟩ := bnd g_6
        refine J_ald0 (pc := 121) h121 dX6_spreadBackward_121 ?_
        refine J_iconst (pc := 122) (v := (1 : Int32)) (by decide) dX6_spreadBackward_122 ?_
        refine J_iadd (pc := 123) dX6_spreadBackward_123 ?_
        obtain ⟨b124, hb124, g_8⟩ := bnd g_7
        obtain ⟨M124, h124, g_9⟩ := bnd g_8
        refine J_callVV (pc := 124) (as := [vI ((x7 * (1024 : Int32)) + a114), vI (a121 + (1 : Int32))]) (tX6_leadsTo (d := d)  h124) cf_X6_leadsTo cv_X6_leadsTo clF6 hb124 ml_RX6_143 (by omega) (Nat.le_of_ble_eq_true rfl) dX6_spreadBackward_124 ?_
        exact jX6_spreadBackward_b127 hk2 hk45 hk82 g_9
set_option maxHeartbeats 4000000 in
set_option maxRecDepth 100000 in
theorem jX6_spreadBackward_b148 {ad : Nat → Nat} {ca : Nat → ClassId} {D : va_G} {FU d : Nat} {N : Mem}  {k2 : Int32 → Mem → Option (Mem)} {x0 : Nat} {x1 : Int32} {M : Mem}  (hk2 : ∀ (y1 : Int32) (M : Mem), k2 y1 M = some N → J ad ca D cX6_spreadBackward RX6 8 (d + 2) (Gt ad ca D none (QV N)) 2 [(0, vR (some x0)), (1, vI y1)] [] M) (h : fX6_spreadBackward_b148 FU  k2 x0 x1 M = some N) : J ad ca D cX6_spreadBackward RX6 8 (d + 2) (Gt ad ca D none (QV N)) 148 [(0, vR (some x0)), (1, vI x1)] [] M := by
  unfold fX6_spreadBackward_b148 at h
  refine J_iinc (pc := 148) (q := 1) rfl (v := x1 + (1 : Int32)) rfl (by decide) (lv' := [(0, vR (some x0)), (1, vI (x1 + (1 : Int32)))]) rfl dX6_spreadBackward_148 ?_
  refine J_goto (pc := 151) (tgt := 2) (by decide) dX6_spreadBackward_151 ?_
  exact hk2 _ _ h
set_option maxHeartbeats 4000000 in
set_option maxRecDepth 100000 in
theorem jX6_spreadBackward_L45 {ad : Nat → Nat} {ca : Nat → ClassId} {D : va_G} {FU d : Nat} {N : Mem}  {k2 : Int32 → Mem → Option (Mem)} {x0 : Nat} {x1 : Int32} {x2 : Int32} {x3 : Int32}  (hk2 : ∀ (y1 : Int32) (M : Mem), k2 y1 M = some N → J ad ca D cX6_spreadBackward RX6 8 (d + 2) (Gt ad ca D none (QV N)) 2 [(0, vR (some x0)), (1, vI y1)] [] M) : ∀ (F : Nat) (x4 : Int32) (x5 : Int32) (M : Mem), fX6_spreadBackward_L45 FU  k2 x0 x1 x2 x3 F x4 x5 M = some N → J ad ca D cX6_spreadBackward RX6 8 (d + 2) (Gt ad ca D none (QV N)) 45 [(0, vR (some x0)), (1, vI x1), (2, vI x2), (3, vI x3), (4, vI x4), (5, vI x5)] [] M := by
  intro F
  induction F with
  | zero =>
    intro x4 x5 M h
    rw [fX6_spreadBackward_L45] at h
    cases h
  | succ F hk45 =>
    intro x4 x5 M h
    rw [fX6_spreadBackward_L45] at h
    refine J_iload (pc := 45) (q := 5) rfl dX6_spreadBackward_45 ?_
    refine J_sipush (pc := 47) (v := (3776 : Int32)) (by decide) dX6_spreadBackward_47 ?_
    refine J_icge (pc := 50) (tgt := 148) (by decide) dX6_spreadBackward_50 (fun hc50 => ?_) (fun hc50 => ?_)
    · rw [if_pos hc50] at h
      refine J_sub [0, 1] (lv' := [(0, vR (some x0)), (1, vI x1)]) rfl ?_
      exact jX6_spreadBackward_b148 hk2 h
    · rw [if_neg hc50] at h
      refine J_iload (pc := 53) (q := 4) rfl dX6_spreadBackward_53 ?_
      refine J_iflt (pc := 55) (tgt := 148) (by decide) dX6_spreadBackward_55 (fun hc55 => ?_) (fun hc55 => ?_)
      · rw [if_pos hc55] at h
        refine J_sub [0, 1] (lv' := [(0, vR (some x0)), (1, vI x1)]) rfl ?_
        exact jX6_spreadBackward_b148 hk2 h
      · rw [if_neg hc55] at h
        refine J_aload_n (pc := 58) (q := 0) rfl rfl dX6_spreadBackward_58 ?_
        obtain ⟨a59, h59, g_10⟩ := bnd h
        refine J_getR (pc := 59) (i := 16) clF6 (by decide) rfl fl_RX6_43 h59 dX6_spreadBackward_59 ?_
        refine J_aload_n (pc := 62) (q := 0) rfl rfl dX6_spreadBackward_62 ?_
        obtain ⟨a63, h63, g_11⟩ := bnd g_10
        refine J_getR (pc := 63) (i := 12) clF6 (by decide) rfl fl_RX6_34 h63 dX6_spreadBackward_63 ?_
        refine J_iload (pc := 66) (q := 4) rfl dX6_spreadBackward_66 ?_
        obtain ⟨a68, h68, g_12⟩ := bnd g_11
        refine J_ald0 (pc := 68) h68 dX6_spreadBackward_68 ?_
        refine J_iconst (pc := 69) (v := (1 : Int32)) (by decide) dX6_spreadBackward_69 ?_
        refine J_iadd (pc := 70) dX6_spreadBackward_70 ?_
        refine J_bipush (pc := 71) (v := (9 : Int32)) (by decide) dX6_spreadBackward_71 ?_
        refine J_imul (pc := 73) dX6_spreadBackward_73 ?_
        refine J_iload_n (pc := 74) (q := 3) rfl rfl dX6_spreadBackward_74 ?_
        refine J_iadd (pc := 75) dX6_spreadBackward_75 ?_
        obtain ⟨a76, h76, g_13⟩ := bnd g_12
        refine J_ald0 (pc := 76) h76 dX6_spreadBackward_76 ?_
        refine J_istore (pc := 77) (by decide) (lv' := [(0, vR (some x0)), (1, vI x1), (2, vI x2), (3, vI x3), (4, vI x4), (5, vI x5), (6, vI a76)]) rfl dX6_spreadBackward_77 ?_
        refine J_iconst (pc := 79) (v := (0 : Int32)) (by decide) dX6_spreadBackward_79 ?_
        refine J_istore (pc := 80) (by decide) (lv' := [(0, vR (some x0)), (1, vI x1), (2, vI x2), (3, vI x3), (4, vI x4), (5, vI x5), (6, vI a76), (7, vI (0 : Int32))]) rfl dX6_spreadBackward_80 ?_
        exact jX6_spreadBackward_L82 hk2 hk45 FU _ _ g_13
set_option maxHeartbeats 4000000 in
set_option maxRecDepth 100000 in
theorem jX6_spreadBackward_L2 {ad : Nat → Nat} {ca : Nat → ClassId} {D : va_G} {FU d : Nat} {N : Mem}   {x0 : Nat}   : ∀ (F : Nat) (x1 : Int32) (M : Mem), fX6_spreadBackward_L2 FU  x0 F x1 M = some N → J ad ca D cX6_spreadBackward RX6 8 (d + 2) (Gt ad ca D none (QV N)) 2 [(0, vR (some x0)), (1, vI x1)] [] M := by
  intro F
  induction F with
  | zero =>
    intro x1 M h
    rw [fX6_spreadBackward_L2] at h
    cases h
  | succ F hk2 =>
    intro x1 M h
    rw [fX6_spreadBackward_L2] at h
    refine J_iload_n (pc := 2) (q := 1) rfl rfl dX6_spreadBackward_2 ?_
    refine J_aload_n (pc := 3) (q := 0) rfl rfl dX6_spreadBackward_3 ?_
    obtain ⟨a4, h4, g_14⟩ := bnd h
    refine J_getI (pc := 4) (i := 8) clF6 (by decide) rfl fl_RX6_91 h4 dX6_spreadBackward_4 ?_
    refine J_icge (pc := 7) (tgt := 154) (by decide) dX6_spreadBackward_7 (fun hc7 => ?_) (fun hc7 => ?_)
    · rw [if_pos hc7] at g_14
      exact J_vret (pc := 154) (qv_of g_14) dX6_spreadBackward_154
    · rw [if_neg hc7] at g_14
      refine J_iload_n (pc := 10) (q := 1) rfl rfl dX6_spreadBackward_10 ?_
      refine J_sipush (pc := 11) (v := (9216 : Int32)) (by decide) dX6_spreadBackward_11 ?_
      refine J_icge (pc := 14) (tgt := 154) (by decide) dX6_spreadBackward_14 (fun hc14 => ?_) (fun hc14 => ?_)
      · rw [if_pos hc14] at g_14
        exact J_vret (pc := 154) (qv_of g_14) dX6_spreadBackward_154
      · rw [if_neg hc14] at g_14
        refine J_aload_n (pc := 17) (q := 0) rfl rfl dX6_spreadBackward_17 ?_
        obtain ⟨a18, h18, g_15⟩ := bnd g_14
        refine J_getR (pc := 18) (i := 7) clF6 (by decide) rfl fl_RX6_22 h18 dX6_spreadBackward_18 ?_
        refine J_iload_n (pc := 21) (q := 1) rfl rfl dX6_spreadBackward_21 ?_
        obtain ⟨a22, h22, g_16⟩ := bnd g_15
        refine J_ald0 (pc := 22) h22 dX6_spreadBackward_22 ?_
        refine J_istore_n (pc := 23) rfl (by decide) (lv' := [(0, vR (some x0)), (1, vI x1), (2, vI a22)]) rfl dX6_spreadBackward_23 ?_
        refine J_iload_n (pc := 24) (q := 2) rfl rfl dX6_spreadBackward_24 ?_
        refine J_sipush (pc := 25) (v := (1024 : Int32)) (by decide) dX6_spreadBackward_25 ?_
        refine J_idiv (pc := 28) (by decide) dX6_spreadBackward_28 ?_
        refine J_istore_n (pc := 29) rfl (by decide) (lv' := [(0, vR (some x0)), (1, vI x1), (2, vI a22), (3, vI (a22 / (1024 : Int32)))]) rfl dX6_spreadBackward_29 ?_
        refine J_aload_n (pc := 30) (q := 0) rfl rfl dX6_spreadBackward_30 ?_
        obtain ⟨a31, h31, g_17⟩ := bnd g_16
        refine J_getR (pc := 31) (i := 9) clF6 (by decide) rfl fl_RX6_25 h31 dX6_spreadBackward_31 ?_
        refine J_iload_n (pc := 34) (q := 2) rfl rfl dX6_spreadBackward_34 ?_
        refine J_sipush (pc := 35) (v := (1024 : Int32)) (by decide) dX6_spreadBackward_35 ?_
        refine J_irem (pc := 38) (by decide) dX6_spreadBackward_38 ?_
        obtain ⟨a39, h39, g_18⟩ := bnd g_17
        refine J_ald0 (pc := 39) h39 dX6_spreadBackward_39 ?_
        refine J_istore (pc := 40) (by decide) (lv' := [(0, vR (some x0)), (1, vI x1), (2, vI a22), (3, vI (a22 / (1024 : Int32))), (4, vI a39)]) rfl dX6_spreadBackward_40 ?_
        refine J_iconst (pc := 42) (v := (0 : Int32)) (by decide) dX6_spreadBackward_42 ?_
        refine J_istore (pc := 43) (by decide) (lv' := [(0, vR (some x0)), (1, vI x1), (2, vI a22), (3, vI (a22 / (1024 : Int32))), (4, vI a39), (5, vI (0 : Int32))]) rfl dX6_spreadBackward_43 ?_
        exact jX6_spreadBackward_L45 hk2 FU _ _ _ g_18
set_option maxHeartbeats 4000000 in
set_option maxRecDepth 100000 in
theorem tX6_spreadBackward {ad : Nat → Nat} {ca : Nat → ClassId} {D : va_G} {FU d : Nat} {N : Mem}  {x0 : Nat} {M : Mem}  (h : fX6_spreadBackward FU  x0 M = some N) : Ct ad ca D yX6_spreadBackward cX6_spreadBackward 8 none (d + 2) [vR (some x0)] M (QV N) := by
  refine Ct_of (by decide) (Nat.le_of_ble_eq_true rfl) ?_
  show J ad ca D cX6_spreadBackward RX6 8 (d + 2) (Gt ad ca D none (QV N)) 0 [(0, vR (some x0))] [] M
  unfold fX6_spreadBackward at h
  refine J_iconst (pc := 0) (v := (0 : Int32)) (by decide) dX6_spreadBackward_0 ?_
  refine J_istore_n (pc := 1) rfl (by decide) (lv' := [(0, vR (some x0)), (1, vI (0 : Int32))]) rfl dX6_spreadBackward_1 ?_
  exact jX6_spreadBackward_L2  FU _ _ h
set_option maxHeartbeats 4000000 in
set_option maxRecDepth 100000 in
theorem tX6_isCounted {ad : Nat → Nat} {ca : Nat → ClassId} {D : va_G} {FU d : Nat} {r : Int32} {N : Mem}  {x0 : Nat} {x1 : Int32} {M : Mem}  (h : fX6_isCounted FU  x0 x1 M = some (r, N)) : Ct ad ca D yX6_isCounted cX6_isCounted 4 (some .boolean) (d + 2) [vR (some x0), vI x1] M (QI r N) := by
  refine Ct_of (by decide) (Nat.le_of_ble_eq_true rfl) ?_
  show J ad ca D cX6_isCounted RX6 4 (d + 2) (Gt ad ca D (some .boolean) (QI r N)) 0 [(0, vR (some x0)), (1, vI x1)] [] M
  unfold fX6_isCounted at h
  refine J_iload_n (pc := 0) (q := 1) rfl rfl dX6_isCounted_0 ?_
  refine J_bipush (pc := 1) (v := (7 : Int32)) (by decide) dX6_isCounted_1 ?_
  refine J_iand (pc := 3) dX6_isCounted_3 ?_
  refine J_istore_n (pc := 4) rfl (by decide) (lv' := [(0, vR (some x0)), (1, vI x1), (2, vI (x1 &&& (7 : Int32)))]) rfl dX6_isCounted_4 ?_
  refine J_iload_n (pc := 5) (q := 1) rfl rfl dX6_isCounted_5 ?_
  refine J_iconst (pc := 6) (v := (3 : Int32)) (by decide) dX6_isCounted_6 ?_
  refine J_ishr (pc := 7) dX6_isCounted_7 ?_
  refine J_istore_n (pc := 8) rfl (by decide) (lv' := [(0, vR (some x0)), (1, vI x1), (2, vI (x1 &&& (7 : Int32))), (3, vI (x1 >>> ((3 : Int32) &&& 31)))]) rfl dX6_isCounted_8 ?_
  refine J_aload_n (pc := 9) (q := 0) rfl rfl dX6_isCounted_9 ?_
  obtain ⟨a10, h10, g_1⟩ := bnd h
  refine J_getR (pc := 10) (i := 0) clF6 (by decide) rfl fl_RX6_50 h10 dX6_isCounted_10 ?_
  refine J_iload_n (pc := 13) (q := 2) rfl rfl dX6_isCounted_13 ?_
  obtain ⟨b14, hb14, g_2⟩ := bnd g_1
  obtain ⟨r14, M14, h14, g_3⟩ := bnd2 g_2
  refine J_callVI (pc := 14) (as := [vI (x1 &&& (7 : Int32))]) (tX3_has (d := d)  h14) cf_X3_has cv_X3_has clF3 hb14 ml_RX6_164 (by omega) (Nat.le_of_ble_eq_true rfl) dX6_isCounted_14 ?_
  refine J_ifeq (pc := 17) (tgt := 46) (by decide) dX6_isCounted_17 (fun hc17 => ?_) (fun hc17 => ?_)
  · rw [if_pos hc17] at g_3
    refine J_iconst (pc := 46) (v := (0 : Int32)) (by decide) dX6_isCounted_46 ?_
    exact J_zret (pc := 47) (Or.inl rfl) (qi_of g_3) dX6_isCounted_47
  · rw [if_neg hc17] at g_3
    refine J_aload_n (pc := 20) (q := 0) rfl rfl dX6_isCounted_20 ?_
    obtain ⟨a21, h21, g_4⟩ := bnd g_3
    refine J_getR (pc := 21) (i := 0) clF6 (by decide) rfl fl_RX6_50 h21 dX6_isCounted_21 ?_
    refine J_iload_n (pc := 24) (q := 3) rfl rfl dX6_isCounted_24 ?_
    obtain ⟨b25, hb25, g_5⟩ := bnd g_4
    obtain ⟨r25, M25, h25, g_6⟩ := bnd2 g_5
    refine J_callVI (pc := 25) (as := [vI (x1 >>> ((3 : Int32) &&& 31))]) (tX3_isPair (d := d)  h25) cf_X3_isPair cv_X3_isPair clF3 hb25 ml_RX6_67 (by omega) (Nat.le_of_ble_eq_true rfl) dX6_isCounted_25 ?_
    refine J_ifeq (pc := 28) (tgt := 46) (by decide) dX6_isCounted_28 (fun hc28 => ?_) (fun hc28 => ?_)
    · rw [if_pos hc28] at g_6
      refine J_iconst (pc := 46) (v := (0 : Int32)) (by decide) dX6_isCounted_46 ?_
      exact J_zret (pc := 47) (Or.inl rfl) (qi_of g_6) dX6_isCounted_47
    · rw [if_neg hc28] at g_6
      refine J_iload_n (pc := 31) (q := 3) rfl rfl dX6_isCounted_31 ?_
      obtain ⟨r32, M32, h32, g_7⟩ := bnd2 g_6
      refine J_callSI (pc := 32) (as := [vI (x1 >>> ((3 : Int32) &&& 31))]) (tX3_placesOf (d := d)  h32) cf_X3_placesOf cv_X3_placesOf ml_RX6_113 (by omega) (Nat.le_of_ble_eq_true rfl) dX6_isCounted_32 ?_
      refine J_iload_n (pc := 35) (q := 2) rfl rfl dX6_isCounted_35 ?_
      refine J_ishr (pc := 36) dX6_isCounted_36 ?_
      refine J_iconst (pc := 37) (v := (1 : Int32)) (by decide) dX6_isCounted_37 ?_
      refine J_iand (pc := 38) dX6_isCounted_38 ?_
      refine J_ifne (pc := 39) (tgt := 46) (by decide) dX6_isCounted_39 (fun hc39 => ?_) (fun hc39 => ?_)
      · rw [if_pos hc39] at g_7
        refine J_iconst (pc := 46) (v := (0 : Int32)) (by decide) dX6_isCounted_46 ?_
        exact J_zret (pc := 47) (Or.inl rfl) (qi_of g_7) dX6_isCounted_47
      · rw [if_neg hc39] at g_7
        refine J_iconst (pc := 42) (v := (1 : Int32)) (by decide) dX6_isCounted_42 ?_
        refine J_goto (pc := 43) (tgt := 47) (by decide) dX6_isCounted_43 ?_
        exact J_zret (pc := 47) (Or.inr rfl) (qi_of g_7) dX6_isCounted_47
set_option maxHeartbeats 4000000 in
set_option maxRecDepth 100000 in
theorem jX6_countWon_b81 {ad : Nat → Nat} {ca : Nat → ClassId} {D : va_G} {FU d : Nat} {N : Mem}  {k17 : Int32 → Mem → Option (Mem)} {x0 : Nat} {x1 : Int32} {M : Mem}  (hk17 : ∀ (y1 : Int32) (M : Mem), k17 y1 M = some N → J ad ca D cX6_countWon RX6 2 (d + 3) (Gt ad ca D none (QV N)) 17 [(0, vR (some x0)), (1, vI y1)] [] M) (h : fX6_countWon_b81 FU  k17 x0 x1 M = some N) : J ad ca D cX6_countWon RX6 2 (d + 3) (Gt ad ca D none (QV N)) 81 [(0, vR (some x0)), (1, vI x1)] [] M := by
  unfold fX6_countWon_b81 at h
  refine J_iinc (pc := 81) (q := 1) rfl (v := x1 + (1 : Int32)) rfl (by decide) (lv' := [(0, vR (some x0)), (1, vI (x1 + (1 : Int32)))]) rfl dX6_countWon_81 ?_
  refine J_goto (pc := 84) (tgt := 17) (by decide) dX6_countWon_84 ?_
  exact hk17 _ _ h
set_option maxHeartbeats 4000000 in
set_option maxRecDepth 100000 in
theorem jX6_countWon_L17 {ad : Nat → Nat} {ca : Nat → ClassId} {D : va_G} {FU d : Nat} {N : Mem}   {x0 : Nat}   : ∀ (F : Nat) (x1 : Int32) (M : Mem), fX6_countWon_L17 FU  x0 F x1 M = some N → J ad ca D cX6_countWon RX6 2 (d + 3) (Gt ad ca D none (QV N)) 17 [(0, vR (some x0)), (1, vI x1)] [] M := by
  intro F
  induction F with
  | zero =>
    intro x1 M h
    rw [fX6_countWon_L17] at h
    cases h
  | succ F hk17 =>
    intro x1 M h
    rw [fX6_countWon_L17] at h
    refine J_iload_n (pc := 17) (q := 1) rfl rfl dX6_countWon_17 ?_
    refine J_sipush (pc := 18) (v := (512 : Int32)) (by decide) dX6_countWon_18 ?_
    refine J_icge (pc := 21) (tgt := 87) (by decide) dX6_countWon_21 (fun hc21 => ?_) (fun hc21 => ?_)
    · rw [if_pos hc21] at h
      exact J_vret (pc := 87) (qv_of h) dX6_countWon_87
    · rw [if_neg hc21] at h
      refine J_aload_n (pc := 24) (q := 0) rfl rfl dX6_countWon_24 ?_
      refine J_iload_n (pc := 25) (q := 1) rfl rfl dX6_countWon_25 ?_
      obtain ⟨b26, hb26, g_1⟩ := bnd h
      obtain ⟨r26, M26, h26, g_2⟩ := bnd2 g_1
      refine J_callVI (pc := 26) (as := [vI x1]) (tX6_isCounted (d := d)  h26) cf_X6_isCounted cv_X6_isCounted clF6 hb26 ml_RX6_158 (by omega) (Nat.le_of_ble_eq_true rfl) dX6_countWon_26 ?_
      refine J_ifne (pc := 29) (tgt := 35) (by decide) dX6_countWon_29 (fun hc29 => ?_) (fun hc29 => ?_)
      · rw [if_pos hc29] at g_2
        refine J_aload_n (pc := 35) (q := 0) rfl rfl dX6_countWon_35 ?_
        refine J_dup (pc := 36) rfl dX6_countWon_36 ?_
        obtain ⟨a37, h37, g_3⟩ := bnd g_2
        refine J_getI (pc := 37) (i := 3) clF6 (by decide) rfl fl_RX6_152 h37 dX6_countWon_37 ?_
        refine J_iconst (pc := 40) (v := (1 : Int32)) (by decide) dX6_countWon_40 ?_
        refine J_iadd (pc := 41) dX6_countWon_41 ?_
        obtain ⟨M42, h42, g_4⟩ := bnd g_3
        refine J_putI (pc := 42) (i := 3) clF6 (by decide) rfl fl_RX6_152 rfl rfl h42 dX6_countWon_42 ?_
        refine J_aload_n (pc := 45) (q := 0) rfl rfl dX6_countWon_45 ?_
        obtain ⟨a46, h46, g_5⟩ := bnd g_4
        refine J_getR (pc := 46) (i := 5) clF6 (by decide) rfl fl_RX6_15 h46 dX6_countWon_46 ?_
        refine J_iload_n (pc := 49) (q := 1) rfl rfl dX6_countWon_49 ?_
        obtain ⟨a50, h50, g_6⟩ := bnd g_5
        refine J_ald0 (pc := 50) h50 dX6_countWon_50 ?_
        refine J_ifle (pc := 51) (tgt := 81) (by decide) dX6_countWon_51 (fun hc51 => ?_) (fun hc51 => ?_)
        · rw [if_pos hc51] at g_6
          exact jX6_countWon_b81 hk17 g_6
        · rw [if_neg hc51] at g_6
          refine J_aload_n (pc := 54) (q := 0) rfl rfl dX6_countWon_54 ?_
          refine J_dup (pc := 55) rfl dX6_countWon_55 ?_
          obtain ⟨a56, h56, g_7⟩ := bnd g_6
          refine J_getI (pc := 56) (i := 2) clF6 (by decide) rfl fl_RX6_149 h56 dX6_countWon_56 ?_
          refine J_iconst (pc := 59) (v := (1 : Int32)) (by decide) dX6_countWon_59 ?_
          refine J_iadd (pc := 60) dX6_countWon_60 ?_
          obtain ⟨M61, h61, g_8⟩ := bnd g_7
          refine J_putI (pc := 61) (i := 2) clF6 (by decide) rfl fl_RX6_149 rfl rfl h61 dX6_countWon_61 ?_
          refine J_aload_n (pc := 64) (q := 0) rfl rfl dX6_countWon_64 ?_
          refine J_aload_n (pc := 65) (q := 0) rfl rfl dX6_countWon_65 ?_
          obtain ⟨a66, h66, g_9⟩ := bnd g_8
          refine J_getI (pc := 66) (i := 4) clF6 (by decide) rfl fl_RX6_155 h66 dX6_countWon_66 ?_
          refine J_aload_n (pc := 69) (q := 0) rfl rfl dX6_countWon_69 ?_
          obtain ⟨a70, h70, g_10⟩ := bnd g_9
          refine J_getR (pc := 70) (i := 5) clF6 (by decide) rfl fl_RX6_15 h70 dX6_countWon_70 ?_
          refine J_iload_n (pc := 73) (q := 1) rfl rfl dX6_countWon_73 ?_
          obtain ⟨a74, h74, g_11⟩ := bnd g_10
          refine J_ald0 (pc := 74) h74 dX6_countWon_74 ?_
          refine J_mmax (pc := 75) ml_RX6_107 (by omega) (Nat.le_of_ble_eq_true rfl) dX6_countWon_75 ?_
          obtain ⟨M78, h78, g_12⟩ := bnd g_11
          refine J_putI (pc := 78) (i := 4) clF6 (by decide) rfl fl_RX6_155 rfl rfl h78 dX6_countWon_78 ?_
          exact jX6_countWon_b81 hk17 g_12
      · rw [if_neg hc29] at g_2
        refine J_goto (pc := 32) (tgt := 81) (by decide) dX6_countWon_32 ?_
        exact jX6_countWon_b81 hk17 g_2
set_option maxHeartbeats 4000000 in
set_option maxRecDepth 100000 in
theorem tX6_countWon {ad : Nat → Nat} {ca : Nat → ClassId} {D : va_G} {FU d : Nat} {N : Mem}  {x0 : Nat} {M : Mem}  (h : fX6_countWon FU  x0 M = some N) : Ct ad ca D yX6_countWon cX6_countWon 2 none (d + 3) [vR (some x0)] M (QV N) := by
  refine Ct_of (by decide) (Nat.le_of_ble_eq_true rfl) ?_
  show J ad ca D cX6_countWon RX6 2 (d + 3) (Gt ad ca D none (QV N)) 0 [(0, vR (some x0))] [] M
  unfold fX6_countWon at h
  refine J_aload_n (pc := 0) (q := 0) rfl rfl dX6_countWon_0 ?_
  refine J_iconst (pc := 1) (v := (0 : Int32)) (by decide) dX6_countWon_1 ?_
  obtain ⟨M2, h2, g_13⟩ := bnd h
  refine J_putI (pc := 2) (i := 2) clF6 (by decide) rfl fl_RX6_149 rfl rfl h2 dX6_countWon_2 ?_
  refine J_aload_n (pc := 5) (q := 0) rfl rfl dX6_countWon_5 ?_
  refine J_iconst (pc := 6) (v := (0 : Int32)) (by decide) dX6_countWon_6 ?_
  obtain ⟨M7, h7, g_14⟩ := bnd g_13
  refine J_putI (pc := 7) (i := 3) clF6 (by decide) rfl fl_RX6_152 rfl rfl h7 dX6_countWon_7 ?_
  refine J_aload_n (pc := 10) (q := 0) rfl rfl dX6_countWon_10 ?_
  refine J_iconst (pc := 11) (v := (0 : Int32)) (by decide) dX6_countWon_11 ?_
  obtain ⟨M12, h12, g_15⟩ := bnd g_14
  refine J_putI (pc := 12) (i := 4) clF6 (by decide) rfl fl_RX6_155 rfl rfl h12 dX6_countWon_12 ?_
  refine J_iconst (pc := 15) (v := (0 : Int32)) (by decide) dX6_countWon_15 ?_
  refine J_istore_n (pc := 16) rfl (by decide) (lv' := [(0, vR (some x0)), (1, vI (0 : Int32))]) rfl dX6_countWon_16 ?_
  exact jX6_countWon_L17  FU _ _ g_15
set_option maxHeartbeats 4000000 in
set_option maxRecDepth 100000 in
theorem jX6_solve_b55 {ad : Nat → Nat} {ca : Nat → ClassId} {D : va_G} {FU d : Nat} {N : Mem}  {k28 : Int32 → Mem → Option (Mem)} {x0 : Nat} {x2 : Int32} {M : Mem}  (hk28 : ∀ (y2 : Int32) (M : Mem), k28 y2 M = some N → J ad ca D cX6_solve RX6 3 (d + 4) (Gt ad ca D none (QV N)) 28 [(0, vR (some x0)), (2, vI y2)] [] M) (h : fX6_solve_b55 FU  k28 x0 x2 M = some N) : J ad ca D cX6_solve RX6 3 (d + 4) (Gt ad ca D none (QV N)) 55 [(0, vR (some x0)), (2, vI x2)] [] M := by
  unfold fX6_solve_b55 at h
  refine J_iinc (pc := 55) (q := 1) rfl (v := x2 + (1 : Int32)) rfl (by decide) (lv' := [(0, vR (some x0)), (2, vI (x2 + (1 : Int32)))]) rfl dX6_solve_55 ?_
  refine J_goto (pc := 58) (tgt := 28) (by decide) dX6_solve_58 ?_
  exact hk28 _ _ h
set_option maxHeartbeats 4000000 in
set_option maxRecDepth 100000 in
theorem jX6_solve_b85 {ad : Nat → Nat} {ca : Nat → ClassId} {D : va_G} {FU d : Nat} {N : Mem}  {k63 : Int32 → Mem → Option (Mem)} {x0 : Nat} {x2 : Int32} {M : Mem}  (hk63 : ∀ (y2 : Int32) (M : Mem), k63 y2 M = some N → J ad ca D cX6_solve RX6 3 (d + 4) (Gt ad ca D none (QV N)) 63 [(0, vR (some x0)), (2, vI y2)] [] M) (h : fX6_solve_b85 FU  k63 x0 x2 M = some N) : J ad ca D cX6_solve RX6 3 (d + 4) (Gt ad ca D none (QV N)) 85 [(0, vR (some x0)), (2, vI x2)] [] M := by
  unfold fX6_solve_b85 at h
  refine J_iinc (pc := 85) (q := 1) rfl (v := x2 + (1 : Int32)) rfl (by decide) (lv' := [(0, vR (some x0)), (2, vI (x2 + (1 : Int32)))]) rfl dX6_solve_85 ?_
  refine J_goto (pc := 88) (tgt := 63) (by decide) dX6_solve_88 ?_
  exact hk63 _ _ h
set_option maxHeartbeats 4000000 in
set_option maxRecDepth 100000 in
theorem jX6_solve_L63 {ad : Nat → Nat} {ca : Nat → ClassId} {D : va_G} {FU d : Nat} {N : Mem}   {x0 : Nat}   : ∀ (F : Nat) (x2 : Int32) (M : Mem), fX6_solve_L63 FU  x0 F x2 M = some N → J ad ca D cX6_solve RX6 3 (d + 4) (Gt ad ca D none (QV N)) 63 [(0, vR (some x0)), (2, vI x2)] [] M := by
  intro F
  induction F with
  | zero =>
    intro x2 M h
    rw [fX6_solve_L63] at h
    cases h
  | succ F hk63 =>
    intro x2 M h
    rw [fX6_solve_L63] at h
    refine J_iload_n (pc := 63) (q := 1) rfl rfl dX6_solve_63 ?_
    refine J_bipush (pc := 64) (v := (64 : Int32)) (by decide) dX6_solve_64 ?_
    refine J_icge (pc := 66) (tgt := 91) (by decide) dX6_solve_66 (fun hc66 => ?_) (fun hc66 => ?_)
    · rw [if_pos hc66] at h
      refine J_aload_n (pc := 91) (q := 0) rfl rfl dX6_solve_91 ?_
      obtain ⟨b92, hb92, g_1⟩ := bnd h
      obtain ⟨M92, h92, g_2⟩ := bnd g_1
      refine J_callVV (pc := 92) (as := []) (tX6_spreadBackward (d := d)  h92) cf_X6_spreadBackward cv_X6_spreadBackward clF6 hb92 ml_RX6_81 (by omega) (Nat.le_of_ble_eq_true rfl) dX6_solve_92 ?_
      refine J_aload_n (pc := 95) (q := 0) rfl rfl dX6_solve_95 ?_
      obtain ⟨b96, hb96, g_3⟩ := bnd g_2
      obtain ⟨M96, h96, g_4⟩ := bnd g_3
      refine J_callVV (pc := 96) (as := []) (tX6_countWon (d := d)  h96) cf_X6_countWon cv_X6_countWon clF6 hb96 ml_RX6_84 (by omega) (Nat.le_of_ble_eq_true rfl) dX6_solve_96 ?_
      exact J_vret (pc := 99) (qv_of g_4) dX6_solve_99
    · rw [if_neg hc66] at h
      refine J_aload_n (pc := 69) (q := 0) rfl rfl dX6_solve_69 ?_
      obtain ⟨a70, h70, g_5⟩ := bnd h
      refine J_getR (pc := 70) (i := 0) clF6 (by decide) rfl fl_RX6_50 h70 dX6_solve_70 ?_
      refine J_iload_n (pc := 73) (q := 1) rfl rfl dX6_solve_73 ?_
      obtain ⟨b74, hb74, g_6⟩ := bnd g_5
      obtain ⟨r74, M74, h74, g_7⟩ := bnd2 g_6
      refine J_callVI (pc := 74) (as := [vI x2]) (tX3_isPair (d := d)  h74) cf_X3_isPair cv_X3_isPair clF3 hb74 ml_RX6_67 (by omega) (Nat.le_of_ble_eq_true rfl) dX6_solve_74 ?_
      refine J_ifeq (pc := 77) (tgt := 85) (by decide) dX6_solve_77 (fun hc77 => ?_) (fun hc77 => ?_)
      · rw [if_pos hc77] at g_7
        exact jX6_solve_b85 hk63 g_7
      · rw [if_neg hc77] at g_7
        refine J_aload_n (pc := 80) (q := 0) rfl rfl dX6_solve_80 ?_
        refine J_iload_n (pc := 81) (q := 1) rfl rfl dX6_solve_81 ?_
        obtain ⟨b82, hb82, g_8⟩ := bnd g_7
        obtain ⟨M82, h82, g_9⟩ := bnd g_8
        refine J_callVV (pc := 82) (as := [vI x2]) (tX6_queueCaught (d := d)  h82) cf_X6_queueCaught cv_X6_queueCaught clF6 hb82 ml_RX6_78 (by omega) (Nat.le_of_ble_eq_true rfl) dX6_solve_82 ?_
        exact jX6_solve_b85 hk63 g_9
set_option maxHeartbeats 4000000 in
set_option maxRecDepth 100000 in
theorem jX6_solve_L28 {ad : Nat → Nat} {ca : Nat → ClassId} {D : va_G} {FU d : Nat} {N : Mem}   {x0 : Nat}   : ∀ (F : Nat) (x2 : Int32) (M : Mem), fX6_solve_L28 FU  x0 F x2 M = some N → J ad ca D cX6_solve RX6 3 (d + 4) (Gt ad ca D none (QV N)) 28 [(0, vR (some x0)), (2, vI x2)] [] M := by
  intro F
  induction F with
  | zero =>
    intro x2 M h
    rw [fX6_solve_L28] at h
    cases h
  | succ F hk28 =>
    intro x2 M h
    rw [fX6_solve_L28] at h
    refine J_iload_n (pc := 28) (q := 1) rfl rfl dX6_solve_28 ?_
    refine J_bipush (pc := 29) (v := (64 : Int32)) (by decide) dX6_solve_29 ?_
    refine J_icge (pc := 31) (tgt := 61) (by decide) dX6_solve_31 (fun hc31 => ?_) (fun hc31 => ?_)
    · rw [if_pos hc31] at h
      refine J_iconst (pc := 61) (v := (0 : Int32)) (by decide) dX6_solve_61 ?_
      refine J_istore_n (pc := 62) rfl (by decide) (lv' := [(0, vR (some x0)), (2, vI (0 : Int32))]) rfl dX6_solve_62 ?_
      exact jX6_solve_L63  FU _ _ h
    · rw [if_neg hc31] at h
      refine J_aload_n (pc := 34) (q := 0) rfl rfl dX6_solve_34 ?_
      obtain ⟨a35, h35, g_10⟩ := bnd h
      refine J_getR (pc := 35) (i := 0) clF6 (by decide) rfl fl_RX6_50 h35 dX6_solve_35 ?_
      refine J_iload_n (pc := 38) (q := 1) rfl rfl dX6_solve_38 ?_
      obtain ⟨b39, hb39, g_11⟩ := bnd g_10
      obtain ⟨r39, M39, h39, g_12⟩ := bnd2 g_11
      refine J_callVI (pc := 39) (as := [vI x2]) (tX3_isPair (d := d)  h39) cf_X3_isPair cv_X3_isPair clF3 hb39 ml_RX6_67 (by omega) (Nat.le_of_ble_eq_true rfl) dX6_solve_39 ?_
      refine J_ifeq (pc := 42) (tgt := 55) (by decide) dX6_solve_42 (fun hc42 => ?_) (fun hc42 => ?_)
      · rw [if_pos hc42] at g_12
        exact jX6_solve_b55 hk28 g_12
      · rw [if_neg hc42] at g_12
        refine J_aload_n (pc := 45) (q := 0) rfl rfl dX6_solve_45 ?_
        refine J_iload_n (pc := 46) (q := 1) rfl rfl dX6_solve_46 ?_
        obtain ⟨b47, hb47, g_13⟩ := bnd g_12
        obtain ⟨M47, h47, g_14⟩ := bnd g_13
        refine J_callVV (pc := 47) (as := [vI x2]) (tX6_linkHunters (d := d)  h47) cf_X6_linkHunters cv_X6_linkHunters clF6 hb47 ml_RX6_71 (by omega) (Nat.le_of_ble_eq_true rfl) dX6_solve_47 ?_
        refine J_aload_n (pc := 50) (q := 0) rfl rfl dX6_solve_50 ?_
        refine J_iload_n (pc := 51) (q := 1) rfl rfl dX6_solve_51 ?_
        obtain ⟨b52, hb52, g_15⟩ := bnd g_14
        obtain ⟨M52, h52, g_16⟩ := bnd g_15
        refine J_callVV (pc := 52) (as := [vI x2]) (tX6_linkRunner (d := d)  h52) cf_X6_linkRunner cv_X6_linkRunner clF6 hb52 ml_RX6_75 (by omega) (Nat.le_of_ble_eq_true rfl) dX6_solve_52 ?_
        exact jX6_solve_b55 hk28 g_16
set_option maxHeartbeats 4000000 in
set_option maxRecDepth 100000 in
theorem tX6_solve {ad : Nat → Nat} {ca : Nat → ClassId} {D : va_G} {FU d : Nat} {N : Mem}  {x0 : Nat} {x1 : Option Nat} {M : Mem}  (h : fX6_solve FU  x0 x1 M = some N) : Ct ad ca D yX6_solve cX6_solve 3 none (d + 4) [vR (some x0), vR x1] M (QV N) := by
  refine Ct_of (by decide) (Nat.le_of_ble_eq_true rfl) ?_
  show J ad ca D cX6_solve RX6 3 (d + 4) (Gt ad ca D none (QV N)) 0 [(0, vR (some x0)), (1, vR x1)] [] M
  unfold fX6_solve at h
  refine J_aload_n (pc := 0) (q := 0) rfl rfl dX6_solve_0 ?_
  refine J_aload_n (pc := 1) (q := 1) rfl rfl dX6_solve_1 ?_
  obtain ⟨M2, h2, g_17⟩ := bnd h
  refine J_putR (pc := 2) (i := 0) clF6 (by decide) rfl fl_RX6_50 rfl (Or.inl ⟨_, rfl⟩) h2 dX6_solve_2 ?_
  refine J_aload_n (pc := 5) (q := 0) rfl rfl dX6_solve_5 ?_
  refine J_aload_n (pc := 6) (q := 1) rfl rfl dX6_solve_6 ?_
  obtain ⟨a7, h7, g_18⟩ := bnd g_17
  refine J_getI (pc := 7) (i := 12) clF3 (by decide) rfl fl_RX6_54 h7 dX6_solve_7 ?_
  obtain ⟨M10, h10, g_19⟩ := bnd g_18
  refine J_putI (pc := 10) (i := 1) clF6 (by decide) rfl fl_RX6_9 rfl rfl h10 dX6_solve_10 ?_
  refine J_aload_n (pc := 13) (q := 0) rfl rfl dX6_solve_13 ?_
  refine J_iconst (pc := 14) (v := (0 : Int32)) (by decide) dX6_solve_14 ?_
  obtain ⟨M15, h15, g_20⟩ := bnd g_19
  refine J_putZ (pc := 15) (i := 18) clF6 (by decide) rfl fl_RX6_57 rfl rfl (Or.inl rfl) h15 dX6_solve_15 ?_
  refine J_aload_n (pc := 18) (q := 0) rfl rfl dX6_solve_18 ?_
  obtain ⟨b19, hb19, g_21⟩ := bnd g_20
  obtain ⟨M19, h19, g_22⟩ := bnd g_21
  refine J_callVV (pc := 19) (as := []) (tX6_clearRows (d := d)  h19) cf_X6_clearRows cv_X6_clearRows clF6 hb19 ml_RX6_61 (by omega) (Nat.le_of_ble_eq_true rfl) dX6_solve_19 ?_
  refine J_aload_n (pc := 22) (q := 0) rfl rfl dX6_solve_22 ?_
  obtain ⟨b23, hb23, g_23⟩ := bnd g_22
  obtain ⟨M23, h23, g_24⟩ := bnd g_23
  refine J_callVV (pc := 23) (as := []) (tX6_reckonShutting (d := d)  h23) cf_X6_reckonShutting cv_X6_reckonShutting clF6 hb23 ml_RX6_64 (by omega) (Nat.le_of_ble_eq_true rfl) dX6_solve_23 ?_
  refine J_iconst (pc := 26) (v := (0 : Int32)) (by decide) dX6_solve_26 ?_
  refine J_istore_n (pc := 27) rfl (by decide) (lv' := [(0, vR (some x0)), (1, vR x1), (2, vI (0 : Int32))]) rfl dX6_solve_27 ?_
  refine J_sub [0, 2] (lv' := [(0, vR (some x0)), (2, vI (0 : Int32))]) rfl ?_
  exact jX6_solve_L28  FU _ _ g_24
set_option maxHeartbeats 4000000 in
set_option maxRecDepth 100000 in
theorem tX6_unfairness {ad : Nat → Nat} {ca : Nat → ClassId} {D : va_G} {FU d : Nat} {r : Int32} {N : Mem}  {x0 : Nat} {M : Mem}  (h : fX6_unfairness FU  x0 M = some (r, N)) : Ct ad ca D yX6_unfairness cX6_unfairness 1 (some .int) (d + 1) [vR (some x0)] M (QI r N) := by
  refine Ct_of (by decide) (Nat.le_of_ble_eq_true rfl) ?_
  show J ad ca D cX6_unfairness RX6 1 (d + 1) (Gt ad ca D (some .int) (QI r N)) 0 [(0, vR (some x0))] [] M
  unfold fX6_unfairness at h
  refine J_iconst (pc := 0) (v := (2 : Int32)) (by decide) dX6_unfairness_0 ?_
  refine J_aload_n (pc := 1) (q := 0) rfl rfl dX6_unfairness_1 ?_
  obtain ⟨a2, h2, g_1⟩ := bnd h
  refine J_getI (pc := 2) (i := 2) clF6 (by decide) rfl fl_RX6_149 h2 dX6_unfairness_2 ?_
  refine J_imul (pc := 5) dX6_unfairness_5 ?_
  refine J_aload_n (pc := 6) (q := 0) rfl rfl dX6_unfairness_6 ?_
  obtain ⟨a7, h7, g_2⟩ := bnd g_1
  refine J_getI (pc := 7) (i := 3) clF6 (by decide) rfl fl_RX6_152 h7 dX6_unfairness_7 ?_
  refine J_isub (pc := 10) dX6_unfairness_10 ?_
  refine J_mabs (pc := 11) ml_RX6_161 (by omega) (Nat.le_of_ble_eq_true rfl) dX6_unfairness_11 ?_
  exact J_iret (pc := 14) (qi_of g_2) dX6_unfairness_14
set_option maxHeartbeats 4000000 in
set_option maxRecDepth 100000 in
theorem jX6_moveCount_b33 {ad : Nat → Nat} {ca : Nat → ClassId} {D : va_G} {FU d : Nat} {r : Int32} {N : Mem}  {k15 : Int32 → Int32 → Mem → Option (Int32 × Mem)} {x0 : Nat} {x1 : Int32} {x2 : Int32} {x3 : Int32} {M : Mem}  (hk15 : ∀ (y2 : Int32) (y3 : Int32) (M : Mem), k15 y2 y3 M = some (r, N) → J ad ca D cX6_moveCount RX6 4 (d + 4) (Gt ad ca D (some .int) (QI r N)) 15 [(0, vR (some x0)), (1, vI x1), (2, vI y2), (3, vI y3)] [] M) (h : fX6_moveCount_b33 FU  k15 x0 x1 x2 x3 M = some (r, N)) : J ad ca D cX6_moveCount RX6 4 (d + 4) (Gt ad ca D (some .int) (QI r N)) 33 [(0, vR (some x0)), (1, vI x1), (2, vI x2), (3, vI x3)] [] M := by
  unfold fX6_moveCount_b33 at h
  refine J_iinc (pc := 33) (q := 3) rfl (v := x3 + (1 : Int32)) rfl (by decide) (lv' := [(0, vR (some x0)), (1, vI x1), (2, vI x2), (3, vI (x3 + (1 : Int32)))]) rfl dX6_moveCount_33 ?_
  refine J_goto (pc := 36) (tgt := 15) (by decide) dX6_moveCount_36 ?_
  exact hk15 _ _ _ h
set_option maxHeartbeats 4000000 in
set_option maxRecDepth 100000 in
theorem jX6_moveCount_L15 {ad : Nat → Nat} {ca : Nat → ClassId} {D : va_G} {FU d : Nat} {r : Int32} {N : Mem}   {x0 : Nat} {x1 : Int32}   : ∀ (F : Nat) (x2 : Int32) (x3 : Int32) (M : Mem), fX6_moveCount_L15 FU  x0 x1 F x2 x3 M = some (r, N) → J ad ca D cX6_moveCount RX6 4 (d + 4) (Gt ad ca D (some .int) (QI r N)) 15 [(0, vR (some x0)), (1, vI x1), (2, vI x2), (3, vI x3)] [] M := by
  intro F
  induction F with
  | zero =>
    intro x2 x3 M h
    rw [fX6_moveCount_L15] at h
    cases h
  | succ F hk15 =>
    intro x2 x3 M h
    rw [fX6_moveCount_L15] at h
    refine J_iload_n (pc := 15) (q := 3) rfl rfl dX6_moveCount_15 ?_
    refine J_bipush (pc := 16) (v := (32 : Int32)) (by decide) dX6_moveCount_16 ?_
    refine J_icgt (pc := 18) (tgt := 39) (by decide) dX6_moveCount_18 (fun hc18 => ?_) (fun hc18 => ?_)
    · rw [if_pos hc18] at h
      refine J_iload_n (pc := 39) (q := 2) rfl rfl dX6_moveCount_39 ?_
      exact J_iret (pc := 40) (qi_of h) dX6_moveCount_40
    · rw [if_neg hc18] at h
      refine J_aload_n (pc := 21) (q := 0) rfl rfl dX6_moveCount_21 ?_
      refine J_iload_n (pc := 22) (q := 1) rfl rfl dX6_moveCount_22 ?_
      refine J_iload_n (pc := 23) (q := 3) rfl rfl dX6_moveCount_23 ?_
      obtain ⟨b24, hb24, g_1⟩ := bnd h
      obtain ⟨r24, M24, h24, g_2⟩ := bnd2 g_1
      refine J_callVI (pc := 24) (as := [vI x1, vI x3]) (tX6_after (d := d)  h24) cf_X6_after cv_X6_after clF6 hb24 ml_RX6_167 (by omega) (Nat.le_of_ble_eq_true rfl) dX6_moveCount_24 ?_
      refine J_iflt (pc := 27) (tgt := 33) (by decide) dX6_moveCount_27 (fun hc27 => ?_) (fun hc27 => ?_)
      · rw [if_pos hc27] at g_2
        exact jX6_moveCount_b33 hk15 g_2
      · rw [if_neg hc27] at g_2
        refine J_iinc (pc := 30) (q := 2) rfl (v := x2 + (1 : Int32)) rfl (by decide) (lv' := [(0, vR (some x0)), (1, vI x1), (3, vI x3), (2, vI (x2 + (1 : Int32)))]) rfl dX6_moveCount_30 ?_
        refine J_sub [0, 1, 3, 2] (lv' := [(0, vR (some x0)), (1, vI x1), (2, vI (x2 + (1 : Int32))), (3, vI x3)]) rfl ?_
        exact jX6_moveCount_b33 hk15 g_2
set_option maxHeartbeats 4000000 in
set_option maxRecDepth 100000 in
theorem tX6_moveCount {ad : Nat → Nat} {ca : Nat → ClassId} {D : va_G} {FU d : Nat} {r : Int32} {N : Mem}  {x0 : Nat} {x1 : Int32} {M : Mem}  (h : fX6_moveCount FU  x0 x1 M = some (r, N)) : Ct ad ca D yX6_moveCount cX6_moveCount 4 (some .int) (d + 4) [vR (some x0), vI x1] M (QI r N) := by
  refine Ct_of (by decide) (Nat.le_of_ble_eq_true rfl) ?_
  show J ad ca D cX6_moveCount RX6 4 (d + 4) (Gt ad ca D (some .int) (QI r N)) 0 [(0, vR (some x0)), (1, vI x1)] [] M
  unfold fX6_moveCount at h
  refine J_aload_n (pc := 0) (q := 0) rfl rfl dX6_moveCount_0 ?_
  obtain ⟨a1, h1, g_3⟩ := bnd h
  refine J_getR (pc := 1) (i := 5) clF6 (by decide) rfl fl_RX6_15 h1 dX6_moveCount_1 ?_
  refine J_iload_n (pc := 4) (q := 1) rfl rfl dX6_moveCount_4 ?_
  obtain ⟨a5, h5, g_4⟩ := bnd g_3
  refine J_ald0 (pc := 5) h5 dX6_moveCount_5 ?_
  refine J_ifne (pc := 6) (tgt := 11) (by decide) dX6_moveCount_6 (fun hc6 => ?_) (fun hc6 => ?_)
  · rw [if_pos hc6] at g_4
    refine J_iconst (pc := 11) (v := (0 : Int32)) (by decide) dX6_moveCount_11 ?_
    refine J_istore_n (pc := 12) rfl (by decide) (lv' := [(0, vR (some x0)), (1, vI x1), (2, vI (0 : Int32))]) rfl dX6_moveCount_12 ?_
    refine J_iconst (pc := 13) (v := (0 : Int32)) (by decide) dX6_moveCount_13 ?_
    refine J_istore_n (pc := 14) rfl (by decide) (lv' := [(0, vR (some x0)), (1, vI x1), (2, vI (0 : Int32)), (3, vI (0 : Int32))]) rfl dX6_moveCount_14 ?_
    exact jX6_moveCount_L15  FU _ _ _ g_4
  · rw [if_neg hc6] at g_4
    refine J_iconst (pc := 9) (v := (0 : Int32)) (by decide) dX6_moveCount_9 ?_
    exact J_iret (pc := 10) (qi_of g_4) dX6_moveCount_10
set_option maxHeartbeats 4000000 in
set_option maxRecDepth 100000 in
theorem jX6_bestMove_b104 {ad : Nat → Nat} {ca : Nat → ClassId} {D : va_G} {FU d : Nat} {r : Int32} {N : Mem}  {k24 : Int32 → Int32 → Int32 → Mem → Option (Int32 × Mem)} {x0 : Nat} {x1 : Int32} {x2 : Int32} {x3 : Int32} {x4 : Int32} {x5 : Int32} {M : Mem}  (hk24 : ∀ (y3 : Int32) (y4 : Int32) (y5 : Int32) (M : Mem), k24 y3 y4 y5 M = some (r, N) → J ad ca D cX6_bestMove RX6 8 (d + 4) (Gt ad ca D (some .int) (QI r N)) 24 [(0, vR (some x0)), (1, vI x1), (2, vI x2), (3, vI y3), (4, vI y4), (5, vI y5)] [] M) (h : fX6_bestMove_b104 FU  k24 x0 x1 x2 x3 x4 x5 M = some (r, N)) : J ad ca D cX6_bestMove RX6 8 (d + 4) (Gt ad ca D (some .int) (QI r N)) 104 [(0, vR (some x0)), (1, vI x1), (2, vI x2), (3, vI x3), (4, vI x4), (5, vI x5)] [] M := by
  unfold fX6_bestMove_b104 at h
  refine J_iinc (pc := 104) (q := 5) rfl (v := x5 + (1 : Int32)) rfl (by decide) (lv' := [(0, vR (some x0)), (1, vI x1), (2, vI x2), (3, vI x3), (4, vI x4), (5, vI (x5 + (1 : Int32)))]) rfl dX6_bestMove_104 ?_
  refine J_goto (pc := 107) (tgt := 24) (by decide) dX6_bestMove_107 ?_
  exact hk24 _ _ _ _ h
set_option maxHeartbeats 4000000 in
set_option maxRecDepth 100000 in
theorem jX6_bestMove_b97 {ad : Nat → Nat} {ca : Nat → ClassId} {D : va_G} {FU d : Nat} {r : Int32} {N : Mem}  {k24 : Int32 → Int32 → Int32 → Mem → Option (Int32 × Mem)} {x0 : Nat} {x1 : Int32} {x2 : Int32} {x5 : Int32} {x7 : Int32} {M : Mem}  (hk24 : ∀ (y3 : Int32) (y4 : Int32) (y5 : Int32) (M : Mem), k24 y3 y4 y5 M = some (r, N) → J ad ca D cX6_bestMove RX6 8 (d + 4) (Gt ad ca D (some .int) (QI r N)) 24 [(0, vR (some x0)), (1, vI x1), (2, vI x2), (3, vI y3), (4, vI y4), (5, vI y5)] [] M) (h : fX6_bestMove_b97 FU  k24 x0 x1 x2 x5 x7 M = some (r, N)) : J ad ca D cX6_bestMove RX6 8 (d + 4) (Gt ad ca D (some .int) (QI r N)) 97 [(0, vR (some x0)), (1, vI x1), (2, vI x2), (5, vI x5), (7, vI x7)] [] M := by
  unfold fX6_bestMove_b97 at h
  refine J_iload (pc := 97) (q := 3) rfl dX6_bestMove_97 ?_
  refine J_istore_n (pc := 99) rfl (by decide) (lv' := [(0, vR (some x0)), (1, vI x1), (2, vI x2), (5, vI x5), (7, vI x7), (3, vI x5)]) rfl dX6_bestMove_99 ?_
  refine J_iload (pc := 100) (q := 4) rfl dX6_bestMove_100 ?_
  refine J_istore (pc := 102) (by decide) (lv' := [(0, vR (some x0)), (1, vI x1), (2, vI x2), (5, vI x5), (7, vI x7), (3, vI x5), (4, vI x7)]) rfl dX6_bestMove_102 ?_
  refine J_sub [0, 1, 2, 5, 6, 3] (lv' := [(0, vR (some x0)), (1, vI x1), (2, vI x2), (3, vI x5), (4, vI x7), (5, vI x5)]) rfl ?_
  exact jX6_bestMove_b104 hk24 h
set_option maxHeartbeats 4000000 in
set_option maxRecDepth 100000 in
theorem jX6_bestMove_b70 {ad : Nat → Nat} {ca : Nat → ClassId} {D : va_G} {FU d : Nat} {r : Int32} {N : Mem}  {k24 : Int32 → Int32 → Int32 → Mem → Option (Int32 × Mem)} {x0 : Nat} {x1 : Int32} {x2 : Int32} {x3 : Int32} {x4 : Int32} {x5 : Int32} {s0 : Int32} {M : Mem}  (hk24 : ∀ (y3 : Int32) (y4 : Int32) (y5 : Int32) (M : Mem), k24 y3 y4 y5 M = some (r, N) → J ad ca D cX6_bestMove RX6 8 (d + 4) (Gt ad ca D (some .int) (QI r N)) 24 [(0, vR (some x0)), (1, vI x1), (2, vI x2), (3, vI y3), (4, vI y4), (5, vI y5)] [] M) (h : fX6_bestMove_b70 FU  k24 x0 x1 x2 x3 x4 x5 s0 M = some (r, N)) : J ad ca D cX6_bestMove RX6 8 (d + 4) (Gt ad ca D (some .int) (QI r N)) 70 [(0, vR (some x0)), (1, vI x1), (2, vI x2), (3, vI x3), (4, vI x4), (5, vI x5)] [vI s0] M := by
  unfold fX6_bestMove_b70 at h
  refine J_istore (pc := 70) (by decide) (lv' := [(0, vR (some x0)), (1, vI x1), (2, vI x2), (3, vI x3), (4, vI x4), (5, vI x5), (7, vI s0)]) rfl dX6_bestMove_70 ?_
  refine J_iload_n (pc := 72) (q := 3) rfl rfl dX6_bestMove_72 ?_
  refine J_iflt (pc := 73) (tgt := 97) (by decide) dX6_bestMove_73 (fun hc73 => ?_) (fun hc73 => ?_)
  · rw [if_pos hc73] at h
    refine J_sub [0, 1, 2, 5, 6] (lv' := [(0, vR (some x0)), (1, vI x1), (2, vI x2), (5, vI x5), (7, vI s0)]) rfl ?_
    exact jX6_bestMove_b97 hk24 h
  · rw [if_neg hc73] at h
    refine J_iload_n (pc := 76) (q := 2) rfl rfl dX6_bestMove_76 ?_
    refine J_ifeq (pc := 77) (tgt := 90) (by decide) dX6_bestMove_77 (fun hc77 => ?_) (fun hc77 => ?_)
    · rw [if_pos hc77] at h
      refine J_iload (pc := 90) (q := 6) rfl dX6_bestMove_90 ?_
      refine J_iload (pc := 92) (q := 4) rfl dX6_bestMove_92 ?_
      refine J_icge (pc := 94) (tgt := 104) (by decide) dX6_bestMove_94 (fun hc94 => ?_) (fun hc94 => ?_)
      · rw [if_pos hc94] at h
        refine J_sub [0, 1, 2, 3, 4, 5] (lv' := [(0, vR (some x0)), (1, vI x1), (2, vI x2), (3, vI x3), (4, vI x4), (5, vI x5)]) rfl ?_
        exact jX6_bestMove_b104 hk24 h
      · rw [if_neg hc94] at h
        refine J_sub [0, 1, 2, 5, 6] (lv' := [(0, vR (some x0)), (1, vI x1), (2, vI x2), (5, vI x5), (7, vI s0)]) rfl ?_
        exact jX6_bestMove_b97 hk24 h
    · rw [if_neg hc77] at h
      refine J_iload (pc := 80) (q := 6) rfl dX6_bestMove_80 ?_
      refine J_iload (pc := 82) (q := 4) rfl dX6_bestMove_82 ?_
      refine J_icle (pc := 84) (tgt := 104) (by decide) dX6_bestMove_84 (fun hc84 => ?_) (fun hc84 => ?_)
      · rw [if_pos hc84] at h
        refine J_sub [0, 1, 2, 3, 4, 5] (lv' := [(0, vR (some x0)), (1, vI x1), (2, vI x2), (3, vI x3), (4, vI x4), (5, vI x5)]) rfl ?_
        exact jX6_bestMove_b104 hk24 h
      · rw [if_neg hc84] at h
        refine J_goto (pc := 87) (tgt := 97) (by decide) dX6_bestMove_87 ?_
        refine J_sub [0, 1, 2, 5, 6] (lv' := [(0, vR (some x0)), (1, vI x1), (2, vI x2), (5, vI x5), (7, vI s0)]) rfl ?_
        exact jX6_bestMove_b97 hk24 h
set_option maxHeartbeats 4000000 in
set_option maxRecDepth 100000 in
theorem jX6_bestMove_L24 {ad : Nat → Nat} {ca : Nat → ClassId} {D : va_G} {FU d : Nat} {r : Int32} {N : Mem}   {x0 : Nat} {x1 : Int32} {x2 : Int32}   : ∀ (F : Nat) (x3 : Int32) (x4 : Int32) (x5 : Int32) (M : Mem), fX6_bestMove_L24 FU  x0 x1 x2 F x3 x4 x5 M = some (r, N) → J ad ca D cX6_bestMove RX6 8 (d + 4) (Gt ad ca D (some .int) (QI r N)) 24 [(0, vR (some x0)), (1, vI x1), (2, vI x2), (3, vI x3), (4, vI x4), (5, vI x5)] [] M := by
  intro F
  induction F with
  | zero =>
    intro x3 x4 x5 M h
    rw [fX6_bestMove_L24] at h
    cases h
  | succ F hk24 =>
    intro x3 x4 x5 M h
    rw [fX6_bestMove_L24] at h
    refine J_iload (pc := 24) (q := 5) rfl dX6_bestMove_24 ?_
    refine J_bipush (pc := 26) (v := (32 : Int32)) (by decide) dX6_bestMove_26 ?_
    refine J_icgt (pc := 28) (tgt := 110) (by decide) dX6_bestMove_28 (fun hc28 => ?_) (fun hc28 => ?_)
    · rw [if_pos hc28] at h
      refine J_iload_n (pc := 110) (q := 3) rfl rfl dX6_bestMove_110 ?_
      exact J_iret (pc := 111) (qi_of h) dX6_bestMove_111
    · rw [if_neg hc28] at h
      refine J_aload_n (pc := 31) (q := 0) rfl rfl dX6_bestMove_31 ?_
      refine J_iload_n (pc := 32) (q := 1) rfl rfl dX6_bestMove_32 ?_
      refine J_iload (pc := 33) (q := 5) rfl dX6_bestMove_33 ?_
      obtain ⟨b35, hb35, g_1⟩ := bnd h
      obtain ⟨r35, M35, h35, g_2⟩ := bnd2 g_1
      refine J_callVI (pc := 35) (as := [vI x1, vI x5]) (tX6_after (d := d)  h35) cf_X6_after cv_X6_after clF6 hb35 ml_RX6_167 (by omega) (Nat.le_of_ble_eq_true rfl) dX6_bestMove_35 ?_
      refine J_istore (pc := 38) (by decide) (lv' := [(0, vR (some x0)), (1, vI x1), (2, vI x2), (3, vI x3), (4, vI x4), (5, vI x5), (6, vI r35)]) rfl dX6_bestMove_38 ?_
      refine J_iload (pc := 40) (q := 6) rfl dX6_bestMove_40 ?_
      refine J_ifge (pc := 42) (tgt := 48) (by decide) dX6_bestMove_42 (fun hc42 => ?_) (fun hc42 => ?_)
      · rw [if_pos hc42] at g_2
        refine J_aload_n (pc := 48) (q := 0) rfl rfl dX6_bestMove_48 ?_
        obtain ⟨a49, h49, g_3⟩ := bnd g_2
        refine J_getR (pc := 49) (i := 5) clF6 (by decide) rfl fl_RX6_15 h49 dX6_bestMove_49 ?_
        refine J_iload (pc := 52) (q := 6) rfl dX6_bestMove_52 ?_
        obtain ⟨a54, h54, g_4⟩ := bnd g_3
        refine J_ald0 (pc := 54) h54 dX6_bestMove_54 ?_
        refine J_ifge (pc := 55) (tgt := 63) (by decide) dX6_bestMove_55 (fun hc55 => ?_) (fun hc55 => ?_)
        · rw [if_pos hc55] at g_4
          refine J_aload_n (pc := 63) (q := 0) rfl rfl dX6_bestMove_63 ?_
          obtain ⟨a64, h64, g_5⟩ := bnd g_4
          refine J_getR (pc := 64) (i := 5) clF6 (by decide) rfl fl_RX6_15 h64 dX6_bestMove_64 ?_
          refine J_iload (pc := 67) (q := 6) rfl dX6_bestMove_67 ?_
          obtain ⟨a69, h69, g_6⟩ := bnd g_5
          refine J_ald0 (pc := 69) h69 dX6_bestMove_69 ?_
          refine J_sub [0, 1, 2, 3, 4, 5] (lv' := [(0, vR (some x0)), (1, vI x1), (2, vI x2), (3, vI x3), (4, vI x4), (5, vI x5)]) rfl ?_
          exact jX6_bestMove_b70 hk24 g_6
        · rw [if_neg hc55] at g_4
          refine J_ldc (pc := 58) cn_RX6_170 dX6_bestMove_58 ?_
          refine J_goto (pc := 60) (tgt := 70) (by decide) dX6_bestMove_60 ?_
          refine J_sub [0, 1, 2, 3, 4, 5] (lv' := [(0, vR (some x0)), (1, vI x1), (2, vI x2), (3, vI x3), (4, vI x4), (5, vI x5)]) rfl ?_
          exact jX6_bestMove_b70 hk24 g_4
      · rw [if_neg hc42] at g_2
        refine J_goto (pc := 45) (tgt := 104) (by decide) dX6_bestMove_45 ?_
        refine J_sub [0, 1, 2, 3, 4, 5] (lv' := [(0, vR (some x0)), (1, vI x1), (2, vI x2), (3, vI x3), (4, vI x4), (5, vI x5)]) rfl ?_
        exact jX6_bestMove_b104 hk24 g_2
set_option maxHeartbeats 4000000 in
set_option maxRecDepth 100000 in
theorem tX6_bestMove {ad : Nat → Nat} {ca : Nat → ClassId} {D : va_G} {FU d : Nat} {r : Int32} {N : Mem}  {x0 : Nat} {x1 : Int32} {M : Mem}  (h : fX6_bestMove FU  x0 x1 M = some (r, N)) : Ct ad ca D yX6_bestMove cX6_bestMove 8 (some .int) (d + 4) [vR (some x0), vI x1] M (QI r N) := by
  refine Ct_of (by decide) (Nat.le_of_ble_eq_true rfl) ?_
  show J ad ca D cX6_bestMove RX6 8 (d + 4) (Gt ad ca D (some .int) (QI r N)) 0 [(0, vR (some x0)), (1, vI x1)] [] M
  unfold fX6_bestMove at h
  refine J_aload_n (pc := 0) (q := 0) rfl rfl dX6_bestMove_0 ?_
  obtain ⟨a1, h1, g_7⟩ := bnd h
  refine J_getR (pc := 1) (i := 5) clF6 (by decide) rfl fl_RX6_15 h1 dX6_bestMove_1 ?_
  refine J_iload_n (pc := 4) (q := 1) rfl rfl dX6_bestMove_4 ?_
  obtain ⟨a5, h5, g_8⟩ := bnd g_7
  refine J_ald0 (pc := 5) h5 dX6_bestMove_5 ?_
  refine J_ifne (pc := 6) (tgt := 11) (by decide) dX6_bestMove_6 (fun hc6 => ?_) (fun hc6 => ?_)
  · rw [if_pos hc6] at g_8
    refine J_iload_n (pc := 11) (q := 1) rfl rfl dX6_bestMove_11 ?_
    obtain ⟨r12, M12, h12, g_9⟩ := bnd2 g_8
    refine J_callSI (pc := 12) (as := [vI x1]) (tX6_isRunnersTurn (d := d)  h12) cf_X6_isRunnersTurn cv_X6_isRunnersTurn ml_RX6_146 (by omega) (Nat.le_of_ble_eq_true rfl) dX6_bestMove_12 ?_
    refine J_istore_n (pc := 15) rfl (by decide) (lv' := [(0, vR (some x0)), (1, vI x1), (2, vI r12)]) rfl dX6_bestMove_15 ?_
    refine J_iconst (pc := 16) (v := (-1 : Int32)) (by decide) dX6_bestMove_16 ?_
    refine J_istore_n (pc := 17) rfl (by decide) (lv' := [(0, vR (some x0)), (1, vI x1), (2, vI r12), (3, vI (-1 : Int32))]) rfl dX6_bestMove_17 ?_
    refine J_iconst (pc := 18) (v := (0 : Int32)) (by decide) dX6_bestMove_18 ?_
    refine J_istore (pc := 19) (by decide) (lv' := [(0, vR (some x0)), (1, vI x1), (2, vI r12), (3, vI (-1 : Int32)), (4, vI (0 : Int32))]) rfl dX6_bestMove_19 ?_
    refine J_iconst (pc := 21) (v := (0 : Int32)) (by decide) dX6_bestMove_21 ?_
    refine J_istore (pc := 22) (by decide) (lv' := [(0, vR (some x0)), (1, vI x1), (2, vI r12), (3, vI (-1 : Int32)), (4, vI (0 : Int32)), (5, vI (0 : Int32))]) rfl dX6_bestMove_22 ?_
    exact jX6_bestMove_L24  FU _ _ _ _ g_9
  · rw [if_neg hc6] at g_8
    refine J_iconst (pc := 9) (v := (-1 : Int32)) (by decide) dX6_bestMove_9 ?_
    exact J_iret (pc := 10) (qi_of g_8) dX6_bestMove_10
set_option maxHeartbeats 4000000 in
set_option maxRecDepth 100000 in
theorem jX6_shortestMoves_b44 {ad : Nat → Nat} {ca : Nat → ClassId} {D : va_G} {FU d : Nat} {r : Int32} {N : Mem}  {k4 : Int32 → Int32 → Mem → Option (Int32 × Mem)} {x0 : Nat} {x1 : Int32} {x2 : Int32} {x3 : Int32} {M : Mem}  (hk4 : ∀ (y2 : Int32) (y3 : Int32) (M : Mem), k4 y2 y3 M = some (r, N) → J ad ca D cX6_shortestMoves RX6 5 (d + 4) (Gt ad ca D (some .int) (QI r N)) 4 [(0, vR (some x0)), (1, vI x1), (2, vI y2), (3, vI y3)] [] M) (h : fX6_shortestMoves_b44 FU  k4 x0 x1 x2 x3 M = some (r, N)) : J ad ca D cX6_shortestMoves RX6 5 (d + 4) (Gt ad ca D (some .int) (QI r N)) 44 [(0, vR (some x0)), (1, vI x1), (2, vI x2), (3, vI x3)] [] M := by
  unfold fX6_shortestMoves_b44 at h
  refine J_iinc (pc := 44) (q := 3) rfl (v := x3 + (1 : Int32)) rfl (by decide) (lv' := [(0, vR (some x0)), (1, vI x1), (2, vI x2), (3, vI (x3 + (1 : Int32)))]) rfl dX6_shortestMoves_44 ?_
  refine J_goto (pc := 47) (tgt := 4) (by decide) dX6_shortestMoves_47 ?_
  exact hk4 _ _ _ h
set_option maxHeartbeats 4000000 in
set_option maxRecDepth 100000 in
theorem jX6_shortestMoves_L4 {ad : Nat → Nat} {ca : Nat → ClassId} {D : va_G} {FU d : Nat} {r : Int32} {N : Mem}   {x0 : Nat} {x1 : Int32}   : ∀ (F : Nat) (x2 : Int32) (x3 : Int32) (M : Mem), fX6_shortestMoves_L4 FU  x0 x1 F x2 x3 M = some (r, N) → J ad ca D cX6_shortestMoves RX6 5 (d + 4) (Gt ad ca D (some .int) (QI r N)) 4 [(0, vR (some x0)), (1, vI x1), (2, vI x2), (3, vI x3)] [] M := by
  intro F
  induction F with
  | zero =>
    intro x2 x3 M h
    rw [fX6_shortestMoves_L4] at h
    cases h
  | succ F hk4 =>
    intro x2 x3 M h
    rw [fX6_shortestMoves_L4] at h
    refine J_iload_n (pc := 4) (q := 3) rfl rfl dX6_shortestMoves_4 ?_
    refine J_bipush (pc := 5) (v := (32 : Int32)) (by decide) dX6_shortestMoves_5 ?_
    refine J_icgt (pc := 7) (tgt := 50) (by decide) dX6_shortestMoves_7 (fun hc7 => ?_) (fun hc7 => ?_)
    · rw [if_pos hc7] at h
      refine J_iload_n (pc := 50) (q := 2) rfl rfl dX6_shortestMoves_50 ?_
      exact J_iret (pc := 51) (qi_of h) dX6_shortestMoves_51
    · rw [if_neg hc7] at h
      refine J_aload_n (pc := 10) (q := 0) rfl rfl dX6_shortestMoves_10 ?_
      refine J_iload_n (pc := 11) (q := 1) rfl rfl dX6_shortestMoves_11 ?_
      refine J_iload_n (pc := 12) (q := 3) rfl rfl dX6_shortestMoves_12 ?_
      obtain ⟨b13, hb13, g_1⟩ := bnd h
      obtain ⟨r13, M13, h13, g_2⟩ := bnd2 g_1
      refine J_callVI (pc := 13) (as := [vI x1, vI x3]) (tX6_after (d := d)  h13) cf_X6_after cv_X6_after clF6 hb13 ml_RX6_167 (by omega) (Nat.le_of_ble_eq_true rfl) dX6_shortestMoves_13 ?_
      refine J_istore (pc := 16) (by decide) (lv' := [(0, vR (some x0)), (1, vI x1), (2, vI x2), (3, vI x3), (4, vI r13)]) rfl dX6_shortestMoves_16 ?_
      refine J_iload (pc := 18) (q := 4) rfl dX6_shortestMoves_18 ?_
      refine J_iflt (pc := 20) (tgt := 44) (by decide) dX6_shortestMoves_20 (fun hc20 => ?_) (fun hc20 => ?_)
      · rw [if_pos hc20] at g_2
        refine J_sub [0, 1, 2, 3] (lv' := [(0, vR (some x0)), (1, vI x1), (2, vI x2), (3, vI x3)]) rfl ?_
        exact jX6_shortestMoves_b44 hk4 g_2
      · rw [if_neg hc20] at g_2
        refine J_aload_n (pc := 23) (q := 0) rfl rfl dX6_shortestMoves_23 ?_
        obtain ⟨a24, h24, g_3⟩ := bnd g_2
        refine J_getR (pc := 24) (i := 5) clF6 (by decide) rfl fl_RX6_15 h24 dX6_shortestMoves_24 ?_
        refine J_iload (pc := 27) (q := 4) rfl dX6_shortestMoves_27 ?_
        obtain ⟨a29, h29, g_4⟩ := bnd g_3
        refine J_ald0 (pc := 29) h29 dX6_shortestMoves_29 ?_
        refine J_aload_n (pc := 30) (q := 0) rfl rfl dX6_shortestMoves_30 ?_
        obtain ⟨a31, h31, g_5⟩ := bnd g_4
        refine J_getR (pc := 31) (i := 5) clF6 (by decide) rfl fl_RX6_15 h31 dX6_shortestMoves_31 ?_
        refine J_iload_n (pc := 34) (q := 1) rfl rfl dX6_shortestMoves_34 ?_
        obtain ⟨a35, h35, g_6⟩ := bnd g_5
        refine J_ald0 (pc := 35) h35 dX6_shortestMoves_35 ?_
        refine J_iconst (pc := 36) (v := (1 : Int32)) (by decide) dX6_shortestMoves_36 ?_
        refine J_isub (pc := 37) dX6_shortestMoves_37 ?_
        refine J_icne (pc := 38) (tgt := 44) (by decide) dX6_shortestMoves_38 (fun hc38 => ?_) (fun hc38 => ?_)
        · rw [if_pos hc38] at g_6
          refine J_sub [0, 1, 2, 3] (lv' := [(0, vR (some x0)), (1, vI x1), (2, vI x2), (3, vI x3)]) rfl ?_
          exact jX6_shortestMoves_b44 hk4 g_6
        · rw [if_neg hc38] at g_6
          refine J_iinc (pc := 41) (q := 2) rfl (v := x2 + (1 : Int32)) rfl (by decide) (lv' := [(0, vR (some x0)), (1, vI x1), (3, vI x3), (4, vI r13), (2, vI (x2 + (1 : Int32)))]) rfl dX6_shortestMoves_41 ?_
          refine J_sub [0, 1, 4, 2] (lv' := [(0, vR (some x0)), (1, vI x1), (2, vI (x2 + (1 : Int32))), (3, vI x3)]) rfl ?_
          exact jX6_shortestMoves_b44 hk4 g_6
set_option maxHeartbeats 4000000 in
set_option maxRecDepth 100000 in
theorem tX6_shortestMoves {ad : Nat → Nat} {ca : Nat → ClassId} {D : va_G} {FU d : Nat} {r : Int32} {N : Mem}  {x0 : Nat} {x1 : Int32} {M : Mem}  (h : fX6_shortestMoves FU  x0 x1 M = some (r, N)) : Ct ad ca D yX6_shortestMoves cX6_shortestMoves 5 (some .int) (d + 4) [vR (some x0), vI x1] M (QI r N) := by
  refine Ct_of (by decide) (Nat.le_of_ble_eq_true rfl) ?_
  show J ad ca D cX6_shortestMoves RX6 5 (d + 4) (Gt ad ca D (some .int) (QI r N)) 0 [(0, vR (some x0)), (1, vI x1)] [] M
  unfold fX6_shortestMoves at h
  refine J_iconst (pc := 0) (v := (0 : Int32)) (by decide) dX6_shortestMoves_0 ?_
  refine J_istore_n (pc := 1) rfl (by decide) (lv' := [(0, vR (some x0)), (1, vI x1), (2, vI (0 : Int32))]) rfl dX6_shortestMoves_1 ?_
  refine J_iconst (pc := 2) (v := (0 : Int32)) (by decide) dX6_shortestMoves_2 ?_
  refine J_istore_n (pc := 3) rfl (by decide) (lv' := [(0, vR (some x0)), (1, vI x1), (2, vI (0 : Int32)), (3, vI (0 : Int32))]) rfl dX6_shortestMoves_3 ?_
  exact jX6_shortestMoves_L4  FU _ _ _ h
set_option maxHeartbeats 4000000 in
set_option maxRecDepth 100000 in
theorem jX6_findLone_b45 {ad : Nat → Nat} {ca : Nat → ClassId} {D : va_G} {FU d : Nat} {N : Mem}  {k10 : Int32 → Mem → Option (Mem)} {x0 : Nat} {x1 : Int32} {s0 : Option Nat} {s1 : Int32} {s2 : Int32} {M : Mem}  (hk10 : ∀ (y1 : Int32) (M : Mem), k10 y1 M = some N → J ad ca D cX6_findLone RX6 2 (d + 5) (Gt ad ca D none (QV N)) 10 [(0, vR (some x0)), (1, vI y1)] [] M) (h : fX6_findLone_b45 FU  k10 x0 x1 s0 s1 s2 M = some N) : J ad ca D cX6_findLone RX6 2 (d + 5) (Gt ad ca D none (QV N)) 45 [(0, vR (some x0)), (1, vI x1)] [vI s2, vI s1, vR s0] M := by
  unfold fX6_findLone_b45 at h
  obtain ⟨M45, h45, g_1⟩ := bnd h
  refine J_ast1 (pc := 45) h45 dX6_findLone_45 ?_
  refine J_iinc (pc := 46) (q := 1) rfl (v := x1 + (1 : Int32)) rfl (by decide) (lv' := [(0, vR (some x0)), (1, vI (x1 + (1 : Int32)))]) rfl dX6_findLone_46 ?_
  refine J_goto (pc := 49) (tgt := 10) (by decide) dX6_findLone_49 ?_
  exact hk10 _ _ g_1
set_option maxHeartbeats 4000000 in
set_option maxRecDepth 100000 in
theorem jX6_findLone_b44 {ad : Nat → Nat} {ca : Nat → ClassId} {D : va_G} {FU d : Nat} {N : Mem}  {k10 : Int32 → Mem → Option (Mem)} {x0 : Nat} {x1 : Int32} {s0 : Option Nat} {s1 : Int32} {M : Mem}  (hk10 : ∀ (y1 : Int32) (M : Mem), k10 y1 M = some N → J ad ca D cX6_findLone RX6 2 (d + 5) (Gt ad ca D none (QV N)) 10 [(0, vR (some x0)), (1, vI y1)] [] M) (h : fX6_findLone_b44 FU  k10 x0 x1 s0 s1 M = some N) : J ad ca D cX6_findLone RX6 2 (d + 5) (Gt ad ca D none (QV N)) 44 [(0, vR (some x0)), (1, vI x1)] [vI s1, vR s0] M := by
  unfold fX6_findLone_b44 at h
  refine J_iconst (pc := 44) (v := (0 : Int32)) (by decide) dX6_findLone_44 ?_
  exact jX6_findLone_b45 hk10 h
set_option maxHeartbeats 4000000 in
set_option maxRecDepth 100000 in
theorem jX6_findLone_L10 {ad : Nat → Nat} {ca : Nat → ClassId} {D : va_G} {FU d : Nat} {N : Mem}   {x0 : Nat}   : ∀ (F : Nat) (x1 : Int32) (M : Mem), fX6_findLone_L10 FU  x0 F x1 M = some N → J ad ca D cX6_findLone RX6 2 (d + 5) (Gt ad ca D none (QV N)) 10 [(0, vR (some x0)), (1, vI x1)] [] M := by
  intro F
  induction F with
  | zero =>
    intro x1 M h
    rw [fX6_findLone_L10] at h
    cases h
  | succ F hk10 =>
    intro x1 M h
    rw [fX6_findLone_L10] at h
    refine J_iload_n (pc := 10) (q := 1) rfl rfl dX6_findLone_10 ?_
    refine J_sipush (pc := 11) (v := (512 : Int32)) (by decide) dX6_findLone_11 ?_
    refine J_icge (pc := 14) (tgt := 52) (by decide) dX6_findLone_14 (fun hc14 => ?_) (fun hc14 => ?_)
    · rw [if_pos hc14] at h
      refine J_aload_n (pc := 52) (q := 0) rfl rfl dX6_findLone_52 ?_
      refine J_iconst (pc := 53) (v := (1 : Int32)) (by decide) dX6_findLone_53 ?_
      obtain ⟨M54, h54, g_2⟩ := bnd h
      refine J_putZ (pc := 54) (i := 18) clF6 (by decide) rfl fl_RX6_57 rfl rfl (Or.inr rfl) h54 dX6_findLone_54 ?_
      exact J_vret (pc := 57) (qv_of g_2) dX6_findLone_57
    · rw [if_neg hc14] at h
      refine J_aload_n (pc := 17) (q := 0) rfl rfl dX6_findLone_17 ?_
      obtain ⟨a18, h18, g_3⟩ := bnd h
      refine J_getR (pc := 18) (i := 17) clF6 (by decide) rfl fl_RX6_46 h18 dX6_findLone_18 ?_
      refine J_iload_n (pc := 21) (q := 1) rfl rfl dX6_findLone_21 ?_
      refine J_aload_n (pc := 22) (q := 0) rfl rfl dX6_findLone_22 ?_
      obtain ⟨a23, h23, g_4⟩ := bnd g_3
      refine J_getR (pc := 23) (i := 5) clF6 (by decide) rfl fl_RX6_15 h23 dX6_findLone_23 ?_
      refine J_iload_n (pc := 26) (q := 1) rfl rfl dX6_findLone_26 ?_
      obtain ⟨a27, h27, g_5⟩ := bnd g_4
      refine J_ald0 (pc := 27) h27 dX6_findLone_27 ?_
      refine J_ifle (pc := 28) (tgt := 44) (by decide) dX6_findLone_28 (fun hc28 => ?_) (fun hc28 => ?_)
      · rw [if_pos hc28] at g_5
        exact jX6_findLone_b44 hk10 g_5
      · rw [if_neg hc28] at g_5
        refine J_aload_n (pc := 31) (q := 0) rfl rfl dX6_findLone_31 ?_
        refine J_iload_n (pc := 32) (q := 1) rfl rfl dX6_findLone_32 ?_
        obtain ⟨b33, hb33, g_6⟩ := bnd g_5
        obtain ⟨r33, M33, h33, g_7⟩ := bnd2 g_6
        refine J_callVI (pc := 33) (as := [vI x1]) (tX6_shortestMoves (d := d)  h33) cf_X6_shortestMoves cv_X6_shortestMoves clF6 hb33 ml_RX6_171 (by omega) (Nat.le_of_ble_eq_true rfl) dX6_findLone_33 ?_
        refine J_iconst (pc := 36) (v := (1 : Int32)) (by decide) dX6_findLone_36 ?_
        refine J_icne (pc := 37) (tgt := 44) (by decide) dX6_findLone_37 (fun hc37 => ?_) (fun hc37 => ?_)
        · rw [if_pos hc37] at g_7
          exact jX6_findLone_b44 hk10 g_7
        · rw [if_neg hc37] at g_7
          refine J_iconst (pc := 40) (v := (1 : Int32)) (by decide) dX6_findLone_40 ?_
          refine J_goto (pc := 41) (tgt := 45) (by decide) dX6_findLone_41 ?_
          exact jX6_findLone_b45 hk10 g_7
set_option maxHeartbeats 4000000 in
set_option maxRecDepth 100000 in
theorem tX6_findLone {ad : Nat → Nat} {ca : Nat → ClassId} {D : va_G} {FU d : Nat} {N : Mem}  {x0 : Nat} {M : Mem}  (h : fX6_findLone FU  x0 M = some N) : Ct ad ca D yX6_findLone cX6_findLone 2 none (d + 5) [vR (some x0)] M (QV N) := by
  refine Ct_of (by decide) (Nat.le_of_ble_eq_true rfl) ?_
  show J ad ca D cX6_findLone RX6 2 (d + 5) (Gt ad ca D none (QV N)) 0 [(0, vR (some x0))] [] M
  unfold fX6_findLone at h
  refine J_aload_n (pc := 0) (q := 0) rfl rfl dX6_findLone_0 ?_
  obtain ⟨a1, h1, g_8⟩ := bnd h
  refine J_getI (pc := 1) (i := 18) clF6 (by decide) rfl fl_RX6_57 h1 dX6_findLone_1 ?_
  refine J_ifeq (pc := 4) (tgt := 8) (by decide) dX6_findLone_4 (fun hc4 => ?_) (fun hc4 => ?_)
  · rw [if_pos hc4] at g_8
    refine J_iconst (pc := 8) (v := (0 : Int32)) (by decide) dX6_findLone_8 ?_
    refine J_istore_n (pc := 9) rfl (by decide) (lv' := [(0, vR (some x0)), (1, vI (0 : Int32))]) rfl dX6_findLone_9 ?_
    exact jX6_findLone_L10  FU _ _ g_8
  · rw [if_neg hc4] at g_8
    exact J_vret (pc := 7) (qv_of g_8) dX6_findLone_7
set_option maxHeartbeats 4000000 in
set_option maxRecDepth 100000 in
theorem jX6_allPuzzles_b27 {ad : Nat → Nat} {ca : Nat → ClassId} {D : va_G} {FU d : Nat} {r : Int32} {N : Mem}  {k8 : Int32 → Int32 → Mem → Option (Int32 × Mem)} {x0 : Nat} {x1 : Int32} {x2 : Int32} {M : Mem}  (hk8 : ∀ (y1 : Int32) (y2 : Int32) (M : Mem), k8 y1 y2 M = some (r, N) → J ad ca D cX6_allPuzzles RX6 3 (d + 6) (Gt ad ca D (some .int) (QI r N)) 8 [(0, vR (some x0)), (1, vI y1), (2, vI y2)] [] M) (h : fX6_allPuzzles_b27 FU  k8 x0 x1 x2 M = some (r, N)) : J ad ca D cX6_allPuzzles RX6 3 (d + 6) (Gt ad ca D (some .int) (QI r N)) 27 [(0, vR (some x0)), (1, vI x1), (2, vI x2)] [] M := by
  unfold fX6_allPuzzles_b27 at h
  refine J_iinc (pc := 27) (q := 2) rfl (v := x2 + (1 : Int32)) rfl (by decide) (lv' := [(0, vR (some x0)), (1, vI x1), (2, vI (x2 + (1 : Int32)))]) rfl dX6_allPuzzles_27 ?_
  refine J_goto (pc := 30) (tgt := 8) (by decide) dX6_allPuzzles_30 ?_
  exact hk8 _ _ _ h
set_option maxHeartbeats 4000000 in
set_option maxRecDepth 100000 in
theorem jX6_allPuzzles_L8 {ad : Nat → Nat} {ca : Nat → ClassId} {D : va_G} {FU d : Nat} {r : Int32} {N : Mem}   {x0 : Nat}   : ∀ (F : Nat) (x1 : Int32) (x2 : Int32) (M : Mem), fX6_allPuzzles_L8 FU  x0 F x1 x2 M = some (r, N) → J ad ca D cX6_allPuzzles RX6 3 (d + 6) (Gt ad ca D (some .int) (QI r N)) 8 [(0, vR (some x0)), (1, vI x1), (2, vI x2)] [] M := by
  intro F
  induction F with
  | zero =>
    intro x1 x2 M h
    rw [fX6_allPuzzles_L8] at h
    cases h
  | succ F hk8 =>
    intro x1 x2 M h
    rw [fX6_allPuzzles_L8] at h
    refine J_iload_n (pc := 8) (q := 2) rfl rfl dX6_allPuzzles_8 ?_
    refine J_sipush (pc := 9) (v := (512 : Int32)) (by decide) dX6_allPuzzles_9 ?_
    refine J_icge (pc := 12) (tgt := 33) (by decide) dX6_allPuzzles_12 (fun hc12 => ?_) (fun hc12 => ?_)
    · rw [if_pos hc12] at h
      refine J_iload_n (pc := 33) (q := 1) rfl rfl dX6_allPuzzles_33 ?_
      exact J_iret (pc := 34) (qi_of h) dX6_allPuzzles_34
    · rw [if_neg hc12] at h
      refine J_aload_n (pc := 15) (q := 0) rfl rfl dX6_allPuzzles_15 ?_
      obtain ⟨a16, h16, g_1⟩ := bnd h
      refine J_getR (pc := 16) (i := 17) clF6 (by decide) rfl fl_RX6_46 h16 dX6_allPuzzles_16 ?_
      refine J_iload_n (pc := 19) (q := 2) rfl rfl dX6_allPuzzles_19 ?_
      obtain ⟨a20, h20, g_2⟩ := bnd g_1
      refine J_ald1 (pc := 20) h20 dX6_allPuzzles_20 ?_
      refine J_ifeq (pc := 21) (tgt := 27) (by decide) dX6_allPuzzles_21 (fun hc21 => ?_) (fun hc21 => ?_)
      · rw [if_pos hc21] at g_2
        exact jX6_allPuzzles_b27 hk8 g_2
      · rw [if_neg hc21] at g_2
        refine J_iinc (pc := 24) (q := 1) rfl (v := x1 + (1 : Int32)) rfl (by decide) (lv' := [(0, vR (some x0)), (2, vI x2), (1, vI (x1 + (1 : Int32)))]) rfl dX6_allPuzzles_24 ?_
        refine J_sub [0, 2, 1] (lv' := [(0, vR (some x0)), (1, vI (x1 + (1 : Int32))), (2, vI x2)]) rfl ?_
        exact jX6_allPuzzles_b27 hk8 g_2
set_option maxHeartbeats 4000000 in
set_option maxRecDepth 100000 in
theorem tX6_allPuzzles {ad : Nat → Nat} {ca : Nat → ClassId} {D : va_G} {FU d : Nat} {r : Int32} {N : Mem}  {x0 : Nat} {M : Mem}  (h : fX6_allPuzzles FU  x0 M = some (r, N)) : Ct ad ca D yX6_allPuzzles cX6_allPuzzles 3 (some .int) (d + 6) [vR (some x0)] M (QI r N) := by
  refine Ct_of (by decide) (Nat.le_of_ble_eq_true rfl) ?_
  show J ad ca D cX6_allPuzzles RX6 3 (d + 6) (Gt ad ca D (some .int) (QI r N)) 0 [(0, vR (some x0))] [] M
  unfold fX6_allPuzzles at h
  refine J_aload_n (pc := 0) (q := 0) rfl rfl dX6_allPuzzles_0 ?_
  obtain ⟨b1, hb1, g_3⟩ := bnd h
  obtain ⟨M1, h1, g_4⟩ := bnd g_3
  refine J_callVV (pc := 1) (as := []) (tX6_findLone (d := d)  h1) cf_X6_findLone cv_X6_findLone clF6 hb1 ml_RX6_174 (by omega) (Nat.le_of_ble_eq_true rfl) dX6_allPuzzles_1 ?_
  refine J_iconst (pc := 4) (v := (0 : Int32)) (by decide) dX6_allPuzzles_4 ?_
  refine J_istore_n (pc := 5) rfl (by decide) (lv' := [(0, vR (some x0)), (1, vI (0 : Int32))]) rfl dX6_allPuzzles_5 ?_
  refine J_iconst (pc := 6) (v := (0 : Int32)) (by decide) dX6_allPuzzles_6 ?_
  refine J_istore_n (pc := 7) rfl (by decide) (lv' := [(0, vR (some x0)), (1, vI (0 : Int32)), (2, vI (0 : Int32))]) rfl dX6_allPuzzles_7 ?_
  exact jX6_allPuzzles_L8  FU _ _ _ g_4
set_option maxHeartbeats 4000000 in
set_option maxRecDepth 100000 in
theorem jX6_puzzleCount_b37 {ad : Nat → Nat} {ca : Nat → ClassId} {D : va_G} {FU d : Nat} {r : Int32} {N : Mem}  {k8 : Int32 → Int32 → Mem → Option (Int32 × Mem)} {x0 : Nat} {x1 : Int32} {x2 : Int32} {x3 : Int32} {M : Mem}  (hk8 : ∀ (y2 : Int32) (y3 : Int32) (M : Mem), k8 y2 y3 M = some (r, N) → J ad ca D cX6_puzzleCount RX6 4 (d + 6) (Gt ad ca D (some .int) (QI r N)) 8 [(0, vR (some x0)), (1, vI x1), (2, vI y2), (3, vI y3)] [] M) (h : fX6_puzzleCount_b37 FU  k8 x0 x1 x2 x3 M = some (r, N)) : J ad ca D cX6_puzzleCount RX6 4 (d + 6) (Gt ad ca D (some .int) (QI r N)) 37 [(0, vR (some x0)), (1, vI x1), (2, vI x2), (3, vI x3)] [] M := by
  unfold fX6_puzzleCount_b37 at h
  refine J_iinc (pc := 37) (q := 3) rfl (v := x3 + (1 : Int32)) rfl (by decide) (lv' := [(0, vR (some x0)), (1, vI x1), (2, vI x2), (3, vI (x3 + (1 : Int32)))]) rfl dX6_puzzleCount_37 ?_
  refine J_goto (pc := 40) (tgt := 8) (by decide) dX6_puzzleCount_40 ?_
  exact hk8 _ _ _ h
set_option maxHeartbeats 4000000 in
set_option maxRecDepth 100000 in
theorem jX6_puzzleCount_L8 {ad : Nat → Nat} {ca : Nat → ClassId} {D : va_G} {FU d : Nat} {r : Int32} {N : Mem}   {x0 : Nat} {x1 : Int32}   : ∀ (F : Nat) (x2 : Int32) (x3 : Int32) (M : Mem), fX6_puzzleCount_L8 FU  x0 x1 F x2 x3 M = some (r, N) → J ad ca D cX6_puzzleCount RX6 4 (d + 6) (Gt ad ca D (some .int) (QI r N)) 8 [(0, vR (some x0)), (1, vI x1), (2, vI x2), (3, vI x3)] [] M := by
  intro F
  induction F with
  | zero =>
    intro x2 x3 M h
    rw [fX6_puzzleCount_L8] at h
    cases h
  | succ F hk8 =>
    intro x2 x3 M h
    rw [fX6_puzzleCount_L8] at h
    refine J_iload_n (pc := 8) (q := 3) rfl rfl dX6_puzzleCount_8 ?_
    refine J_sipush (pc := 9) (v := (512 : Int32)) (by decide) dX6_puzzleCount_9 ?_
    refine J_icge (pc := 12) (tgt := 43) (by decide) dX6_puzzleCount_12 (fun hc12 => ?_) (fun hc12 => ?_)
    · rw [if_pos hc12] at h
      refine J_iload_n (pc := 43) (q := 2) rfl rfl dX6_puzzleCount_43 ?_
      exact J_iret (pc := 44) (qi_of h) dX6_puzzleCount_44
    · rw [if_neg hc12] at h
      refine J_aload_n (pc := 15) (q := 0) rfl rfl dX6_puzzleCount_15 ?_
      obtain ⟨a16, h16, g_1⟩ := bnd h
      refine J_getR (pc := 16) (i := 17) clF6 (by decide) rfl fl_RX6_46 h16 dX6_puzzleCount_16 ?_
      refine J_iload_n (pc := 19) (q := 3) rfl rfl dX6_puzzleCount_19 ?_
      obtain ⟨a20, h20, g_2⟩ := bnd g_1
      refine J_ald1 (pc := 20) h20 dX6_puzzleCount_20 ?_
      refine J_ifeq (pc := 21) (tgt := 37) (by decide) dX6_puzzleCount_21 (fun hc21 => ?_) (fun hc21 => ?_)
      · rw [if_pos hc21] at g_2
        exact jX6_puzzleCount_b37 hk8 g_2
      · rw [if_neg hc21] at g_2
        refine J_aload_n (pc := 24) (q := 0) rfl rfl dX6_puzzleCount_24 ?_
        obtain ⟨a25, h25, g_3⟩ := bnd g_2
        refine J_getR (pc := 25) (i := 5) clF6 (by decide) rfl fl_RX6_15 h25 dX6_puzzleCount_25 ?_
        refine J_iload_n (pc := 28) (q := 3) rfl rfl dX6_puzzleCount_28 ?_
        obtain ⟨a29, h29, g_4⟩ := bnd g_3
        refine J_ald0 (pc := 29) h29 dX6_puzzleCount_29 ?_
        refine J_iload_n (pc := 30) (q := 1) rfl rfl dX6_puzzleCount_30 ?_
        refine J_icne (pc := 31) (tgt := 37) (by decide) dX6_puzzleCount_31 (fun hc31 => ?_) (fun hc31 => ?_)
        · rw [if_pos hc31] at g_4
          exact jX6_puzzleCount_b37 hk8 g_4
        · rw [if_neg hc31] at g_4
          refine J_iinc (pc := 34) (q := 2) rfl (v := x2 + (1 : Int32)) rfl (by decide) (lv' := [(0, vR (some x0)), (1, vI x1), (3, vI x3), (2, vI (x2 + (1 : Int32)))]) rfl dX6_puzzleCount_34 ?_
          refine J_sub [0, 1, 3, 2] (lv' := [(0, vR (some x0)), (1, vI x1), (2, vI (x2 + (1 : Int32))), (3, vI x3)]) rfl ?_
          exact jX6_puzzleCount_b37 hk8 g_4
set_option maxHeartbeats 4000000 in
set_option maxRecDepth 100000 in
theorem tX6_puzzleCount {ad : Nat → Nat} {ca : Nat → ClassId} {D : va_G} {FU d : Nat} {r : Int32} {N : Mem}  {x0 : Nat} {x1 : Int32} {M : Mem}  (h : fX6_puzzleCount FU  x0 x1 M = some (r, N)) : Ct ad ca D yX6_puzzleCount cX6_puzzleCount 4 (some .int) (d + 6) [vR (some x0), vI x1] M (QI r N) := by
  refine Ct_of (by decide) (Nat.le_of_ble_eq_true rfl) ?_
  show J ad ca D cX6_puzzleCount RX6 4 (d + 6) (Gt ad ca D (some .int) (QI r N)) 0 [(0, vR (some x0)), (1, vI x1)] [] M
  unfold fX6_puzzleCount at h
  refine J_aload_n (pc := 0) (q := 0) rfl rfl dX6_puzzleCount_0 ?_
  obtain ⟨b1, hb1, g_5⟩ := bnd h
  obtain ⟨M1, h1, g_6⟩ := bnd g_5
  refine J_callVV (pc := 1) (as := []) (tX6_findLone (d := d)  h1) cf_X6_findLone cv_X6_findLone clF6 hb1 ml_RX6_174 (by omega) (Nat.le_of_ble_eq_true rfl) dX6_puzzleCount_1 ?_
  refine J_iconst (pc := 4) (v := (0 : Int32)) (by decide) dX6_puzzleCount_4 ?_
  refine J_istore_n (pc := 5) rfl (by decide) (lv' := [(0, vR (some x0)), (1, vI x1), (2, vI (0 : Int32))]) rfl dX6_puzzleCount_5 ?_
  refine J_iconst (pc := 6) (v := (0 : Int32)) (by decide) dX6_puzzleCount_6 ?_
  refine J_istore_n (pc := 7) rfl (by decide) (lv' := [(0, vR (some x0)), (1, vI x1), (2, vI (0 : Int32)), (3, vI (0 : Int32))]) rfl dX6_puzzleCount_7 ?_
  exact jX6_puzzleCount_L8  FU _ _ _ g_6
set_option maxHeartbeats 4000000 in
set_option maxRecDepth 100000 in
theorem jX6_puzzleAt_b59 {ad : Nat → Nat} {ca : Nat → ClassId} {D : va_G} {FU d : Nat} {r : Int32} {N : Mem}  {k9 : Int32 → Int32 → Mem → Option (Int32 × Mem)} {x0 : Nat} {x1 : Int32} {x2 : Int32} {x3 : Int32} {x4 : Int32} {M : Mem}  (hk9 : ∀ (y3 : Int32) (y4 : Int32) (M : Mem), k9 y3 y4 M = some (r, N) → J ad ca D cX6_puzzleAt RX6 5 (d + 6) (Gt ad ca D (some .int) (QI r N)) 9 [(0, vR (some x0)), (1, vI x1), (2, vI x2), (3, vI y3), (4, vI y4)] [] M) (h : fX6_puzzleAt_b59 FU  k9 x0 x1 x2 x3 x4 M = some (r, N)) : J ad ca D cX6_puzzleAt RX6 5 (d + 6) (Gt ad ca D (some .int) (QI r N)) 59 [(0, vR (some x0)), (1, vI x1), (2, vI x2), (3, vI x3), (4, vI x4)] [] M := by
  unfold fX6_puzzleAt_b59 at h
  refine J_iinc (pc := 59) (q := 4) rfl (v := x4 + (1 : Int32)) rfl (by decide) (lv' := [(0, vR (some x0)), (1, vI x1), (2, vI x2), (3, vI x3), (4, vI (x4 + (1 : Int32)))]) rfl dX6_puzzleAt_59 ?_
  refine J_goto (pc := 62) (tgt := 9) (by decide) dX6_puzzleAt_62 ?_
  exact hk9 _ _ _ h
set_option maxHeartbeats 4000000 in
set_option maxRecDepth 100000 in
theorem jX6_puzzleAt_L9 {ad : Nat → Nat} {ca : Nat → ClassId} {D : va_G} {FU d : Nat} {r : Int32} {N : Mem}   {x0 : Nat} {x1 : Int32} {x2 : Int32}   : ∀ (F : Nat) (x3 : Int32) (x4 : Int32) (M : Mem), fX6_puzzleAt_L9 FU  x0 x1 x2 F x3 x4 M = some (r, N) → J ad ca D cX6_puzzleAt RX6 5 (d + 6) (Gt ad ca D (some .int) (QI r N)) 9 [(0, vR (some x0)), (1, vI x1), (2, vI x2), (3, vI x3), (4, vI x4)] [] M := by
  intro F
  induction F with
  | zero =>
    intro x3 x4 M h
    rw [fX6_puzzleAt_L9] at h
    cases h
  | succ F hk9 =>
    intro x3 x4 M h
    rw [fX6_puzzleAt_L9] at h
    refine J_iload (pc := 9) (q := 4) rfl dX6_puzzleAt_9 ?_
    refine J_sipush (pc := 11) (v := (512 : Int32)) (by decide) dX6_puzzleAt_11 ?_
    refine J_icge (pc := 14) (tgt := 65) (by decide) dX6_puzzleAt_14 (fun hc14 => ?_) (fun hc14 => ?_)
    · rw [if_pos hc14] at h
      refine J_iconst (pc := 65) (v := (-1 : Int32)) (by decide) dX6_puzzleAt_65 ?_
      exact J_iret (pc := 66) (qi_of h) dX6_puzzleAt_66
    · rw [if_neg hc14] at h
      refine J_aload_n (pc := 17) (q := 0) rfl rfl dX6_puzzleAt_17 ?_
      obtain ⟨a18, h18, g_1⟩ := bnd h
      refine J_getR (pc := 18) (i := 17) clF6 (by decide) rfl fl_RX6_46 h18 dX6_puzzleAt_18 ?_
      refine J_iload (pc := 21) (q := 4) rfl dX6_puzzleAt_21 ?_
      obtain ⟨a23, h23, g_2⟩ := bnd g_1
      refine J_ald1 (pc := 23) h23 dX6_puzzleAt_23 ?_
      refine J_ifeq (pc := 24) (tgt := 59) (by decide) dX6_puzzleAt_24 (fun hc24 => ?_) (fun hc24 => ?_)
      · rw [if_pos hc24] at g_2
        exact jX6_puzzleAt_b59 hk9 g_2
      · rw [if_neg hc24] at g_2
        refine J_aload_n (pc := 27) (q := 0) rfl rfl dX6_puzzleAt_27 ?_
        obtain ⟨a28, h28, g_3⟩ := bnd g_2
        refine J_getR (pc := 28) (i := 5) clF6 (by decide) rfl fl_RX6_15 h28 dX6_puzzleAt_28 ?_
        refine J_iload (pc := 31) (q := 4) rfl dX6_puzzleAt_31 ?_
        obtain ⟨a33, h33, g_4⟩ := bnd g_3
        refine J_ald0 (pc := 33) h33 dX6_puzzleAt_33 ?_
        refine J_iload_n (pc := 34) (q := 1) rfl rfl dX6_puzzleAt_34 ?_
        refine J_icne (pc := 35) (tgt := 59) (by decide) dX6_puzzleAt_35 (fun hc35 => ?_) (fun hc35 => ?_)
        · rw [if_pos hc35] at g_4
          exact jX6_puzzleAt_b59 hk9 g_4
        · rw [if_neg hc35] at g_4
          refine J_iload_n (pc := 38) (q := 3) rfl rfl dX6_puzzleAt_38 ?_
          refine J_iload_n (pc := 39) (q := 2) rfl rfl dX6_puzzleAt_39 ?_
          refine J_icne (pc := 40) (tgt := 56) (by decide) dX6_puzzleAt_40 (fun hc40 => ?_) (fun hc40 => ?_)
          · rw [if_pos hc40] at g_4
            refine J_iinc (pc := 56) (q := 3) rfl (v := x3 + (1 : Int32)) rfl (by decide) (lv' := [(0, vR (some x0)), (1, vI x1), (2, vI x2), (4, vI x4), (3, vI (x3 + (1 : Int32)))]) rfl dX6_puzzleAt_56 ?_
            refine J_sub [0, 1, 2, 4, 3] (lv' := [(0, vR (some x0)), (1, vI x1), (2, vI x2), (3, vI (x3 + (1 : Int32))), (4, vI x4)]) rfl ?_
            exact jX6_puzzleAt_b59 hk9 g_4
          · rw [if_neg hc40] at g_4
            refine J_iload (pc := 43) (q := 4) rfl dX6_puzzleAt_43 ?_
            refine J_iconst (pc := 45) (v := (3 : Int32)) (by decide) dX6_puzzleAt_45 ?_
            refine J_ishr (pc := 46) dX6_puzzleAt_46 ?_
            refine J_iload (pc := 47) (q := 4) rfl dX6_puzzleAt_47 ?_
            refine J_bipush (pc := 49) (v := (7 : Int32)) (by decide) dX6_puzzleAt_49 ?_
            refine J_iand (pc := 51) dX6_puzzleAt_51 ?_
            obtain ⟨r52, M52, h52, g_5⟩ := bnd2 g_4
            refine J_callSI (pc := 52) (as := [vI (x4 >>> ((3 : Int32) &&& 31)), vI (x4 &&& (7 : Int32))]) (tX6_rowTold (d := d)  h52) cf_X6_rowTold cv_X6_rowTold ml_RX6_177 (by omega) (Nat.le_of_ble_eq_true rfl) dX6_puzzleAt_52 ?_
            exact J_iret (pc := 55) (qi_of g_5) dX6_puzzleAt_55
set_option maxHeartbeats 4000000 in
set_option maxRecDepth 100000 in
theorem tX6_puzzleAt {ad : Nat → Nat} {ca : Nat → ClassId} {D : va_G} {FU d : Nat} {r : Int32} {N : Mem}  {x0 : Nat} {x1 : Int32} {x2 : Int32} {M : Mem}  (h : fX6_puzzleAt FU  x0 x1 x2 M = some (r, N)) : Ct ad ca D yX6_puzzleAt cX6_puzzleAt 5 (some .int) (d + 6) [vR (some x0), vI x1, vI x2] M (QI r N) := by
  refine Ct_of (by decide) (Nat.le_of_ble_eq_true rfl) ?_
  show J ad ca D cX6_puzzleAt RX6 5 (d + 6) (Gt ad ca D (some .int) (QI r N)) 0 [(0, vR (some x0)), (1, vI x1), (2, vI x2)] [] M
  unfold fX6_puzzleAt at h
  refine J_aload_n (pc := 0) (q := 0) rfl rfl dX6_puzzleAt_0 ?_
  obtain ⟨b1, hb1, g_6⟩ := bnd h
  obtain ⟨M1, h1, g_7⟩ := bnd g_6
  refine J_callVV (pc := 1) (as := []) (tX6_findLone (d := d)  h1) cf_X6_findLone cv_X6_findLone clF6 hb1 ml_RX6_174 (by omega) (Nat.le_of_ble_eq_true rfl) dX6_puzzleAt_1 ?_
  refine J_iconst (pc := 4) (v := (0 : Int32)) (by decide) dX6_puzzleAt_4 ?_
  refine J_istore_n (pc := 5) rfl (by decide) (lv' := [(0, vR (some x0)), (1, vI x1), (2, vI x2), (3, vI (0 : Int32))]) rfl dX6_puzzleAt_5 ?_
  refine J_iconst (pc := 6) (v := (0 : Int32)) (by decide) dX6_puzzleAt_6 ?_
  refine J_istore (pc := 7) (by decide) (lv' := [(0, vR (some x0)), (1, vI x1), (2, vI x2), (3, vI (0 : Int32)), (4, vI (0 : Int32))]) rfl dX6_puzzleAt_7 ?_
  exact jX6_puzzleAt_L9  FU _ _ _ g_7
set_option maxHeartbeats 4000000 in
set_option maxRecDepth 100000 in
theorem tX7_takeTape {ad : Nat → Nat} {ca : Nat → ClassId} {D : va_G} {FU d : Nat} {r : Int32} {N : Mem}  {x0 : Nat} {M : Mem}  (h : fX7_takeTape FU  x0 M = some (r, N)) : Ct ad ca D yX7_takeTape cX7_takeTape 2 (some .int) (d + 122) [vR (some x0)] M (QI r N) := by
  refine Ct_of (by decide) (Nat.le_of_ble_eq_true rfl) ?_
  show J ad ca D cX7_takeTape RX7 2 (d + 122) (Gt ad ca D (some .int) (QI r N)) 0 [(0, vR (some x0))] [] M
  unfold fX7_takeTape at h
  refine J_aload_n (pc := 0) (q := 0) rfl rfl dX7_takeTape_0 ?_
  obtain ⟨a1, h1, g_1⟩ := bnd h
  refine J_getI (pc := 1) (i := 4) clF7 (by decide) rfl fl_RX7_24 h1 dX7_takeTape_1 ?_
  refine J_bipush (pc := 4) (v := (6 : Int32)) (by decide) dX7_takeTape_4 ?_
  refine J_iclt (pc := 6) (tgt := 12) (by decide) dX7_takeTape_6 (fun hc6 => ?_) (fun hc6 => ?_)
  · rw [if_pos hc6] at g_1
    refine J_aload_n (pc := 12) (q := 0) rfl rfl dX7_takeTape_12 ?_
    obtain ⟨a13, h13, g_2⟩ := bnd g_1
    refine J_getI (pc := 13) (i := 1) clF7 (by decide) rfl fl_RX7_53 h13 dX7_takeTape_13 ?_
    refine J_istore_n (pc := 16) rfl (by decide) (lv' := [(0, vR (some x0)), (1, vI a13)]) rfl dX7_takeTape_16 ?_
    refine J_aload_n (pc := 17) (q := 0) rfl rfl dX7_takeTape_17 ?_
    refine J_iconst (pc := 18) (v := (0 : Int32)) (by decide) dX7_takeTape_18 ?_
    obtain ⟨M19, h19, g_3⟩ := bnd g_2
    refine J_putI (pc := 19) (i := 1) clF7 (by decide) rfl fl_RX7_53 rfl rfl h19 dX7_takeTape_19 ?_
    refine J_aload_n (pc := 22) (q := 0) rfl rfl dX7_takeTape_22 ?_
    obtain ⟨a23, h23, g_4⟩ := bnd g_3
    refine J_getR (pc := 23) (i := 6) clF7 (by decide) rfl fl_RX7_31 h23 dX7_takeTape_23 ?_
    refine J_aload_n (pc := 26) (q := 0) rfl rfl dX7_takeTape_26 ?_
    obtain ⟨a27, h27, g_5⟩ := bnd g_4
    refine J_getR (pc := 27) (i := 0) clF7 (by decide) rfl fl_RX7_9 h27 dX7_takeTape_27 ?_
    refine J_iload_n (pc := 30) (q := 1) rfl rfl dX7_takeTape_30 ?_
    obtain ⟨b31, hb31, g_6⟩ := bnd g_5
    obtain ⟨M31, h31, g_7⟩ := bnd g_6
    refine J_callVV (pc := 31) (as := [vR a27, vI a13]) (tX4_read (d := d)  h31) cf_X4_read cv_X4_read clF4 hb31 ml_RX7_56 (by omega) (Nat.le_of_ble_eq_true rfl) dX7_takeTape_31 ?_
    refine J_aload_n (pc := 34) (q := 0) rfl rfl dX7_takeTape_34 ?_
    obtain ⟨a35, h35, g_8⟩ := bnd g_7
    refine J_getR (pc := 35) (i := 6) clF7 (by decide) rfl fl_RX7_31 h35 dX7_takeTape_35 ?_
    obtain ⟨a38, h38, g_9⟩ := bnd g_8
    refine J_getI (pc := 38) (i := 3) clF4 (by decide) rfl fl_RX7_60 h38 dX7_takeTape_38 ?_
    refine J_iflt (pc := 41) (tgt := 55) (by decide) dX7_takeTape_41 (fun hc41 => ?_) (fun hc41 => ?_)
    · rw [if_pos hc41] at g_9
      refine J_aload_n (pc := 55) (q := 0) rfl rfl dX7_takeTape_55 ?_
      obtain ⟨a56, h56, g_10⟩ := bnd g_9
      refine J_getR (pc := 56) (i := 0) clF7 (by decide) rfl fl_RX7_9 h56 dX7_takeTape_56 ?_
      refine J_iconst (pc := 59) (v := (0 : Int32)) (by decide) dX7_takeTape_59 ?_
      refine J_aload_n (pc := 60) (q := 0) rfl rfl dX7_takeTape_60 ?_
      obtain ⟨a61, h61, g_11⟩ := bnd g_10
      refine J_getR (pc := 61) (i := 2) clF7 (by decide) rfl fl_RX7_17 h61 dX7_takeTape_61 ?_
      refine J_aload_n (pc := 64) (q := 0) rfl rfl dX7_takeTape_64 ?_
      obtain ⟨a65, h65, g_12⟩ := bnd g_11
      refine J_getI (pc := 65) (i := 4) clF7 (by decide) rfl fl_RX7_24 h65 dX7_takeTape_65 ?_
      obtain ⟨a68, h68, g_13⟩ := bnd g_12
      refine J_aldR3 (pc := 68) h68 dX7_takeTape_68 ?_
      refine J_iconst (pc := 69) (v := (0 : Int32)) (by decide) dX7_takeTape_69 ?_
      refine J_iload_n (pc := 70) (q := 1) rfl rfl dX7_takeTape_70 ?_
      obtain ⟨M71, h71, g_14⟩ := bnd g_13
      refine J_copy (pc := 71) h71 ml_RX7_63 (by omega) (Nat.le_of_ble_eq_true rfl) dX7_takeTape_71 ?_
      refine J_aload_n (pc := 74) (q := 0) rfl rfl dX7_takeTape_74 ?_
      obtain ⟨a75, h75, g_15⟩ := bnd g_14
      refine J_getR (pc := 75) (i := 3) clF7 (by decide) rfl fl_RX7_20 h75 dX7_takeTape_75 ?_
      refine J_aload_n (pc := 78) (q := 0) rfl rfl dX7_takeTape_78 ?_
      obtain ⟨a79, h79, g_16⟩ := bnd g_15
      refine J_getI (pc := 79) (i := 4) clF7 (by decide) rfl fl_RX7_24 h79 dX7_takeTape_79 ?_
      refine J_iload_n (pc := 82) (q := 1) rfl rfl dX7_takeTape_82 ?_
      obtain ⟨M83, h83, g_17⟩ := bnd g_16
      refine J_ast0 (pc := 83) h83 dX7_takeTape_83 ?_
      refine J_aload_n (pc := 84) (q := 0) rfl rfl dX7_takeTape_84 ?_
      refine J_dup (pc := 85) rfl dX7_takeTape_85 ?_
      obtain ⟨a86, h86, g_18⟩ := bnd g_17
      refine J_getI (pc := 86) (i := 4) clF7 (by decide) rfl fl_RX7_24 h86 dX7_takeTape_86 ?_
      refine J_dup_x1 (pc := 89) rfl rfl dX7_takeTape_89 ?_
      refine J_iconst (pc := 90) (v := (1 : Int32)) (by decide) dX7_takeTape_90 ?_
      refine J_iadd (pc := 91) dX7_takeTape_91 ?_
      obtain ⟨M92, h92, g_19⟩ := bnd g_18
      refine J_putI (pc := 92) (i := 4) clF7 (by decide) rfl fl_RX7_24 rfl rfl h92 dX7_takeTape_92 ?_
      exact J_iret (pc := 95) (qi_of g_19) dX7_takeTape_95
    · rw [if_neg hc41] at g_9
      refine J_bipush (pc := 44) (v := (-100 : Int32)) (by decide) dX7_takeTape_44 ?_
      refine J_aload_n (pc := 46) (q := 0) rfl rfl dX7_takeTape_46 ?_
      obtain ⟨a47, h47, g_20⟩ := bnd g_9
      refine J_getR (pc := 47) (i := 6) clF7 (by decide) rfl fl_RX7_31 h47 dX7_takeTape_47 ?_
      obtain ⟨a50, h50, g_21⟩ := bnd g_20
      refine J_getI (pc := 50) (i := 3) clF4 (by decide) rfl fl_RX7_60 h50 dX7_takeTape_50 ?_
      refine J_isub (pc := 53) dX7_takeTape_53 ?_
      exact J_iret (pc := 54) (qi_of g_21) dX7_takeTape_54
  · rw [if_neg hc6] at g_1
    refine J_bipush (pc := 9) (v := (-4 : Int32)) (by decide) dX7_takeTape_9 ?_
    exact J_iret (pc := 11) (qi_of g_1) dX7_takeTape_11
set_option maxHeartbeats 4000000 in
set_option maxRecDepth 100000 in
theorem tX8_way {ad : Nat → Nat} {ca : Nat → ClassId} {D : va_G} {FU d : Nat} {r : Int32} {N : Mem}  {x0 : Nat} {x1 : Int32} {x2 : Int32} {x3 : Int32} {M : Mem}  (h : fX8_way FU  x0 x1 x2 x3 M = some (r, N)) : Ct ad ca D yX8_way cX8_way 5 (some .int) (d + 3) [vR (some x0), vI x1, vI x2, vI x3] M (QI r N) := by
  refine Ct_of (by decide) (Nat.le_of_ble_eq_true rfl) ?_
  show J ad ca D cX8_way RX8 5 (d + 3) (Gt ad ca D (some .int) (QI r N)) 0 [(0, vR (some x0)), (1, vI x1), (2, vI x2), (3, vI x3)] [] M
  unfold fX8_way at h
  refine J_aload_n (pc := 0) (q := 0) rfl rfl dX8_way_0 ?_
  obtain ⟨a1, h1, g_1⟩ := bnd h
  refine J_getR (pc := 1) (i := 0) clF8 (by decide) rfl fl_RX8_68 h1 dX8_way_1 ?_
  refine J_iload_n (pc := 4) (q := 1) rfl rfl dX8_way_4 ?_
  refine J_iload_n (pc := 5) (q := 2) rfl rfl dX8_way_5 ?_
  refine J_iload_n (pc := 6) (q := 3) rfl rfl dX8_way_6 ?_
  obtain ⟨b7, hb7, g_2⟩ := bnd g_1
  obtain ⟨r7, M7, h7, g_3⟩ := bnd2 g_2
  refine J_callVI (pc := 7) (as := [vI x1, vI x2, vI x3]) (tX3_refusalOf (d := d)  h7) cf_X3_refusalOf cv_X3_refusalOf clF3 hb7 ml_RX8_76 (by omega) (Nat.le_of_ble_eq_true rfl) dX8_way_7 ?_
  refine J_istore (pc := 10) (by decide) (lv' := [(0, vR (some x0)), (1, vI x1), (2, vI x2), (3, vI x3), (4, vI r7)]) rfl dX8_way_10 ?_
  refine J_iload (pc := 12) (q := 4) rfl dX8_way_12 ?_
  refine J_ifeq (pc := 14) (tgt := 20) (by decide) dX8_way_14 (fun hc14 => ?_) (fun hc14 => ?_)
  · rw [if_pos hc14] at g_3
    refine J_aload_n (pc := 20) (q := 0) rfl rfl dX8_way_20 ?_
    obtain ⟨a21, h21, g_4⟩ := bnd g_3
    refine J_getR (pc := 21) (i := 5) clF8 (by decide) rfl fl_RX8_33 h21 dX8_way_21 ?_
    refine J_iconst (pc := 24) (v := (0 : Int32)) (by decide) dX8_way_24 ?_
    obtain ⟨M25, h25, g_5⟩ := bnd g_4
    refine J_putZ (pc := 25) (i := 0) clF0 (by decide) rfl fl_RX8_80 rfl rfl (Or.inl rfl) h25 dX8_way_25 ?_
    refine J_aload_n (pc := 28) (q := 0) rfl rfl dX8_way_28 ?_
    obtain ⟨a29, h29, g_6⟩ := bnd g_5
    refine J_getR (pc := 29) (i := 0) clF8 (by decide) rfl fl_RX8_68 h29 dX8_way_29 ?_
    refine J_iload_n (pc := 32) (q := 1) rfl rfl dX8_way_32 ?_
    refine J_iload_n (pc := 33) (q := 2) rfl rfl dX8_way_33 ?_
    refine J_iload_n (pc := 34) (q := 3) rfl rfl dX8_way_34 ?_
    obtain ⟨b35, hb35, g_7⟩ := bnd g_6
    obtain ⟨r35, M35, h35, g_8⟩ := bnd2 g_7
    refine J_callVI (pc := 35) (as := [vI x1, vI x2, vI x3]) (tX3_put (d := d)  h35) cf_X3_put cv_X3_put clF3 hb35 ml_RX8_84 (by omega) (Nat.le_of_ble_eq_true rfl) dX8_way_35 ?_
    exact J_iret (pc := 38) (qi_of g_8) dX8_way_38
  · rw [if_neg hc14] at g_3
    refine J_iload (pc := 17) (q := 4) rfl dX8_way_17 ?_
    exact J_iret (pc := 19) (qi_of g_3) dX8_way_19
set_option maxHeartbeats 4000000 in
set_option maxRecDepth 100000 in
theorem tX8_unway {ad : Nat → Nat} {ca : Nat → ClassId} {D : va_G} {FU d : Nat} {r : Int32} {N : Mem}  {x0 : Nat} {M : Mem}  (h : fX8_unway FU  x0 M = some (r, N)) : Ct ad ca D yX8_unway cX8_unway 1 (some .int) (d + 1) [vR (some x0)] M (QI r N) := by
  refine Ct_of (by decide) (Nat.le_of_ble_eq_true rfl) ?_
  show J ad ca D cX8_unway RX8 1 (d + 1) (Gt ad ca D (some .int) (QI r N)) 0 [(0, vR (some x0))] [] M
  unfold fX8_unway at h
  refine J_aload_n (pc := 0) (q := 0) rfl rfl dX8_unway_0 ?_
  obtain ⟨a1, h1, g_1⟩ := bnd h
  refine J_getR (pc := 1) (i := 0) clF8 (by decide) rfl fl_RX8_68 h1 dX8_unway_1 ?_
  obtain ⟨a4, h4, g_2⟩ := bnd g_1
  refine J_getI (pc := 4) (i := 8) clF3 (by decide) rfl fl_RX8_87 h4 dX8_unway_4 ?_
  refine J_ifne (pc := 7) (tgt := 13) (by decide) dX8_unway_7 (fun hc7 => ?_) (fun hc7 => ?_)
  · rw [if_pos hc7] at g_2
    refine J_aload_n (pc := 13) (q := 0) rfl rfl dX8_unway_13 ?_
    obtain ⟨a14, h14, g_3⟩ := bnd g_2
    refine J_getR (pc := 14) (i := 5) clF8 (by decide) rfl fl_RX8_33 h14 dX8_unway_14 ?_
    refine J_iconst (pc := 17) (v := (0 : Int32)) (by decide) dX8_unway_17 ?_
    obtain ⟨M18, h18, g_4⟩ := bnd g_3
    refine J_putZ (pc := 18) (i := 0) clF0 (by decide) rfl fl_RX8_80 rfl rfl (Or.inl rfl) h18 dX8_unway_18 ?_
    refine J_aload_n (pc := 21) (q := 0) rfl rfl dX8_unway_21 ?_
    obtain ⟨a22, h22, g_5⟩ := bnd g_4
    refine J_getR (pc := 22) (i := 0) clF8 (by decide) rfl fl_RX8_68 h22 dX8_unway_22 ?_
    obtain ⟨b25, hb25, g_6⟩ := bnd g_5
    obtain ⟨M25, h25, g_7⟩ := bnd g_6
    refine J_callVV (pc := 25) (as := []) (tX3_dropLatest (d := d)  h25) cf_X3_dropLatest cv_X3_dropLatest clF3 hb25 ml_RX8_90 (by omega) (Nat.le_of_ble_eq_true rfl) dX8_unway_25 ?_
    refine J_aload_n (pc := 28) (q := 0) rfl rfl dX8_unway_28 ?_
    obtain ⟨a29, h29, g_8⟩ := bnd g_7
    refine J_getR (pc := 29) (i := 0) clF8 (by decide) rfl fl_RX8_68 h29 dX8_unway_29 ?_
    obtain ⟨a32, h32, g_9⟩ := bnd g_8
    refine J_getI (pc := 32) (i := 8) clF3 (by decide) rfl fl_RX8_87 h32 dX8_unway_32 ?_
    exact J_iret (pc := 35) (qi_of g_9) dX8_unway_35
  · rw [if_neg hc7] at g_2
    refine J_bipush (pc := 10) (v := (-3 : Int32)) (by decide) dX8_unway_10 ?_
    exact J_iret (pc := 12) (qi_of g_2) dX8_unway_12
set_option maxHeartbeats 4000000 in
set_option maxRecDepth 100000 in
theorem tX8_wayTold {ad : Nat → Nat} {ca : Nat → ClassId} {D : va_G} {FU d : Nat} {r : Int32} {N : Mem}  {x0 : Nat} {x1 : Int32} {x2 : Int32} {M : Mem}  (h : fX8_wayTold FU  x0 x1 x2 M = some (r, N)) : Ct ad ca D yX8_wayTold cX8_wayTold 3 (some .int) (d + 0) [vR (some x0), vI x1, vI x2] M (QI r N) := by
  refine Ct_of (by decide) (Nat.le_of_ble_eq_true rfl) ?_
  show J ad ca D cX8_wayTold RX8 3 (d + 0) (Gt ad ca D (some .int) (QI r N)) 0 [(0, vR (some x0)), (1, vI x1), (2, vI x2)] [] M
  unfold fX8_wayTold at h
  refine J_iload_n (pc := 0) (q := 1) rfl rfl dX8_wayTold_0 ?_
  refine J_iflt (pc := 1) (tgt := 15) (by decide) dX8_wayTold_1 (fun hc1 => ?_) (fun hc1 => ?_)
  · rw [if_pos hc1] at h
    refine J_bipush (pc := 15) (v := (-2 : Int32)) (by decide) dX8_wayTold_15 ?_
    exact J_iret (pc := 17) (qi_of h) dX8_wayTold_17
  · rw [if_neg hc1] at h
    refine J_iload_n (pc := 4) (q := 1) rfl rfl dX8_wayTold_4 ?_
    refine J_aload_n (pc := 5) (q := 0) rfl rfl dX8_wayTold_5 ?_
    obtain ⟨a6, h6, g_1⟩ := bnd h
    refine J_getR (pc := 6) (i := 0) clF8 (by decide) rfl fl_RX8_68 h6 dX8_wayTold_6 ?_
    obtain ⟨a9, h9, g_2⟩ := bnd g_1
    refine J_getI (pc := 9) (i := 8) clF3 (by decide) rfl fl_RX8_87 h9 dX8_wayTold_9 ?_
    refine J_iclt (pc := 12) (tgt := 18) (by decide) dX8_wayTold_12 (fun hc12 => ?_) (fun hc12 => ?_)
    · rw [if_pos hc12] at g_2
      refine J_iload_n (pc := 18) (q := 2) rfl rfl dX8_wayTold_18 ?_
      by_cases hc19_0 : x2 = (0 : Int32)
      · rw [if_pos hc19_0] at g_2
        refine J_tin (pc := 19) (tgt := 52) (off := (33)) (by rw [hc19_0]; decide) (by rw [hc19_0]; decide) (by rw [hc19_0]; decide) (by decide) dX8_wayTold_19 ?_
        refine J_aload_n (pc := 52) (q := 0) rfl rfl dX8_wayTold_52 ?_
        obtain ⟨a53, h53, g_3⟩ := bnd g_2
        refine J_getR (pc := 53) (i := 0) clF8 (by decide) rfl fl_RX8_68 h53 dX8_wayTold_53 ?_
        obtain ⟨a56, h56, g_4⟩ := bnd g_3
        refine J_getR (pc := 56) (i := 1) clF3 (by decide) rfl fl_RX8_93 h56 dX8_wayTold_56 ?_
        refine J_iload_n (pc := 59) (q := 1) rfl rfl dX8_wayTold_59 ?_
        obtain ⟨a60, h60, g_5⟩ := bnd g_4
        refine J_ald0 (pc := 60) h60 dX8_wayTold_60 ?_
        exact J_iret (pc := 61) (qi_of g_5) dX8_wayTold_61
      rw [if_neg hc19_0] at g_2
      by_cases hc19_1 : x2 = (1 : Int32)
      · rw [if_pos hc19_1] at g_2
        refine J_tin (pc := 19) (tgt := 62) (off := (43)) (by rw [hc19_1]; decide) (by rw [hc19_1]; decide) (by rw [hc19_1]; decide) (by decide) dX8_wayTold_19 ?_
        refine J_aload_n (pc := 62) (q := 0) rfl rfl dX8_wayTold_62 ?_
        obtain ⟨a63, h63, g_6⟩ := bnd g_2
        refine J_getR (pc := 63) (i := 0) clF8 (by decide) rfl fl_RX8_68 h63 dX8_wayTold_63 ?_
        obtain ⟨a66, h66, g_7⟩ := bnd g_6
        refine J_getR (pc := 66) (i := 2) clF3 (by decide) rfl fl_RX8_97 h66 dX8_wayTold_66 ?_
        refine J_iload_n (pc := 69) (q := 1) rfl rfl dX8_wayTold_69 ?_
        obtain ⟨a70, h70, g_8⟩ := bnd g_7
        refine J_ald0 (pc := 70) h70 dX8_wayTold_70 ?_
        exact J_iret (pc := 71) (qi_of g_8) dX8_wayTold_71
      rw [if_neg hc19_1] at g_2
      by_cases hc19_2 : x2 = (2 : Int32)
      · rw [if_pos hc19_2] at g_2
        refine J_tin (pc := 19) (tgt := 72) (off := (53)) (by rw [hc19_2]; decide) (by rw [hc19_2]; decide) (by rw [hc19_2]; decide) (by decide) dX8_wayTold_19 ?_
        refine J_aload_n (pc := 72) (q := 0) rfl rfl dX8_wayTold_72 ?_
        obtain ⟨a73, h73, g_9⟩ := bnd g_2
        refine J_getR (pc := 73) (i := 0) clF8 (by decide) rfl fl_RX8_68 h73 dX8_wayTold_73 ?_
        obtain ⟨a76, h76, g_10⟩ := bnd g_9
        refine J_getR (pc := 76) (i := 3) clF3 (by decide) rfl fl_RX8_100 h76 dX8_wayTold_76 ?_
        refine J_iload_n (pc := 79) (q := 1) rfl rfl dX8_wayTold_79 ?_
        obtain ⟨a80, h80, g_11⟩ := bnd g_10
        refine J_ald0 (pc := 80) h80 dX8_wayTold_80 ?_
        exact J_iret (pc := 81) (qi_of g_11) dX8_wayTold_81
      rw [if_neg hc19_2] at g_2
      by_cases hc19_3 : x2 = (3 : Int32)
      · rw [if_pos hc19_3] at g_2
        refine J_tin (pc := 19) (tgt := 82) (off := (63)) (by rw [hc19_3]; decide) (by rw [hc19_3]; decide) (by rw [hc19_3]; decide) (by decide) dX8_wayTold_19 ?_
        refine J_aload_n (pc := 82) (q := 0) rfl rfl dX8_wayTold_82 ?_
        obtain ⟨a83, h83, g_12⟩ := bnd g_2
        refine J_getR (pc := 83) (i := 0) clF8 (by decide) rfl fl_RX8_68 h83 dX8_wayTold_83 ?_
        obtain ⟨a86, h86, g_13⟩ := bnd g_12
        refine J_getR (pc := 86) (i := 4) clF3 (by decide) rfl fl_RX8_103 h86 dX8_wayTold_86 ?_
        refine J_iload_n (pc := 89) (q := 1) rfl rfl dX8_wayTold_89 ?_
        obtain ⟨a90, h90, g_14⟩ := bnd g_13
        refine J_ald0 (pc := 90) h90 dX8_wayTold_90 ?_
        exact J_iret (pc := 91) (qi_of g_14) dX8_wayTold_91
      rw [if_neg hc19_3] at g_2
      by_cases hc19_4 : x2 = (4 : Int32)
      · rw [if_pos hc19_4] at g_2
        refine J_tin (pc := 19) (tgt := 92) (off := (73)) (by rw [hc19_4]; decide) (by rw [hc19_4]; decide) (by rw [hc19_4]; decide) (by decide) dX8_wayTold_19 ?_
        refine J_getsB (pc := 92) fs_RX8_106 dX8_wayTold_92 ?_
        refine J_aload_n (pc := 95) (q := 0) rfl rfl dX8_wayTold_95 ?_
        obtain ⟨a96, h96, g_15⟩ := bnd g_2
        refine J_getR (pc := 96) (i := 0) clF8 (by decide) rfl fl_RX8_68 h96 dX8_wayTold_96 ?_
        obtain ⟨a99, h99, g_16⟩ := bnd g_15
        refine J_getR (pc := 99) (i := 1) clF3 (by decide) rfl fl_RX8_93 h99 dX8_wayTold_99 ?_
        refine J_iload_n (pc := 102) (q := 1) rfl rfl dX8_wayTold_102 ?_
        obtain ⟨a103, h103, g_17⟩ := bnd g_16
        refine J_ald0 (pc := 103) h103 dX8_wayTold_103 ?_
        obtain ⟨a104, h104, g_18⟩ := bnd g_17
        refine J_aldSB (pc := 104) h104 dX8_wayTold_104 ?_
        exact J_iret (pc := 105) (qi_of g_18) dX8_wayTold_105
      rw [if_neg hc19_4] at g_2
      refine J_tout (pc := 19) (tgt := 106) (by decide) (by have hn0 := i32ne hc19_0 (z := 0) (by decide); have hn1 := i32ne hc19_1 (z := 1) (by decide); have hn2 := i32ne hc19_2 (z := 2) (by decide); have hn3 := i32ne hc19_3 (z := 3) (by decide); have hn4 := i32ne hc19_4 (z := 4) (by decide); omega) dX8_wayTold_19 ?_
      refine J_bipush (pc := 106) (v := (-2 : Int32)) (by decide) dX8_wayTold_106 ?_
      exact J_iret (pc := 108) (qi_of g_2) dX8_wayTold_108
    · rw [if_neg hc12] at g_2
      refine J_bipush (pc := 15) (v := (-2 : Int32)) (by decide) dX8_wayTold_15 ?_
      exact J_iret (pc := 17) (qi_of g_2) dX8_wayTold_17
set_option maxHeartbeats 4000000 in
set_option maxRecDepth 100000 in
theorem tX8_planChanged {ad : Nat → Nat} {ca : Nat → ClassId} {D : va_G} {FU d : Nat} {N : Mem}  {x0 : Nat} {M : Mem}  (h : fX8_planChanged FU  x0 M = some N) : Ct ad ca D yX8_planChanged cX8_planChanged 1 none (d + 0) [vR (some x0)] M (QV N) := by
  refine Ct_of (by decide) (Nat.le_of_ble_eq_true rfl) ?_
  show J ad ca D cX8_planChanged RX8 1 (d + 0) (Gt ad ca D none (QV N)) 0 [(0, vR (some x0))] [] M
  unfold fX8_planChanged at h
  refine J_aload_n (pc := 0) (q := 0) rfl rfl dX8_planChanged_0 ?_
  obtain ⟨a1, h1, g_1⟩ := bnd h
  refine J_getR (pc := 1) (i := 0) clF8 (by decide) rfl fl_RX8_68 h1 dX8_planChanged_1 ?_
  refine J_dup (pc := 4) rfl dX8_planChanged_4 ?_
  obtain ⟨a5, h5, g_2⟩ := bnd g_1
  refine J_getI (pc := 5) (i := 12) clF3 (by decide) rfl fl_RX8_125 h5 dX8_planChanged_5 ?_
  refine J_iconst (pc := 8) (v := (1 : Int32)) (by decide) dX8_planChanged_8 ?_
  refine J_iadd (pc := 9) dX8_planChanged_9 ?_
  obtain ⟨M10, h10, g_3⟩ := bnd g_2
  refine J_putI (pc := 10) (i := 12) clF3 (by decide) rfl fl_RX8_125 rfl rfl h10 dX8_planChanged_10 ?_
  refine J_aload_n (pc := 13) (q := 0) rfl rfl dX8_planChanged_13 ?_
  obtain ⟨a14, h14, g_4⟩ := bnd g_3
  refine J_getR (pc := 14) (i := 5) clF8 (by decide) rfl fl_RX8_33 h14 dX8_planChanged_14 ?_
  refine J_iconst (pc := 17) (v := (0 : Int32)) (by decide) dX8_planChanged_17 ?_
  obtain ⟨M18, h18, g_5⟩ := bnd g_4
  refine J_putZ (pc := 18) (i := 0) clF0 (by decide) rfl fl_RX8_80 rfl rfl (Or.inl rfl) h18 dX8_planChanged_18 ?_
  exact J_vret (pc := 21) (qv_of g_5) dX8_planChanged_21
set_option maxHeartbeats 4000000 in
set_option maxRecDepth 100000 in
theorem tX8_ground {ad : Nat → Nat} {ca : Nat → ClassId} {D : va_G} {FU d : Nat} {r : Int32} {N : Mem}  {x0 : Nat} {x1 : Int32} {x2 : Int32} {M : Mem}  (h : fX8_ground FU  x0 x1 x2 M = some (r, N)) : Ct ad ca D yX8_ground cX8_ground 4 (some .int) (d + 1) [vR (some x0), vI x1, vI x2] M (QI r N) := by
  refine Ct_of (by decide) (Nat.le_of_ble_eq_true rfl) ?_
  show J ad ca D cX8_ground RX8 4 (d + 1) (Gt ad ca D (some .int) (QI r N)) 0 [(0, vR (some x0)), (1, vI x1), (2, vI x2)] [] M
  unfold fX8_ground at h
  refine J_aload_n (pc := 0) (q := 0) rfl rfl dX8_ground_0 ?_
  obtain ⟨a1, h1, g_1⟩ := bnd h
  refine J_getR (pc := 1) (i := 0) clF8 (by decide) rfl fl_RX8_68 h1 dX8_ground_1 ?_
  refine J_iload_n (pc := 4) (q := 1) rfl rfl dX8_ground_4 ?_
  obtain ⟨b5, hb5, g_2⟩ := bnd g_1
  obtain ⟨r5, M5, h5, g_3⟩ := bnd2 g_2
  refine J_callVI (pc := 5) (as := [vI x1]) (tX3_has (d := d)  h5) cf_X3_has cv_X3_has clF3 hb5 ml_RX8_109 (by omega) (Nat.le_of_ble_eq_true rfl) dX8_ground_5 ?_
  refine J_ifeq (pc := 8) (tgt := 20) (by decide) dX8_ground_8 (fun hc8 => ?_) (fun hc8 => ?_)
  · rw [if_pos hc8] at g_3
    refine J_bipush (pc := 20) (v := (-2 : Int32)) (by decide) dX8_ground_20 ?_
    exact J_iret (pc := 22) (qi_of g_3) dX8_ground_22
  · rw [if_neg hc8] at g_3
    refine J_iload_n (pc := 11) (q := 2) rfl rfl dX8_ground_11 ?_
    refine J_iflt (pc := 12) (tgt := 20) (by decide) dX8_ground_12 (fun hc12 => ?_) (fun hc12 => ?_)
    · rw [if_pos hc12] at g_3
      refine J_bipush (pc := 20) (v := (-2 : Int32)) (by decide) dX8_ground_20 ?_
      exact J_iret (pc := 22) (qi_of g_3) dX8_ground_22
    · rw [if_neg hc12] at g_3
      refine J_iload_n (pc := 15) (q := 2) rfl rfl dX8_ground_15 ?_
      refine J_iconst (pc := 16) (v := (4 : Int32)) (by decide) dX8_ground_16 ?_
      refine J_iclt (pc := 17) (tgt := 23) (by decide) dX8_ground_17 (fun hc17 => ?_) (fun hc17 => ?_)
      · rw [if_pos hc17] at g_3
        refine J_aload_n (pc := 23) (q := 0) rfl rfl dX8_ground_23 ?_
        obtain ⟨a24, h24, g_4⟩ := bnd g_3
        refine J_getR (pc := 24) (i := 0) clF8 (by decide) rfl fl_RX8_68 h24 dX8_ground_24 ?_
        obtain ⟨a27, h27, g_5⟩ := bnd g_4
        refine J_getR (pc := 27) (i := 6) clF3 (by decide) rfl fl_RX8_113 h27 dX8_ground_27 ?_
        refine J_iload_n (pc := 30) (q := 1) rfl rfl dX8_ground_30 ?_
        obtain ⟨a31, h31, g_6⟩ := bnd g_5
        refine J_ald0 (pc := 31) h31 dX8_ground_31 ?_
        refine J_istore_n (pc := 32) rfl (by decide) (lv' := [(0, vR (some x0)), (1, vI x1), (2, vI x2), (3, vI a31)]) rfl dX8_ground_32 ?_
        refine J_aload_n (pc := 33) (q := 0) rfl rfl dX8_ground_33 ?_
        obtain ⟨a34, h34, g_7⟩ := bnd g_6
        refine J_getR (pc := 34) (i := 0) clF8 (by decide) rfl fl_RX8_68 h34 dX8_ground_34 ?_
        obtain ⟨a37, h37, g_8⟩ := bnd g_7
        refine J_getR (pc := 37) (i := 6) clF3 (by decide) rfl fl_RX8_113 h37 dX8_ground_37 ?_
        refine J_iload_n (pc := 40) (q := 1) rfl rfl dX8_ground_40 ?_
        refine J_iload_n (pc := 41) (q := 2) rfl rfl dX8_ground_41 ?_
        obtain ⟨M42, h42, g_9⟩ := bnd g_8
        refine J_ast0 (pc := 42) h42 dX8_ground_42 ?_
        refine J_aload_n (pc := 43) (q := 0) rfl rfl dX8_ground_43 ?_
        obtain ⟨b44, hb44, g_10⟩ := bnd g_9
        obtain ⟨M44, h44, g_11⟩ := bnd g_10
        refine J_callVV (pc := 44) (as := []) (tX8_planChanged (d := d)  h44) cf_X8_planChanged cv_X8_planChanged clF8 hb44 ml_RX8_116 (by omega) (Nat.le_of_ble_eq_true rfl) dX8_ground_44 ?_
        refine J_iload_n (pc := 47) (q := 3) rfl rfl dX8_ground_47 ?_
        exact J_iret (pc := 48) (qi_of g_11) dX8_ground_48
      · rw [if_neg hc17] at g_3
        refine J_bipush (pc := 20) (v := (-2 : Int32)) (by decide) dX8_ground_20 ?_
        exact J_iret (pc := 22) (qi_of g_3) dX8_ground_22
set_option maxHeartbeats 4000000 in
set_option maxRecDepth 100000 in
theorem jX8_tell_b69 {ad : Nat → Nat} {ca : Nat → ClassId} {D : va_G} {FU d : Nat} {r : Int32} {N : Mem}   {x0 : Nat} {x3 : Int32} {M : Mem}   (h : fX8_tell_b69 FU  x0 x3 M = some (r, N)) : J ad ca D cX8_tell RX8 4 (d + 1) (Gt ad ca D (some .int) (QI r N)) 69 [(0, vR (some x0)), (3, vI x3)] [] M := by
  unfold fX8_tell_b69 at h
  refine J_aload_n (pc := 69) (q := 0) rfl rfl dX8_tell_69 ?_
  obtain ⟨b70, hb70, g_1⟩ := bnd h
  obtain ⟨M70, h70, g_2⟩ := bnd g_1
  refine J_callVV (pc := 70) (as := []) (tX8_planChanged (d := d)  h70) cf_X8_planChanged cv_X8_planChanged clF8 hb70 ml_RX8_116 (by omega) (Nat.le_of_ble_eq_true rfl) dX8_tell_70 ?_
  refine J_iload_n (pc := 73) (q := 1) rfl rfl dX8_tell_73 ?_
  exact J_iret (pc := 74) (qi_of g_2) dX8_tell_74
set_option maxHeartbeats 4000000 in
set_option maxRecDepth 100000 in
theorem jX8_tell_b14 {ad : Nat → Nat} {ca : Nat → ClassId} {D : va_G} {FU d : Nat} {r : Int32} {N : Mem}   {x0 : Nat} {x2 : Int32} {M : Mem}   (h : fX8_tell_b14 FU  x0 x2 M = some (r, N)) : J ad ca D cX8_tell RX8 4 (d + 1) (Gt ad ca D (some .int) (QI r N)) 14 [(0, vR (some x0)), (2, vI x2)] [] M := by
  unfold fX8_tell_b14 at h
  refine J_aload_n (pc := 14) (q := 0) rfl rfl dX8_tell_14 ?_
  obtain ⟨a15, h15, g_3⟩ := bnd h
  refine J_getR (pc := 15) (i := 0) clF8 (by decide) rfl fl_RX8_68 h15 dX8_tell_15 ?_
  obtain ⟨a18, h18, g_4⟩ := bnd g_3
  refine J_getI (pc := 18) (i := 10) clF3 (by decide) rfl fl_RX8_119 h18 dX8_tell_18 ?_
  refine J_istore_n (pc := 21) rfl (by decide) (lv' := [(0, vR (some x0)), (2, vI x2), (3, vI a18)]) rfl dX8_tell_21 ?_
  refine J_aload_n (pc := 22) (q := 0) rfl rfl dX8_tell_22 ?_
  obtain ⟨a23, h23, g_5⟩ := bnd g_4
  refine J_getR (pc := 23) (i := 0) clF8 (by decide) rfl fl_RX8_68 h23 dX8_tell_23 ?_
  refine J_iload_n (pc := 26) (q := 1) rfl rfl dX8_tell_26 ?_
  obtain ⟨M27, h27, g_6⟩ := bnd g_5
  refine J_putI (pc := 27) (i := 10) clF3 (by decide) rfl fl_RX8_119 rfl rfl h27 dX8_tell_27 ?_
  refine J_goto (pc := 30) (tgt := 69) (by decide) dX8_tell_30 ?_
  refine J_sub [0, 2] (lv' := [(0, vR (some x0)), (3, vI a18)]) rfl ?_
  exact jX8_tell_b69  g_6
set_option maxHeartbeats 4000000 in
set_option maxRecDepth 100000 in
theorem jX8_tell_b33 {ad : Nat → Nat} {ca : Nat → ClassId} {D : va_G} {FU d : Nat} {r : Int32} {N : Mem}   {x0 : Nat} {x1 : Int32} {x2 : Int32} {M : Mem}   (h : fX8_tell_b33 FU  x0 x1 x2 M = some (r, N)) : J ad ca D cX8_tell RX8 4 (d + 1) (Gt ad ca D (some .int) (QI r N)) 33 [(0, vR (some x0)), (1, vI x1), (2, vI x2)] [] M := by
  unfold fX8_tell_b33 at h
  refine J_iload_n (pc := 33) (q := 1) rfl rfl dX8_tell_33 ?_
  refine J_iconst (pc := 34) (v := (1 : Int32)) (by decide) dX8_tell_34 ?_
  refine J_icne (pc := 35) (tgt := 66) (by decide) dX8_tell_35 (fun hc35 => ?_) (fun hc35 => ?_)
  · rw [if_pos hc35] at h
    refine J_bipush (pc := 66) (v := (-2 : Int32)) (by decide) dX8_tell_66 ?_
    exact J_iret (pc := 68) (qi_of h) dX8_tell_68
  · rw [if_neg hc35] at h
    refine J_iload_n (pc := 38) (q := 2) rfl rfl dX8_tell_38 ?_
    refine J_iflt (pc := 39) (tgt := 66) (by decide) dX8_tell_39 (fun hc39 => ?_) (fun hc39 => ?_)
    · rw [if_pos hc39] at h
      refine J_bipush (pc := 66) (v := (-2 : Int32)) (by decide) dX8_tell_66 ?_
      exact J_iret (pc := 68) (qi_of h) dX8_tell_68
    · rw [if_neg hc39] at h
      refine J_iload_n (pc := 42) (q := 2) rfl rfl dX8_tell_42 ?_
      refine J_iconst (pc := 43) (v := (3 : Int32)) (by decide) dX8_tell_43 ?_
      refine J_icgt (pc := 44) (tgt := 66) (by decide) dX8_tell_44 (fun hc44 => ?_) (fun hc44 => ?_)
      · rw [if_pos hc44] at h
        refine J_bipush (pc := 66) (v := (-2 : Int32)) (by decide) dX8_tell_66 ?_
        exact J_iret (pc := 68) (qi_of h) dX8_tell_68
      · rw [if_neg hc44] at h
        refine J_aload_n (pc := 47) (q := 0) rfl rfl dX8_tell_47 ?_
        obtain ⟨a48, h48, g_7⟩ := bnd h
        refine J_getR (pc := 48) (i := 0) clF8 (by decide) rfl fl_RX8_68 h48 dX8_tell_48 ?_
        obtain ⟨a51, h51, g_8⟩ := bnd g_7
        refine J_getI (pc := 51) (i := 11) clF3 (by decide) rfl fl_RX8_122 h51 dX8_tell_51 ?_
        refine J_istore_n (pc := 54) rfl (by decide) (lv' := [(0, vR (some x0)), (1, vI x1), (2, vI x2), (3, vI a51)]) rfl dX8_tell_54 ?_
        refine J_aload_n (pc := 55) (q := 0) rfl rfl dX8_tell_55 ?_
        obtain ⟨a56, h56, g_9⟩ := bnd g_8
        refine J_getR (pc := 56) (i := 0) clF8 (by decide) rfl fl_RX8_68 h56 dX8_tell_56 ?_
        refine J_iload_n (pc := 59) (q := 2) rfl rfl dX8_tell_59 ?_
        obtain ⟨M60, h60, g_10⟩ := bnd g_9
        refine J_putI (pc := 60) (i := 11) clF3 (by decide) rfl fl_RX8_122 rfl rfl h60 dX8_tell_60 ?_
        refine J_goto (pc := 63) (tgt := 69) (by decide) dX8_tell_63 ?_
        refine J_sub [0, 3] (lv' := [(0, vR (some x0)), (3, vI a51)]) rfl ?_
        exact jX8_tell_b69  g_10
set_option maxHeartbeats 4000000 in
set_option maxRecDepth 100000 in
theorem tX8_tell {ad : Nat → Nat} {ca : Nat → ClassId} {D : va_G} {FU d : Nat} {r : Int32} {N : Mem}  {x0 : Nat} {x1 : Int32} {x2 : Int32} {M : Mem}  (h : fX8_tell FU  x0 x1 x2 M = some (r, N)) : Ct ad ca D yX8_tell cX8_tell 4 (some .int) (d + 1) [vR (some x0), vI x1, vI x2] M (QI r N) := by
  refine Ct_of (by decide) (Nat.le_of_ble_eq_true rfl) ?_
  show J ad ca D cX8_tell RX8 4 (d + 1) (Gt ad ca D (some .int) (QI r N)) 0 [(0, vR (some x0)), (1, vI x1), (2, vI x2)] [] M
  unfold fX8_tell at h
  refine J_iload_n (pc := 0) (q := 1) rfl rfl dX8_tell_0 ?_
  refine J_ifne (pc := 1) (tgt := 33) (by decide) dX8_tell_1 (fun hc1 => ?_) (fun hc1 => ?_)
  · rw [if_pos hc1] at h
    exact jX8_tell_b33  h
  · rw [if_neg hc1] at h
    refine J_iload_n (pc := 4) (q := 2) rfl rfl dX8_tell_4 ?_
    refine J_iconst (pc := 5) (v := (1 : Int32)) (by decide) dX8_tell_5 ?_
    refine J_iceq (pc := 6) (tgt := 14) (by decide) dX8_tell_6 (fun hc6 => ?_) (fun hc6 => ?_)
    · rw [if_pos hc6] at h
      refine J_sub [0, 2] (lv' := [(0, vR (some x0)), (2, vI x2)]) rfl ?_
      exact jX8_tell_b14  h
    · rw [if_neg hc6] at h
      refine J_iload_n (pc := 9) (q := 2) rfl rfl dX8_tell_9 ?_
      refine J_iconst (pc := 10) (v := (2 : Int32)) (by decide) dX8_tell_10 ?_
      refine J_icne (pc := 11) (tgt := 33) (by decide) dX8_tell_11 (fun hc11 => ?_) (fun hc11 => ?_)
      · rw [if_pos hc11] at h
        exact jX8_tell_b33  h
      · rw [if_neg hc11] at h
        refine J_sub [0, 2] (lv' := [(0, vR (some x0)), (2, vI x2)]) rfl ?_
        exact jX8_tell_b14  h
set_option maxHeartbeats 4000000 in
set_option maxRecDepth 100000 in
theorem tX8_standingOf {ad : Nat → Nat} {ca : Nat → ClassId} {D : va_G} {FU d : Nat} {r : Int32} {N : Mem}  {x0 : Nat} {x1 : Int32} {x2 : Int32} {x3 : Int32} {x4 : Int32} {x5 : Int32} {M : Mem}  (h : fX8_standingOf FU  x0 x1 x2 x3 x4 x5 M = some (r, N)) : Ct ad ca D yX8_standingOf cX8_standingOf 7 (some .int) (d + 3) [vR (some x0), vI x1, vI x2, vI x3, vI x4, vI x5] M (QI r N) := by
  refine Ct_of (by decide) (Nat.le_of_ble_eq_true rfl) ?_
  show J ad ca D cX8_standingOf RX8 7 (d + 3) (Gt ad ca D (some .int) (QI r N)) 0 [(0, vR (some x0)), (1, vI x1), (2, vI x2), (3, vI x3), (4, vI x4), (5, vI x5)] [] M
  unfold fX8_standingOf at h
  refine J_aload_n (pc := 0) (q := 0) rfl rfl dX8_standingOf_0 ?_
  obtain ⟨a1, h1, g_1⟩ := bnd h
  refine J_getR (pc := 1) (i := 0) clF8 (by decide) rfl fl_RX8_68 h1 dX8_standingOf_1 ?_
  refine J_iload_n (pc := 4) (q := 1) rfl rfl dX8_standingOf_4 ?_
  refine J_iload_n (pc := 5) (q := 2) rfl rfl dX8_standingOf_5 ?_
  obtain ⟨b6, hb6, g_2⟩ := bnd g_1
  obtain ⟨r6, M6, h6, g_3⟩ := bnd2 g_2
  refine J_callVI (pc := 6) (as := [vI x1, vI x2]) (tX3_pairOf (d := d)  h6) cf_X3_pairOf cv_X3_pairOf clF3 hb6 ml_RX8_167 (by omega) (Nat.le_of_ble_eq_true rfl) dX8_standingOf_6 ?_
  refine J_istore (pc := 9) (by decide) (lv' := [(0, vR (some x0)), (1, vI x1), (2, vI x2), (3, vI x3), (4, vI x4), (5, vI x5), (6, vI r6)]) rfl dX8_standingOf_9 ?_
  refine J_iload (pc := 11) (q := 6) rfl dX8_standingOf_11 ?_
  refine J_iflt (pc := 13) (tgt := 55) (by decide) dX8_standingOf_13 (fun hc13 => ?_) (fun hc13 => ?_)
  · rw [if_pos hc13] at g_3
    refine J_iconst (pc := 55) (v := (-1 : Int32)) (by decide) dX8_standingOf_55 ?_
    exact J_iret (pc := 56) (qi_of g_3) dX8_standingOf_56
  · rw [if_neg hc13] at g_3
    refine J_aload_n (pc := 16) (q := 0) rfl rfl dX8_standingOf_16 ?_
    obtain ⟨a17, h17, g_4⟩ := bnd g_3
    refine J_getR (pc := 17) (i := 0) clF8 (by decide) rfl fl_RX8_68 h17 dX8_standingOf_17 ?_
    refine J_iload_n (pc := 20) (q := 3) rfl rfl dX8_standingOf_20 ?_
    obtain ⟨b21, hb21, g_5⟩ := bnd g_4
    obtain ⟨r21, M21, h21, g_6⟩ := bnd2 g_5
    refine J_callVI (pc := 21) (as := [vI x3]) (tX3_has (d := d)  h21) cf_X3_has cv_X3_has clF3 hb21 ml_RX8_109 (by omega) (Nat.le_of_ble_eq_true rfl) dX8_standingOf_21 ?_
    refine J_ifeq (pc := 24) (tgt := 55) (by decide) dX8_standingOf_24 (fun hc24 => ?_) (fun hc24 => ?_)
    · rw [if_pos hc24] at g_6
      refine J_iconst (pc := 55) (v := (-1 : Int32)) (by decide) dX8_standingOf_55 ?_
      exact J_iret (pc := 56) (qi_of g_6) dX8_standingOf_56
    · rw [if_neg hc24] at g_6
      refine J_iload (pc := 27) (q := 4) rfl dX8_standingOf_27 ?_
      refine J_iflt (pc := 29) (tgt := 55) (by decide) dX8_standingOf_29 (fun hc29 => ?_) (fun hc29 => ?_)
      · rw [if_pos hc29] at g_6
        refine J_iconst (pc := 55) (v := (-1 : Int32)) (by decide) dX8_standingOf_55 ?_
        exact J_iret (pc := 56) (qi_of g_6) dX8_standingOf_56
      · rw [if_neg hc29] at g_6
        refine J_iload (pc := 32) (q := 4) rfl dX8_standingOf_32 ?_
        refine J_iconst (pc := 34) (v := (1 : Int32)) (by decide) dX8_standingOf_34 ?_
        refine J_icgt (pc := 35) (tgt := 55) (by decide) dX8_standingOf_35 (fun hc35 => ?_) (fun hc35 => ?_)
        · rw [if_pos hc35] at g_6
          refine J_iconst (pc := 55) (v := (-1 : Int32)) (by decide) dX8_standingOf_55 ?_
          exact J_iret (pc := 56) (qi_of g_6) dX8_standingOf_56
        · rw [if_neg hc35] at g_6
          refine J_iload (pc := 38) (q := 5) rfl dX8_standingOf_38 ?_
          refine J_iflt (pc := 40) (tgt := 55) (by decide) dX8_standingOf_40 (fun hc40 => ?_) (fun hc40 => ?_)
          · rw [if_pos hc40] at g_6
            refine J_iconst (pc := 55) (v := (-1 : Int32)) (by decide) dX8_standingOf_55 ?_
            exact J_iret (pc := 56) (qi_of g_6) dX8_standingOf_56
          · rw [if_neg hc40] at g_6
            refine J_iload (pc := 43) (q := 5) rfl dX8_standingOf_43 ?_
            refine J_aload_n (pc := 45) (q := 0) rfl rfl dX8_standingOf_45 ?_
            obtain ⟨a46, h46, g_7⟩ := bnd g_6
            refine J_getR (pc := 46) (i := 0) clF8 (by decide) rfl fl_RX8_68 h46 dX8_standingOf_46 ?_
            obtain ⟨b49, hb49, g_8⟩ := bnd g_7
            obtain ⟨r49, M49, h49, g_9⟩ := bnd2 g_8
            refine J_callVI (pc := 49) (as := []) (tX3_shutStates (d := d)  h49) cf_X3_shutStates cv_X3_shutStates clF3 hb49 ml_RX8_170 (by omega) (Nat.le_of_ble_eq_true rfl) dX8_standingOf_49 ?_
            refine J_iclt (pc := 52) (tgt := 57) (by decide) dX8_standingOf_52 (fun hc52 => ?_) (fun hc52 => ?_)
            · rw [if_pos hc52] at g_9
              refine J_iload (pc := 57) (q := 5) rfl dX8_standingOf_57 ?_
              refine J_sipush (pc := 59) (v := (1024 : Int32)) (by decide) dX8_standingOf_59 ?_
              refine J_imul (pc := 62) dX8_standingOf_62 ?_
              refine J_iload (pc := 63) (q := 4) rfl dX8_standingOf_63 ?_
              refine J_sipush (pc := 65) (v := (512 : Int32)) (by decide) dX8_standingOf_65 ?_
              refine J_imul (pc := 68) dX8_standingOf_68 ?_
              refine J_iadd (pc := 69) dX8_standingOf_69 ?_
              refine J_iload (pc := 70) (q := 6) rfl dX8_standingOf_70 ?_
              refine J_bipush (pc := 72) (v := (8 : Int32)) (by decide) dX8_standingOf_72 ?_
              refine J_imul (pc := 74) dX8_standingOf_74 ?_
              refine J_iadd (pc := 75) dX8_standingOf_75 ?_
              refine J_iload_n (pc := 76) (q := 3) rfl rfl dX8_standingOf_76 ?_
              refine J_iadd (pc := 77) dX8_standingOf_77 ?_
              exact J_iret (pc := 78) (qi_of g_9) dX8_standingOf_78
            · rw [if_neg hc52] at g_9
              refine J_iconst (pc := 55) (v := (-1 : Int32)) (by decide) dX8_standingOf_55 ?_
              exact J_iret (pc := 56) (qi_of g_9) dX8_standingOf_56
