set_option maxHeartbeats 4000000 in
set_option maxRecDepth 100000 in
theorem jX9_puzzles_b29 {ad : Nat → Nat} {ca : Nat → ClassId} {D : va_G} {FU d : Nat} {r : Int32} {N : Mem}  {k8 : Int32 → Int32 → Mem → Option (Int32 × Mem)} {x0 : Nat} {x2 : Int32} {s0 : Int32} {s1 : Int32} {M : Mem}  (hk8 : ∀ (y1 : Int32) (y2 : Int32) (M : Mem), k8 y1 y2 M = some (r, N) → J ad ca D cX9_puzzles RX9 3 (d + 8) (Gt ad ca D (some .int) (QI r N)) 8 [(0, vR (some x0)), (1, vI y1), (2, vI y2)] [] M) (h : fX9_puzzles_b29 FU  k8 x0 x2 s0 s1 M = some (r, N)) : J ad ca D cX9_puzzles RX9 3 (d + 8) (Gt ad ca D (some .int) (QI r N)) 29 [(0, vR (some x0)), (2, vI x2)] [vI s1, vI s0] M := by
  unfold fX9_puzzles_b29 at h
  refine J_iadd (pc := 29) dX9_puzzles_29 ?_
  refine J_istore_n (pc := 30) rfl (by decide) (lv' := [(0, vR (some x0)), (2, vI x2), (1, vI (s0 + s1))]) rfl dX9_puzzles_30 ?_
  refine J_iinc (pc := 31) (q := 1) rfl (v := x2 + (1 : Int32)) rfl (by decide) (lv' := [(0, vR (some x0)), (1, vI (s0 + s1)), (2, vI (x2 + (1 : Int32)))]) rfl dX9_puzzles_31 ?_
  refine J_goto (pc := 34) (tgt := 8) (by decide) dX9_puzzles_34 ?_
  exact hk8 _ _ _ h
set_option maxHeartbeats 4000000 in
set_option maxRecDepth 100000 in
theorem jX9_puzzles_L8 {ad : Nat → Nat} {ca : Nat → ClassId} {D : va_G} {FU d : Nat} {r : Int32} {N : Mem}   {x0 : Nat}   : ∀ (F : Nat) (x1 : Int32) (x2 : Int32) (M : Mem), fX9_puzzles_L8 FU  x0 F x1 x2 M = some (r, N) → J ad ca D cX9_puzzles RX9 3 (d + 8) (Gt ad ca D (some .int) (QI r N)) 8 [(0, vR (some x0)), (1, vI x1), (2, vI x2)] [] M := by
  intro F
  induction F with
  | zero =>
    intro x1 x2 M h
    rw [fX9_puzzles_L8] at h
    cases h
  | succ F hk8 =>
    intro x1 x2 M h
    rw [fX9_puzzles_L8] at h
    refine J_iload_n (pc := 8) (q := 2) rfl rfl dX9_puzzles_8 ?_
    refine J_sipush (pc := 9) (v := (9216 : Int32)) (by decide) dX9_puzzles_9 ?_
    refine J_icge (pc := 12) (tgt := 37) (by decide) dX9_puzzles_12 (fun hc12 => ?_) (fun hc12 => ?_)
    · rw [if_pos hc12] at h
      refine J_iload_n (pc := 37) (q := 1) rfl rfl dX9_puzzles_37 ?_
      exact J_iret (pc := 38) (qi_of h) dX9_puzzles_38
    · rw [if_neg hc12] at h
      refine J_iload_n (pc := 15) (q := 1) rfl rfl dX9_puzzles_15 ?_
      refine J_aload_n (pc := 16) (q := 0) rfl rfl dX9_puzzles_16 ?_
      refine J_iload_n (pc := 17) (q := 2) rfl rfl dX9_puzzles_17 ?_
      obtain ⟨b18, hb18, g_1⟩ := bnd h
      obtain ⟨r18, M18, h18, g_2⟩ := bnd2 g_1
      refine J_callVI (pc := 18) (as := [vI x2]) (tX9_isPuzzle (d := d)  h18) cf_X9_isPuzzle cv_X9_isPuzzle clF9 hb18 ml_RX9_257 (by omega) (Nat.le_of_ble_eq_true rfl) dX9_puzzles_18 ?_
      refine J_ifeq (pc := 21) (tgt := 28) (by decide) dX9_puzzles_21 (fun hc21 => ?_) (fun hc21 => ?_)
      · rw [if_pos hc21] at g_2
        refine J_iconst (pc := 28) (v := (0 : Int32)) (by decide) dX9_puzzles_28 ?_
        refine J_sub [0, 2] (lv' := [(0, vR (some x0)), (2, vI x2)]) rfl ?_
        exact jX9_puzzles_b29 hk8 g_2
      · rw [if_neg hc21] at g_2
        refine J_iconst (pc := 24) (v := (1 : Int32)) (by decide) dX9_puzzles_24 ?_
        refine J_goto (pc := 25) (tgt := 29) (by decide) dX9_puzzles_25 ?_
        refine J_sub [0, 2] (lv' := [(0, vR (some x0)), (2, vI x2)]) rfl ?_
        exact jX9_puzzles_b29 hk8 g_2
set_option maxHeartbeats 4000000 in
set_option maxRecDepth 100000 in
theorem tX9_puzzles {ad : Nat → Nat} {ca : Nat → ClassId} {D : va_G} {FU d : Nat} {r : Int32} {N : Mem}  {x0 : Nat} {M : Mem}  (h : fX9_puzzles FU  x0 M = some (r, N)) : Ct ad ca D yX9_puzzles cX9_puzzles 3 (some .int) (d + 8) [vR (some x0)] M (QI r N) := by
  refine Ct_of (by decide) (Nat.le_of_ble_eq_true rfl) ?_
  show J ad ca D cX9_puzzles RX9 3 (d + 8) (Gt ad ca D (some .int) (QI r N)) 0 [(0, vR (some x0))] [] M
  unfold fX9_puzzles at h
  refine J_aload_n (pc := 0) (q := 0) rfl rfl dX9_puzzles_0 ?_
  obtain ⟨b1, hb1, g_3⟩ := bnd h
  obtain ⟨M1, h1, g_4⟩ := bnd g_3
  refine J_callVV (pc := 1) (as := []) (tX9_solve (d := d)  h1) cf_X9_solve cv_X9_solve clF9 hb1 ml_RX9_244 (by omega) (Nat.le_of_ble_eq_true rfl) dX9_puzzles_1 ?_
  refine J_iconst (pc := 4) (v := (0 : Int32)) (by decide) dX9_puzzles_4 ?_
  refine J_istore_n (pc := 5) rfl (by decide) (lv' := [(0, vR (some x0)), (1, vI (0 : Int32))]) rfl dX9_puzzles_5 ?_
  refine J_iconst (pc := 6) (v := (0 : Int32)) (by decide) dX9_puzzles_6 ?_
  refine J_istore_n (pc := 7) rfl (by decide) (lv' := [(0, vR (some x0)), (1, vI (0 : Int32)), (2, vI (0 : Int32))]) rfl dX9_puzzles_7 ?_
  exact jX9_puzzles_L8  FU _ _ _ g_4
set_option maxHeartbeats 4000000 in
set_option maxRecDepth 100000 in
theorem jX9_countWays_b112 {ad : Nat → Nat} {ca : Nat → ClassId} {D : va_G} {FU d : Nat} {N : Mem}  {k24 : Int32 → Mem → Option (Mem)} {x0 : Nat} {x1 : Int32} {M : Mem}  (hk24 : ∀ (y1 : Int32) (M : Mem), k24 y1 M = some N → J ad ca D cX9_countWays RX9 2 (d + 0) (Gt ad ca D none (QV N)) 24 [(0, vR (some x0)), (1, vI y1)] [] M) (h : fX9_countWays_b112 FU  k24 x0 x1 M = some N) : J ad ca D cX9_countWays RX9 2 (d + 0) (Gt ad ca D none (QV N)) 112 [(0, vR (some x0)), (1, vI x1)] [] M := by
  unfold fX9_countWays_b112 at h
  refine J_iinc (pc := 112) (q := 1) rfl (v := x1 + (1 : Int32)) rfl (by decide) (lv' := [(0, vR (some x0)), (1, vI (x1 + (1 : Int32)))]) rfl dX9_countWays_112 ?_
  refine J_goto (pc := 115) (tgt := 24) (by decide) dX9_countWays_115 ?_
  exact hk24 _ _ h
set_option maxHeartbeats 4000000 in
set_option maxRecDepth 100000 in
theorem jX9_countWays_L24 {ad : Nat → Nat} {ca : Nat → ClassId} {D : va_G} {FU d : Nat} {N : Mem}   {x0 : Nat}   : ∀ (F : Nat) (x1 : Int32) (M : Mem), fX9_countWays_L24 FU  x0 F x1 M = some N → J ad ca D cX9_countWays RX9 2 (d + 0) (Gt ad ca D none (QV N)) 24 [(0, vR (some x0)), (1, vI x1)] [] M := by
  intro F
  induction F with
  | zero =>
    intro x1 M h
    rw [fX9_countWays_L24] at h
    cases h
  | succ F hk24 =>
    intro x1 M h
    rw [fX9_countWays_L24] at h
    refine J_iload_n (pc := 24) (q := 1) rfl rfl dX9_countWays_24 ?_
    refine J_aload_n (pc := 25) (q := 0) rfl rfl dX9_countWays_25 ?_
    obtain ⟨a26, h26, g_1⟩ := bnd h
    refine J_getI (pc := 26) (i := 1) clF9 (by decide) rfl fl_RX9_7 h26 dX9_countWays_26 ?_
    refine J_icge (pc := 29) (tgt := 118) (by decide) dX9_countWays_29 (fun hc29 => ?_) (fun hc29 => ?_)
    · rw [if_pos hc29] at g_1
      exact J_vret (pc := 118) (qv_of g_1) dX9_countWays_118
    · rw [if_neg hc29] at g_1
      refine J_aload_n (pc := 32) (q := 0) rfl rfl dX9_countWays_32 ?_
      obtain ⟨a33, h33, g_2⟩ := bnd g_1
      refine J_getR (pc := 33) (i := 13) clF9 (by decide) rfl fl_RX9_49 h33 dX9_countWays_33 ?_
      refine J_bipush (pc := 36) (v := (64 : Int32)) (by decide) dX9_countWays_36 ?_
      refine J_aload_n (pc := 38) (q := 0) rfl rfl dX9_countWays_38 ?_
      obtain ⟨a39, h39, g_3⟩ := bnd g_2
      refine J_getR (pc := 39) (i := 4) clF9 (by decide) rfl fl_RX9_19 h39 dX9_countWays_39 ?_
      refine J_iload_n (pc := 42) (q := 1) rfl rfl dX9_countWays_42 ?_
      obtain ⟨a43, h43, g_4⟩ := bnd g_3
      refine J_ald0 (pc := 43) h43 dX9_countWays_43 ?_
      refine J_imul (pc := 44) dX9_countWays_44 ?_
      refine J_bipush (pc := 45) (v := (8 : Int32)) (by decide) dX9_countWays_45 ?_
      refine J_aload_n (pc := 47) (q := 0) rfl rfl dX9_countWays_47 ?_
      obtain ⟨a48, h48, g_5⟩ := bnd g_4
      refine J_getR (pc := 48) (i := 5) clF9 (by decide) rfl fl_RX9_23 h48 dX9_countWays_48 ?_
      refine J_iload_n (pc := 51) (q := 1) rfl rfl dX9_countWays_51 ?_
      obtain ⟨a52, h52, g_6⟩ := bnd g_5
      refine J_ald0 (pc := 52) h52 dX9_countWays_52 ?_
      refine J_imul (pc := 53) dX9_countWays_53 ?_
      refine J_iadd (pc := 54) dX9_countWays_54 ?_
      refine J_aload_n (pc := 55) (q := 0) rfl rfl dX9_countWays_55 ?_
      obtain ⟨a56, h56, g_7⟩ := bnd g_6
      refine J_getR (pc := 56) (i := 6) clF9 (by decide) rfl fl_RX9_26 h56 dX9_countWays_56 ?_
      refine J_iload_n (pc := 59) (q := 1) rfl rfl dX9_countWays_59 ?_
      obtain ⟨a60, h60, g_8⟩ := bnd g_7
      refine J_ald0 (pc := 60) h60 dX9_countWays_60 ?_
      refine J_iadd (pc := 61) dX9_countWays_61 ?_
      refine J_dup2 (pc := 62) rfl rfl dX9_countWays_62 ?_
      obtain ⟨a63, h63, g_9⟩ := bnd g_8
      refine J_ald0 (pc := 63) h63 dX9_countWays_63 ?_
      refine J_iconst (pc := 64) (v := (1 : Int32)) (by decide) dX9_countWays_64 ?_
      refine J_iadd (pc := 65) dX9_countWays_65 ?_
      obtain ⟨M66, h66, g_10⟩ := bnd g_9
      refine J_ast0 (pc := 66) h66 dX9_countWays_66 ?_
      refine J_aload_n (pc := 67) (q := 0) rfl rfl dX9_countWays_67 ?_
      obtain ⟨a68, h68, g_11⟩ := bnd g_10
      refine J_getR (pc := 68) (i := 4) clF9 (by decide) rfl fl_RX9_19 h68 dX9_countWays_68 ?_
      refine J_iload_n (pc := 71) (q := 1) rfl rfl dX9_countWays_71 ?_
      obtain ⟨a72, h72, g_12⟩ := bnd g_11
      refine J_ald0 (pc := 72) h72 dX9_countWays_72 ?_
      refine J_iconst (pc := 73) (v := (5 : Int32)) (by decide) dX9_countWays_73 ?_
      refine J_iceq (pc := 74) (tgt := 112) (by decide) dX9_countWays_74 (fun hc74 => ?_) (fun hc74 => ?_)
      · rw [if_pos hc74] at g_12
        exact jX9_countWays_b112 hk24 g_12
      · rw [if_neg hc74] at g_12
        refine J_aload_n (pc := 77) (q := 0) rfl rfl dX9_countWays_77 ?_
        obtain ⟨a78, h78, g_13⟩ := bnd g_12
        refine J_getR (pc := 78) (i := 13) clF9 (by decide) rfl fl_RX9_49 h78 dX9_countWays_78 ?_
        refine J_bipush (pc := 81) (v := (64 : Int32)) (by decide) dX9_countWays_81 ?_
        refine J_aload_n (pc := 83) (q := 0) rfl rfl dX9_countWays_83 ?_
        obtain ⟨a84, h84, g_14⟩ := bnd g_13
        refine J_getR (pc := 84) (i := 4) clF9 (by decide) rfl fl_RX9_19 h84 dX9_countWays_84 ?_
        refine J_iload_n (pc := 87) (q := 1) rfl rfl dX9_countWays_87 ?_
        obtain ⟨a88, h88, g_15⟩ := bnd g_14
        refine J_ald0 (pc := 88) h88 dX9_countWays_88 ?_
        refine J_imul (pc := 89) dX9_countWays_89 ?_
        refine J_bipush (pc := 90) (v := (8 : Int32)) (by decide) dX9_countWays_90 ?_
        refine J_aload_n (pc := 92) (q := 0) rfl rfl dX9_countWays_92 ?_
        obtain ⟨a93, h93, g_16⟩ := bnd g_15
        refine J_getR (pc := 93) (i := 6) clF9 (by decide) rfl fl_RX9_26 h93 dX9_countWays_93 ?_
        refine J_iload_n (pc := 96) (q := 1) rfl rfl dX9_countWays_96 ?_
        obtain ⟨a97, h97, g_17⟩ := bnd g_16
        refine J_ald0 (pc := 97) h97 dX9_countWays_97 ?_
        refine J_imul (pc := 98) dX9_countWays_98 ?_
        refine J_iadd (pc := 99) dX9_countWays_99 ?_
        refine J_aload_n (pc := 100) (q := 0) rfl rfl dX9_countWays_100 ?_
        obtain ⟨a101, h101, g_18⟩ := bnd g_17
        refine J_getR (pc := 101) (i := 5) clF9 (by decide) rfl fl_RX9_23 h101 dX9_countWays_101 ?_
        refine J_iload_n (pc := 104) (q := 1) rfl rfl dX9_countWays_104 ?_
        obtain ⟨a105, h105, g_19⟩ := bnd g_18
        refine J_ald0 (pc := 105) h105 dX9_countWays_105 ?_
        refine J_iadd (pc := 106) dX9_countWays_106 ?_
        refine J_dup2 (pc := 107) rfl rfl dX9_countWays_107 ?_
        obtain ⟨a108, h108, g_20⟩ := bnd g_19
        refine J_ald0 (pc := 108) h108 dX9_countWays_108 ?_
        refine J_iconst (pc := 109) (v := (1 : Int32)) (by decide) dX9_countWays_109 ?_
        refine J_iadd (pc := 110) dX9_countWays_110 ?_
        obtain ⟨M111, h111, g_21⟩ := bnd g_20
        refine J_ast0 (pc := 111) h111 dX9_countWays_111 ?_
        exact jX9_countWays_b112 hk24 g_21
set_option maxHeartbeats 4000000 in
set_option maxRecDepth 100000 in
theorem jX9_countWays_L2 {ad : Nat → Nat} {ca : Nat → ClassId} {D : va_G} {FU d : Nat} {N : Mem}   {x0 : Nat}   : ∀ (F : Nat) (x1 : Int32) (M : Mem), fX9_countWays_L2 FU  x0 F x1 M = some N → J ad ca D cX9_countWays RX9 2 (d + 0) (Gt ad ca D none (QV N)) 2 [(0, vR (some x0)), (1, vI x1)] [] M := by
  intro F
  induction F with
  | zero =>
    intro x1 M h
    rw [fX9_countWays_L2] at h
    cases h
  | succ F hk2 =>
    intro x1 M h
    rw [fX9_countWays_L2] at h
    refine J_iload_n (pc := 2) (q := 1) rfl rfl dX9_countWays_2 ?_
    refine J_sipush (pc := 3) (v := (384 : Int32)) (by decide) dX9_countWays_3 ?_
    refine J_icge (pc := 6) (tgt := 22) (by decide) dX9_countWays_6 (fun hc6 => ?_) (fun hc6 => ?_)
    · rw [if_pos hc6] at h
      refine J_iconst (pc := 22) (v := (0 : Int32)) (by decide) dX9_countWays_22 ?_
      refine J_istore_n (pc := 23) rfl (by decide) (lv' := [(0, vR (some x0)), (1, vI (0 : Int32))]) rfl dX9_countWays_23 ?_
      exact jX9_countWays_L24  FU _ _ h
    · rw [if_neg hc6] at h
      refine J_aload_n (pc := 9) (q := 0) rfl rfl dX9_countWays_9 ?_
      obtain ⟨a10, h10, g_22⟩ := bnd h
      refine J_getR (pc := 10) (i := 13) clF9 (by decide) rfl fl_RX9_49 h10 dX9_countWays_10 ?_
      refine J_iload_n (pc := 13) (q := 1) rfl rfl dX9_countWays_13 ?_
      refine J_iconst (pc := 14) (v := (0 : Int32)) (by decide) dX9_countWays_14 ?_
      obtain ⟨M15, h15, g_23⟩ := bnd g_22
      refine J_ast0 (pc := 15) h15 dX9_countWays_15 ?_
      refine J_iinc (pc := 16) (q := 1) rfl (v := x1 + (1 : Int32)) rfl (by decide) (lv' := [(0, vR (some x0)), (1, vI (x1 + (1 : Int32)))]) rfl dX9_countWays_16 ?_
      refine J_goto (pc := 19) (tgt := 2) (by decide) dX9_countWays_19 ?_
      exact hk2 _ _ g_23
set_option maxHeartbeats 4000000 in
set_option maxRecDepth 100000 in
theorem tX9_countWays {ad : Nat → Nat} {ca : Nat → ClassId} {D : va_G} {FU d : Nat} {N : Mem}  {x0 : Nat} {M : Mem}  (h : fX9_countWays FU  x0 M = some N) : Ct ad ca D yX9_countWays cX9_countWays 2 none (d + 0) [vR (some x0)] M (QV N) := by
  refine Ct_of (by decide) (Nat.le_of_ble_eq_true rfl) ?_
  show J ad ca D cX9_countWays RX9 2 (d + 0) (Gt ad ca D none (QV N)) 0 [(0, vR (some x0))] [] M
  unfold fX9_countWays at h
  refine J_iconst (pc := 0) (v := (0 : Int32)) (by decide) dX9_countWays_0 ?_
  refine J_istore_n (pc := 1) rfl (by decide) (lv' := [(0, vR (some x0)), (1, vI (0 : Int32))]) rfl dX9_countWays_1 ?_
  exact jX9_countWays_L2  FU _ _ h
set_option maxHeartbeats 4000000 in
set_option maxRecDepth 100000 in
theorem jX9_isRight_L61 {ad : Nat → Nat} {ca : Nat → ClassId} {D : va_G} {FU d : Nat} {r : Int32} {N : Mem}  {k41 : Int32 → Mem → Option (Int32 × Mem)} {x0 : Nat} {x1 : Int32} {x2 : Int32} {x3 : Int32}  (hk41 : ∀ (y3 : Int32) (M : Mem), k41 y3 M = some (r, N) → J ad ca D cX9_isRight RX9 5 (d + 0) (Gt ad ca D (some .boolean) (QI r N)) 41 [(0, vR (some x0)), (1, vI x1), (2, vI x2), (3, vI y3)] [] M) : ∀ (F : Nat) (x4 : Int32) (M : Mem), fX9_isRight_L61 FU  k41 x0 x1 x2 x3 F x4 M = some (r, N) → J ad ca D cX9_isRight RX9 5 (d + 0) (Gt ad ca D (some .boolean) (QI r N)) 61 [(0, vR (some x0)), (1, vI x1), (2, vI x2), (3, vI x3), (4, vI x4)] [] M := by
  intro F
  induction F with
  | zero =>
    intro x4 M h
    rw [fX9_isRight_L61] at h
    cases h
  | succ F hk61 =>
    intro x4 M h
    rw [fX9_isRight_L61] at h
    refine J_iload (pc := 61) (q := 4) rfl dX9_isRight_61 ?_
    refine J_bipush (pc := 63) (v := (6 : Int32)) (by decide) dX9_isRight_63 ?_
    refine J_icge (pc := 65) (tgt := 160) (by decide) dX9_isRight_65 (fun hc65 => ?_) (fun hc65 => ?_)
    · rw [if_pos hc65] at h
      refine J_iinc (pc := 160) (q := 3) rfl (v := x3 + (1 : Int32)) rfl (by decide) (lv' := [(0, vR (some x0)), (1, vI x1), (2, vI x2), (4, vI x4), (3, vI (x3 + (1 : Int32)))]) rfl dX9_isRight_160 ?_
      refine J_goto (pc := 163) (tgt := 41) (by decide) dX9_isRight_163 ?_
      refine J_sub [0, 1, 2, 4] (lv' := [(0, vR (some x0)), (1, vI x1), (2, vI x2), (3, vI (x3 + (1 : Int32)))]) rfl ?_
      exact hk41 _ _ h
    · rw [if_neg hc65] at h
      refine J_aload_n (pc := 68) (q := 0) rfl rfl dX9_isRight_68 ?_
      obtain ⟨a69, h69, g_1⟩ := bnd h
      refine J_getR (pc := 69) (i := 13) clF9 (by decide) rfl fl_RX9_49 h69 dX9_isRight_69 ?_
      refine J_bipush (pc := 72) (v := (64 : Int32)) (by decide) dX9_isRight_72 ?_
      refine J_iload (pc := 74) (q := 4) rfl dX9_isRight_74 ?_
      refine J_imul (pc := 76) dX9_isRight_76 ?_
      refine J_bipush (pc := 77) (v := (8 : Int32)) (by decide) dX9_isRight_77 ?_
      refine J_iload_n (pc := 79) (q := 1) rfl rfl dX9_isRight_79 ?_
      refine J_imul (pc := 80) dX9_isRight_80 ?_
      refine J_iadd (pc := 81) dX9_isRight_81 ?_
      refine J_iload_n (pc := 82) (q := 3) rfl rfl dX9_isRight_82 ?_
      refine J_iadd (pc := 83) dX9_isRight_83 ?_
      obtain ⟨a84, h84, g_2⟩ := bnd g_1
      refine J_ald0 (pc := 84) h84 dX9_isRight_84 ?_
      refine J_aload_n (pc := 85) (q := 0) rfl rfl dX9_isRight_85 ?_
      obtain ⟨a86, h86, g_3⟩ := bnd g_2
      refine J_getR (pc := 86) (i := 13) clF9 (by decide) rfl fl_RX9_49 h86 dX9_isRight_86 ?_
      refine J_bipush (pc := 89) (v := (64 : Int32)) (by decide) dX9_isRight_89 ?_
      refine J_iload (pc := 91) (q := 4) rfl dX9_isRight_91 ?_
      refine J_imul (pc := 93) dX9_isRight_93 ?_
      refine J_bipush (pc := 94) (v := (8 : Int32)) (by decide) dX9_isRight_94 ?_
      refine J_iload_n (pc := 96) (q := 2) rfl rfl dX9_isRight_96 ?_
      refine J_imul (pc := 97) dX9_isRight_97 ?_
      refine J_iadd (pc := 98) dX9_isRight_98 ?_
      refine J_aload_n (pc := 99) (q := 0) rfl rfl dX9_isRight_99 ?_
      obtain ⟨a100, h100, g_4⟩ := bnd g_3
      refine J_getR (pc := 100) (i := 12) clF9 (by decide) rfl fl_RX9_46 h100 dX9_isRight_100 ?_
      refine J_iload_n (pc := 103) (q := 3) rfl rfl dX9_isRight_103 ?_
      obtain ⟨a104, h104, g_5⟩ := bnd g_4
      refine J_ald0 (pc := 104) h104 dX9_isRight_104 ?_
      refine J_iadd (pc := 105) dX9_isRight_105 ?_
      obtain ⟨a106, h106, g_6⟩ := bnd g_5
      refine J_ald0 (pc := 106) h106 dX9_isRight_106 ?_
      refine J_icne (pc := 107) (tgt := 152) (by decide) dX9_isRight_107 (fun hc107 => ?_) (fun hc107 => ?_)
      · rw [if_pos hc107] at g_6
        refine J_iconst (pc := 152) (v := (0 : Int32)) (by decide) dX9_isRight_152 ?_
        exact J_zret (pc := 153) (Or.inl rfl) (qi_of g_6) dX9_isRight_153
      · rw [if_neg hc107] at g_6
        refine J_aload_n (pc := 110) (q := 0) rfl rfl dX9_isRight_110 ?_
        obtain ⟨a111, h111, g_7⟩ := bnd g_6
        refine J_getR (pc := 111) (i := 13) clF9 (by decide) rfl fl_RX9_49 h111 dX9_isRight_111 ?_
        refine J_bipush (pc := 114) (v := (64 : Int32)) (by decide) dX9_isRight_114 ?_
        refine J_iload (pc := 116) (q := 4) rfl dX9_isRight_116 ?_
        refine J_imul (pc := 118) dX9_isRight_118 ?_
        refine J_bipush (pc := 119) (v := (8 : Int32)) (by decide) dX9_isRight_119 ?_
        refine J_iload_n (pc := 121) (q := 3) rfl rfl dX9_isRight_121 ?_
        refine J_imul (pc := 122) dX9_isRight_122 ?_
        refine J_iadd (pc := 123) dX9_isRight_123 ?_
        refine J_iload_n (pc := 124) (q := 1) rfl rfl dX9_isRight_124 ?_
        refine J_iadd (pc := 125) dX9_isRight_125 ?_
        obtain ⟨a126, h126, g_8⟩ := bnd g_7
        refine J_ald0 (pc := 126) h126 dX9_isRight_126 ?_
        refine J_aload_n (pc := 127) (q := 0) rfl rfl dX9_isRight_127 ?_
        obtain ⟨a128, h128, g_9⟩ := bnd g_8
        refine J_getR (pc := 128) (i := 13) clF9 (by decide) rfl fl_RX9_49 h128 dX9_isRight_128 ?_
        refine J_bipush (pc := 131) (v := (64 : Int32)) (by decide) dX9_isRight_131 ?_
        refine J_iload (pc := 133) (q := 4) rfl dX9_isRight_133 ?_
        refine J_imul (pc := 135) dX9_isRight_135 ?_
        refine J_bipush (pc := 136) (v := (8 : Int32)) (by decide) dX9_isRight_136 ?_
        refine J_aload_n (pc := 138) (q := 0) rfl rfl dX9_isRight_138 ?_
        obtain ⟨a139, h139, g_10⟩ := bnd g_9
        refine J_getR (pc := 139) (i := 12) clF9 (by decide) rfl fl_RX9_46 h139 dX9_isRight_139 ?_
        refine J_iload_n (pc := 142) (q := 3) rfl rfl dX9_isRight_142 ?_
        obtain ⟨a143, h143, g_11⟩ := bnd g_10
        refine J_ald0 (pc := 143) h143 dX9_isRight_143 ?_
        refine J_imul (pc := 144) dX9_isRight_144 ?_
        refine J_iadd (pc := 145) dX9_isRight_145 ?_
        refine J_iload_n (pc := 146) (q := 2) rfl rfl dX9_isRight_146 ?_
        refine J_iadd (pc := 147) dX9_isRight_147 ?_
        obtain ⟨a148, h148, g_12⟩ := bnd g_11
        refine J_ald0 (pc := 148) h148 dX9_isRight_148 ?_
        refine J_iceq (pc := 149) (tgt := 154) (by decide) dX9_isRight_149 (fun hc149 => ?_) (fun hc149 => ?_)
        · rw [if_pos hc149] at g_12
          refine J_iinc (pc := 154) (q := 4) rfl (v := x4 + (1 : Int32)) rfl (by decide) (lv' := [(0, vR (some x0)), (1, vI x1), (2, vI x2), (3, vI x3), (4, vI (x4 + (1 : Int32)))]) rfl dX9_isRight_154 ?_
          refine J_goto (pc := 157) (tgt := 61) (by decide) dX9_isRight_157 ?_
          exact hk61 _ _ g_12
        · rw [if_neg hc149] at g_12
          refine J_iconst (pc := 152) (v := (0 : Int32)) (by decide) dX9_isRight_152 ?_
          exact J_zret (pc := 153) (Or.inl rfl) (qi_of g_12) dX9_isRight_153
set_option maxHeartbeats 4000000 in
set_option maxRecDepth 100000 in
theorem jX9_isRight_L41 {ad : Nat → Nat} {ca : Nat → ClassId} {D : va_G} {FU d : Nat} {r : Int32} {N : Mem}   {x0 : Nat} {x1 : Int32} {x2 : Int32}   : ∀ (F : Nat) (x3 : Int32) (M : Mem), fX9_isRight_L41 FU  x0 x1 x2 F x3 M = some (r, N) → J ad ca D cX9_isRight RX9 5 (d + 0) (Gt ad ca D (some .boolean) (QI r N)) 41 [(0, vR (some x0)), (1, vI x1), (2, vI x2), (3, vI x3)] [] M := by
  intro F
  induction F with
  | zero =>
    intro x3 M h
    rw [fX9_isRight_L41] at h
    cases h
  | succ F hk41 =>
    intro x3 M h
    rw [fX9_isRight_L41] at h
    refine J_iload_n (pc := 41) (q := 3) rfl rfl dX9_isRight_41 ?_
    refine J_iload_n (pc := 42) (q := 1) rfl rfl dX9_isRight_42 ?_
    refine J_icge (pc := 43) (tgt := 166) (by decide) dX9_isRight_43 (fun hc43 => ?_) (fun hc43 => ?_)
    · rw [if_pos hc43] at h
      refine J_iconst (pc := 166) (v := (1 : Int32)) (by decide) dX9_isRight_166 ?_
      exact J_zret (pc := 167) (Or.inr rfl) (qi_of h) dX9_isRight_167
    · rw [if_neg hc43] at h
      refine J_aload_n (pc := 46) (q := 0) rfl rfl dX9_isRight_46 ?_
      obtain ⟨a47, h47, g_13⟩ := bnd h
      refine J_getR (pc := 47) (i := 12) clF9 (by decide) rfl fl_RX9_46 h47 dX9_isRight_47 ?_
      refine J_iload_n (pc := 50) (q := 3) rfl rfl dX9_isRight_50 ?_
      obtain ⟨a51, h51, g_14⟩ := bnd g_13
      refine J_ald0 (pc := 51) h51 dX9_isRight_51 ?_
      refine J_iload_n (pc := 52) (q := 2) rfl rfl dX9_isRight_52 ?_
      refine J_icne (pc := 53) (tgt := 58) (by decide) dX9_isRight_53 (fun hc53 => ?_) (fun hc53 => ?_)
      · rw [if_pos hc53] at g_14
        refine J_iconst (pc := 58) (v := (0 : Int32)) (by decide) dX9_isRight_58 ?_
        refine J_istore (pc := 59) (by decide) (lv' := [(0, vR (some x0)), (1, vI x1), (2, vI x2), (3, vI x3), (4, vI (0 : Int32))]) rfl dX9_isRight_59 ?_
        exact jX9_isRight_L61 hk41 FU _ _ g_14
      · rw [if_neg hc53] at g_14
        refine J_iconst (pc := 56) (v := (0 : Int32)) (by decide) dX9_isRight_56 ?_
        exact J_zret (pc := 57) (Or.inl rfl) (qi_of g_14) dX9_isRight_57
set_option maxHeartbeats 4000000 in
set_option maxRecDepth 100000 in
theorem tX9_isRight {ad : Nat → Nat} {ca : Nat → ClassId} {D : va_G} {FU d : Nat} {r : Int32} {N : Mem}  {x0 : Nat} {x1 : Int32} {M : Mem}  (h : fX9_isRight FU  x0 x1 M = some (r, N)) : Ct ad ca D yX9_isRight cX9_isRight 5 (some .boolean) (d + 0) [vR (some x0), vI x1] M (QI r N) := by
  refine Ct_of (by decide) (Nat.le_of_ble_eq_true rfl) ?_
  show J ad ca D cX9_isRight RX9 5 (d + 0) (Gt ad ca D (some .boolean) (QI r N)) 0 [(0, vR (some x0)), (1, vI x1)] [] M
  unfold fX9_isRight at h
  refine J_aload_n (pc := 0) (q := 0) rfl rfl dX9_isRight_0 ?_
  obtain ⟨a1, h1, g_15⟩ := bnd h
  refine J_getR (pc := 1) (i := 12) clF9 (by decide) rfl fl_RX9_46 h1 dX9_isRight_1 ?_
  refine J_iload_n (pc := 4) (q := 1) rfl rfl dX9_isRight_4 ?_
  obtain ⟨a5, h5, g_16⟩ := bnd g_15
  refine J_ald0 (pc := 5) h5 dX9_isRight_5 ?_
  refine J_istore_n (pc := 6) rfl (by decide) (lv' := [(0, vR (some x0)), (1, vI x1), (2, vI a5)]) rfl dX9_isRight_6 ?_
  refine J_aload_n (pc := 7) (q := 0) rfl rfl dX9_isRight_7 ?_
  obtain ⟨a8, h8, g_17⟩ := bnd g_16
  refine J_getR (pc := 8) (i := 7) clF9 (by decide) rfl fl_RX9_29 h8 dX9_isRight_8 ?_
  refine J_iload_n (pc := 11) (q := 1) rfl rfl dX9_isRight_11 ?_
  obtain ⟨a12, h12, g_18⟩ := bnd g_17
  refine J_ald1 (pc := 12) h12 dX9_isRight_12 ?_
  refine J_aload_n (pc := 13) (q := 0) rfl rfl dX9_isRight_13 ?_
  obtain ⟨a14, h14, g_19⟩ := bnd g_18
  refine J_getR (pc := 14) (i := 7) clF9 (by decide) rfl fl_RX9_29 h14 dX9_isRight_14 ?_
  refine J_iload_n (pc := 17) (q := 2) rfl rfl dX9_isRight_17 ?_
  obtain ⟨a18, h18, g_20⟩ := bnd g_19
  refine J_ald1 (pc := 18) h18 dX9_isRight_18 ?_
  refine J_icne (pc := 19) (tgt := 37) (by decide) dX9_isRight_19 (fun hc19 => ?_) (fun hc19 => ?_)
  · rw [if_pos hc19] at g_20
    refine J_iconst (pc := 37) (v := (0 : Int32)) (by decide) dX9_isRight_37 ?_
    exact J_zret (pc := 38) (Or.inl rfl) (qi_of g_20) dX9_isRight_38
  · rw [if_neg hc19] at g_20
    refine J_aload_n (pc := 22) (q := 0) rfl rfl dX9_isRight_22 ?_
    obtain ⟨a23, h23, g_21⟩ := bnd g_20
    refine J_getR (pc := 23) (i := 8) clF9 (by decide) rfl fl_RX9_33 h23 dX9_isRight_23 ?_
    refine J_iload_n (pc := 26) (q := 1) rfl rfl dX9_isRight_26 ?_
    obtain ⟨a27, h27, g_22⟩ := bnd g_21
    refine J_ald1 (pc := 27) h27 dX9_isRight_27 ?_
    refine J_aload_n (pc := 28) (q := 0) rfl rfl dX9_isRight_28 ?_
    obtain ⟨a29, h29, g_23⟩ := bnd g_22
    refine J_getR (pc := 29) (i := 8) clF9 (by decide) rfl fl_RX9_33 h29 dX9_isRight_29 ?_
    refine J_iload_n (pc := 32) (q := 2) rfl rfl dX9_isRight_32 ?_
    obtain ⟨a33, h33, g_24⟩ := bnd g_23
    refine J_ald1 (pc := 33) h33 dX9_isRight_33 ?_
    refine J_iceq (pc := 34) (tgt := 39) (by decide) dX9_isRight_34 (fun hc34 => ?_) (fun hc34 => ?_)
    · rw [if_pos hc34] at g_24
      refine J_iconst (pc := 39) (v := (0 : Int32)) (by decide) dX9_isRight_39 ?_
      refine J_istore_n (pc := 40) rfl (by decide) (lv' := [(0, vR (some x0)), (1, vI x1), (2, vI a5), (3, vI (0 : Int32))]) rfl dX9_isRight_40 ?_
      exact jX9_isRight_L41  FU _ _ g_24
    · rw [if_neg hc34] at g_24
      refine J_iconst (pc := 37) (v := (0 : Int32)) (by decide) dX9_isRight_37 ?_
      exact J_zret (pc := 38) (Or.inl rfl) (qi_of g_24) dX9_isRight_38
set_option maxHeartbeats 4000000 in
set_option maxRecDepth 100000 in
theorem jX9_nextTurning_L26 {ad : Nat → Nat} {ca : Nat → ClassId} {D : va_G} {FU d : Nat} {r : Int32} {N : Mem}   {x0 : Nat}   : ∀ (F : Nat) (x2 : Int32) (M : Mem), fX9_nextTurning_L26 FU  x0 F x2 M = some (r, N) → J ad ca D cX9_nextTurning RX9 3 (d + 1) (Gt ad ca D (some .boolean) (QI r N)) 26 [(0, vR (some x0)), (2, vI x2)] [] M := by
  intro F
  induction F with
  | zero =>
    intro x2 M h
    rw [fX9_nextTurning_L26] at h
    cases h
  | succ F hk26 =>
    intro x2 M h
    rw [fX9_nextTurning_L26] at h
    refine J_iload_n (pc := 26) (q := 1) rfl rfl dX9_nextTurning_26 ?_
    refine J_iflt (pc := 27) (tgt := 95) (by decide) dX9_nextTurning_27 (fun hc27 => ?_) (fun hc27 => ?_)
    · rw [if_pos hc27] at h
      refine J_iconst (pc := 95) (v := (0 : Int32)) (by decide) dX9_nextTurning_95 ?_
      exact J_zret (pc := 96) (Or.inl rfl) (qi_of h) dX9_nextTurning_96
    · rw [if_neg hc27] at h
      refine J_aload_n (pc := 30) (q := 0) rfl rfl dX9_nextTurning_30 ?_
      obtain ⟨a31, h31, g_1⟩ := bnd h
      refine J_getR (pc := 31) (i := 12) clF9 (by decide) rfl fl_RX9_46 h31 dX9_nextTurning_31 ?_
      refine J_iload_n (pc := 34) (q := 1) rfl rfl dX9_nextTurning_34 ?_
      refine J_dup2 (pc := 35) rfl rfl dX9_nextTurning_35 ?_
      obtain ⟨a36, h36, g_2⟩ := bnd g_1
      refine J_ald0 (pc := 36) h36 dX9_nextTurning_36 ?_
      refine J_iconst (pc := 37) (v := (1 : Int32)) (by decide) dX9_nextTurning_37 ?_
      refine J_iadd (pc := 38) dX9_nextTurning_38 ?_
      obtain ⟨M39, h39, g_3⟩ := bnd g_2
      refine J_ast0 (pc := 39) h39 dX9_nextTurning_39 ?_
      refine J_aload_n (pc := 40) (q := 0) rfl rfl dX9_nextTurning_40 ?_
      obtain ⟨a41, h41, g_4⟩ := bnd g_3
      refine J_getR (pc := 41) (i := 12) clF9 (by decide) rfl fl_RX9_46 h41 dX9_nextTurning_41 ?_
      refine J_iload_n (pc := 44) (q := 1) rfl rfl dX9_nextTurning_44 ?_
      obtain ⟨a45, h45, g_5⟩ := bnd g_4
      refine J_ald0 (pc := 45) h45 dX9_nextTurning_45 ?_
      refine J_aload_n (pc := 46) (q := 0) rfl rfl dX9_nextTurning_46 ?_
      obtain ⟨a47, h47, g_6⟩ := bnd g_5
      refine J_getI (pc := 47) (i := 0) clF9 (by decide) rfl fl_RX9_149 h47 dX9_nextTurning_47 ?_
      refine J_iclt (pc := 50) (tgt := 59) (by decide) dX9_nextTurning_50 (fun hc50 => ?_) (fun hc50 => ?_)
      · rw [if_pos hc50] at g_6
        refine J_aload_n (pc := 59) (q := 0) rfl rfl dX9_nextTurning_59 ?_
        refine J_iload_n (pc := 60) (q := 1) rfl rfl dX9_nextTurning_60 ?_
        obtain ⟨b61, hb61, g_7⟩ := bnd g_6
        obtain ⟨r61, M61, h61, g_8⟩ := bnd2 g_7
        refine J_callVI (pc := 61) (as := [vI x2]) (tX9_isRight (d := d)  h61) cf_X9_isRight cv_X9_isRight clF9 hb61 ml_RX9_260 (by omega) (Nat.le_of_ble_eq_true rfl) dX9_nextTurning_61 ?_
        refine J_ifne (pc := 64) (tgt := 70) (by decide) dX9_nextTurning_64 (fun hc64 => ?_) (fun hc64 => ?_)
        · rw [if_pos hc64] at g_8
          refine J_iload_n (pc := 70) (q := 1) rfl rfl dX9_nextTurning_70 ?_
          refine J_aload_n (pc := 71) (q := 0) rfl rfl dX9_nextTurning_71 ?_
          obtain ⟨a72, h72, g_9⟩ := bnd g_8
          refine J_getI (pc := 72) (i := 0) clF9 (by decide) rfl fl_RX9_149 h72 dX9_nextTurning_72 ?_
          refine J_iconst (pc := 75) (v := (1 : Int32)) (by decide) dX9_nextTurning_75 ?_
          refine J_isub (pc := 76) dX9_nextTurning_76 ?_
          refine J_icne (pc := 77) (tgt := 82) (by decide) dX9_nextTurning_77 (fun hc77 => ?_) (fun hc77 => ?_)
          · rw [if_pos hc77] at g_9
            refine J_iinc (pc := 82) (q := 1) rfl (v := x2 + (1 : Int32)) rfl (by decide) (lv' := [(0, vR (some x0)), (2, vI (x2 + (1 : Int32)))]) rfl dX9_nextTurning_82 ?_
            refine J_aload_n (pc := 85) (q := 0) rfl rfl dX9_nextTurning_85 ?_
            obtain ⟨a86, h86, g_10⟩ := bnd g_9
            refine J_getR (pc := 86) (i := 12) clF9 (by decide) rfl fl_RX9_46 h86 dX9_nextTurning_86 ?_
            refine J_iload_n (pc := 89) (q := 1) rfl rfl dX9_nextTurning_89 ?_
            refine J_iconst (pc := 90) (v := (-1 : Int32)) (by decide) dX9_nextTurning_90 ?_
            obtain ⟨M91, h91, g_11⟩ := bnd g_10
            refine J_ast0 (pc := 91) h91 dX9_nextTurning_91 ?_
            refine J_goto (pc := 92) (tgt := 26) (by decide) dX9_nextTurning_92 ?_
            exact hk26 _ _ g_11
          · rw [if_neg hc77] at g_9
            refine J_iconst (pc := 80) (v := (1 : Int32)) (by decide) dX9_nextTurning_80 ?_
            exact J_zret (pc := 81) (Or.inr rfl) (qi_of g_9) dX9_nextTurning_81
        · rw [if_neg hc64] at g_8
          refine J_goto (pc := 67) (tgt := 26) (by decide) dX9_nextTurning_67 ?_
          exact hk26 _ _ g_8
      · rw [if_neg hc50] at g_6
        refine J_iinc (pc := 53) (q := 1) rfl (v := x2 + (-1 : Int32)) (congrArg (fun z => x2 + z) (show Int32.ofInt (-1) = (-1 : Int32) by decide)) (by decide) (lv' := [(0, vR (some x0)), (2, vI (x2 + (-1 : Int32)))]) rfl dX9_nextTurning_53 ?_
        refine J_goto (pc := 56) (tgt := 26) (by decide) dX9_nextTurning_56 ?_
        exact hk26 _ _ g_6
set_option maxHeartbeats 4000000 in
set_option maxRecDepth 100000 in
theorem jX9_nextTurning_b14 {ad : Nat → Nat} {ca : Nat → ClassId} {D : va_G} {FU d : Nat} {r : Int32} {N : Mem}   {x0 : Nat} {x1 : Int32} {s0 : Int32} {M : Mem}   (h : fX9_nextTurning_b14 FU  x0 x1 s0 M = some (r, N)) : J ad ca D cX9_nextTurning RX9 3 (d + 1) (Gt ad ca D (some .boolean) (QI r N)) 14 [(0, vR (some x0)), (1, vI x1)] [vI s0] M := by
  unfold fX9_nextTurning_b14 at h
  refine J_istore_n (pc := 14) rfl (by decide) (lv' := [(0, vR (some x0)), (1, vI x1), (2, vI s0)]) rfl dX9_nextTurning_14 ?_
  refine J_iload_n (pc := 15) (q := 1) rfl rfl dX9_nextTurning_15 ?_
  refine J_ifeq (pc := 16) (tgt := 26) (by decide) dX9_nextTurning_16 (fun hc16 => ?_) (fun hc16 => ?_)
  · rw [if_pos hc16] at h
    refine J_sub [0, 2] (lv' := [(0, vR (some x0)), (2, vI s0)]) rfl ?_
    exact jX9_nextTurning_L26  FU _ _ h
  · rw [if_neg hc16] at h
    refine J_aload_n (pc := 19) (q := 0) rfl rfl dX9_nextTurning_19 ?_
    obtain ⟨a20, h20, g_12⟩ := bnd h
    refine J_getR (pc := 20) (i := 12) clF9 (by decide) rfl fl_RX9_46 h20 dX9_nextTurning_20 ?_
    refine J_iconst (pc := 23) (v := (0 : Int32)) (by decide) dX9_nextTurning_23 ?_
    refine J_iconst (pc := 24) (v := (-1 : Int32)) (by decide) dX9_nextTurning_24 ?_
    obtain ⟨M25, h25, g_13⟩ := bnd g_12
    refine J_ast0 (pc := 25) h25 dX9_nextTurning_25 ?_
    refine J_sub [0, 2] (lv' := [(0, vR (some x0)), (2, vI s0)]) rfl ?_
    exact jX9_nextTurning_L26  FU _ _ g_13
set_option maxHeartbeats 4000000 in
set_option maxRecDepth 100000 in
theorem tX9_nextTurning {ad : Nat → Nat} {ca : Nat → ClassId} {D : va_G} {FU d : Nat} {r : Int32} {N : Mem}  {x0 : Nat} {x1 : Int32} {M : Mem}  (h : fX9_nextTurning FU  x0 x1 M = some (r, N)) : Ct ad ca D yX9_nextTurning cX9_nextTurning 3 (some .boolean) (d + 1) [vR (some x0), vI x1] M (QI r N) := by
  refine Ct_of (by decide) (Nat.le_of_ble_eq_true rfl) ?_
  show J ad ca D cX9_nextTurning RX9 3 (d + 1) (Gt ad ca D (some .boolean) (QI r N)) 0 [(0, vR (some x0)), (1, vI x1)] [] M
  unfold fX9_nextTurning at h
  refine J_iload_n (pc := 0) (q := 1) rfl rfl dX9_nextTurning_0 ?_
  refine J_ifeq (pc := 1) (tgt := 8) (by decide) dX9_nextTurning_1 (fun hc1 => ?_) (fun hc1 => ?_)
  · rw [if_pos hc1] at h
    refine J_aload_n (pc := 8) (q := 0) rfl rfl dX9_nextTurning_8 ?_
    obtain ⟨a9, h9, g_14⟩ := bnd h
    refine J_getI (pc := 9) (i := 0) clF9 (by decide) rfl fl_RX9_149 h9 dX9_nextTurning_9 ?_
    refine J_iconst (pc := 12) (v := (1 : Int32)) (by decide) dX9_nextTurning_12 ?_
    refine J_isub (pc := 13) dX9_nextTurning_13 ?_
    exact jX9_nextTurning_b14  g_14
  · rw [if_neg hc1] at h
    refine J_iconst (pc := 4) (v := (0 : Int32)) (by decide) dX9_nextTurning_4 ?_
    refine J_goto (pc := 5) (tgt := 14) (by decide) dX9_nextTurning_5 ?_
    exact jX9_nextTurning_b14  h
set_option maxHeartbeats 4000000 in
set_option maxRecDepth 100000 in
theorem jX9_turnings_L12 {ad : Nat → Nat} {ca : Nat → ClassId} {D : va_G} {FU d : Nat} {r : Int32} {N : Mem}   {x0 : Nat}   : ∀ (F : Nat) (x1 : Int32) (x2 : Int32) (M : Mem), fX9_turnings_L12 FU  x0 F x1 x2 M = some (r, N) → J ad ca D cX9_turnings RX9 3 (d + 2) (Gt ad ca D (some .int) (QI r N)) 12 [(0, vR (some x0)), (1, vI x1), (2, vI x2)] [] M := by
  intro F
  induction F with
  | zero =>
    intro x1 x2 M h
    rw [fX9_turnings_L12] at h
    cases h
  | succ F hk12 =>
    intro x1 x2 M h
    rw [fX9_turnings_L12] at h
    refine J_iload_n (pc := 12) (q := 2) rfl rfl dX9_turnings_12 ?_
    refine J_ifeq (pc := 13) (tgt := 28) (by decide) dX9_turnings_13 (fun hc13 => ?_) (fun hc13 => ?_)
    · rw [if_pos hc13] at h
      refine J_iload_n (pc := 28) (q := 1) rfl rfl dX9_turnings_28 ?_
      exact J_iret (pc := 29) (qi_of h) dX9_turnings_29
    · rw [if_neg hc13] at h
      refine J_iinc (pc := 16) (q := 1) rfl (v := x1 + (1 : Int32)) rfl (by decide) (lv' := [(0, vR (some x0)), (2, vI x2), (1, vI (x1 + (1 : Int32)))]) rfl dX9_turnings_16 ?_
      refine J_aload_n (pc := 19) (q := 0) rfl rfl dX9_turnings_19 ?_
      refine J_iconst (pc := 20) (v := (0 : Int32)) (by decide) dX9_turnings_20 ?_
      obtain ⟨b21, hb21, g_1⟩ := bnd h
      obtain ⟨r21, M21, h21, g_2⟩ := bnd2 g_1
      refine J_callVI (pc := 21) (as := [vI (0 : Int32)]) (tX9_nextTurning (d := d)  h21) cf_X9_nextTurning cv_X9_nextTurning clF9 hb21 ml_RX9_266 (by omega) (Nat.le_of_ble_eq_true rfl) dX9_turnings_21 ?_
      refine J_istore_n (pc := 24) rfl (by decide) (lv' := [(0, vR (some x0)), (1, vI (x1 + (1 : Int32))), (2, vI r21)]) rfl dX9_turnings_24 ?_
      refine J_goto (pc := 25) (tgt := 12) (by decide) dX9_turnings_25 ?_
      exact hk12 _ _ _ g_2
set_option maxHeartbeats 4000000 in
set_option maxRecDepth 100000 in
theorem tX9_turnings {ad : Nat → Nat} {ca : Nat → ClassId} {D : va_G} {FU d : Nat} {r : Int32} {N : Mem}  {x0 : Nat} {M : Mem}  (h : fX9_turnings FU  x0 M = some (r, N)) : Ct ad ca D yX9_turnings cX9_turnings 3 (some .int) (d + 2) [vR (some x0)] M (QI r N) := by
  refine Ct_of (by decide) (Nat.le_of_ble_eq_true rfl) ?_
  show J ad ca D cX9_turnings RX9 3 (d + 2) (Gt ad ca D (some .int) (QI r N)) 0 [(0, vR (some x0))] [] M
  unfold fX9_turnings at h
  refine J_aload_n (pc := 0) (q := 0) rfl rfl dX9_turnings_0 ?_
  obtain ⟨b1, hb1, g_3⟩ := bnd h
  obtain ⟨M1, h1, g_4⟩ := bnd g_3
  refine J_callVV (pc := 1) (as := []) (tX9_countWays (d := d)  h1) cf_X9_countWays cv_X9_countWays clF9 hb1 ml_RX9_263 (by omega) (Nat.le_of_ble_eq_true rfl) dX9_turnings_1 ?_
  refine J_iconst (pc := 4) (v := (0 : Int32)) (by decide) dX9_turnings_4 ?_
  refine J_istore_n (pc := 5) rfl (by decide) (lv' := [(0, vR (some x0)), (1, vI (0 : Int32))]) rfl dX9_turnings_5 ?_
  refine J_aload_n (pc := 6) (q := 0) rfl rfl dX9_turnings_6 ?_
  refine J_iconst (pc := 7) (v := (1 : Int32)) (by decide) dX9_turnings_7 ?_
  obtain ⟨b8, hb8, g_5⟩ := bnd g_4
  obtain ⟨r8, M8, h8, g_6⟩ := bnd2 g_5
  refine J_callVI (pc := 8) (as := [vI (1 : Int32)]) (tX9_nextTurning (d := d)  h8) cf_X9_nextTurning cv_X9_nextTurning clF9 hb8 ml_RX9_266 (by omega) (Nat.le_of_ble_eq_true rfl) dX9_turnings_8 ?_
  refine J_istore_n (pc := 11) rfl (by decide) (lv' := [(0, vR (some x0)), (1, vI (0 : Int32)), (2, vI r8)]) rfl dX9_turnings_11 ?_
  exact jX9_turnings_L12  FU _ _ _ g_6
set_option maxHeartbeats 4000000 in
set_option maxRecDepth 100000 in
theorem jX9_alike_b136 {ad : Nat → Nat} {ca : Nat → ClassId} {D : va_G} {FU d : Nat} {r : Int32} {N : Mem}  {k59 : Int32 → Int32 → Mem → Option (Int32 × Mem)} {x0 : Nat} {x1 : Int32} {x3 : Int32} {x4 : Int32} {s0 : Int32} {M : Mem}  (hk59 : ∀ (y5 : Int32) (y6 : Int32) (M : Mem), k59 y5 y6 M = some (r, N) → J ad ca D cX9_alike RX9 10 (d + 2) (Gt ad ca D (some .int) (QI r N)) 59 [(0, vR (some x0)), (1, vI x1), (3, vI x3), (4, vI x4), (5, vI y5), (6, vI y6)] [] M) (h : fX9_alike_b136 FU  k59 x0 x1 x3 x4 s0 M = some (r, N)) : J ad ca D cX9_alike RX9 10 (d + 2) (Gt ad ca D (some .int) (QI r N)) 136 [(0, vR (some x0)), (1, vI x1), (3, vI x3), (4, vI x4)] [vI s0] M := by
  unfold fX9_alike_b136 at h
  refine J_istore (pc := 136) (by decide) (lv' := [(0, vR (some x0)), (1, vI x1), (3, vI x3), (4, vI x4), (5, vI s0)]) rfl dX9_alike_136 ?_
  refine J_aload_n (pc := 138) (q := 0) rfl rfl dX9_alike_138 ?_
  refine J_iconst (pc := 139) (v := (0 : Int32)) (by decide) dX9_alike_139 ?_
  obtain ⟨b140, hb140, g_1⟩ := bnd h
  obtain ⟨r140, M140, h140, g_2⟩ := bnd2 g_1
  refine J_callVI (pc := 140) (as := [vI (0 : Int32)]) (tX9_nextTurning (d := d)  h140) cf_X9_nextTurning cv_X9_nextTurning clF9 hb140 ml_RX9_266 (by omega) (Nat.le_of_ble_eq_true rfl) dX9_alike_140 ?_
  refine J_istore (pc := 143) (by decide) (lv' := [(0, vR (some x0)), (1, vI x1), (3, vI x3), (4, vI x4), (5, vI s0), (6, vI r140)]) rfl dX9_alike_143 ?_
  refine J_goto (pc := 145) (tgt := 59) (by decide) dX9_alike_145 ?_
  exact hk59 _ _ _ g_2
set_option maxHeartbeats 4000000 in
set_option maxRecDepth 100000 in
theorem jX9_alike_b113 {ad : Nat → Nat} {ca : Nat → ClassId} {D : va_G} {FU d : Nat} {r : Int32} {N : Mem}  {k59 : Int32 → Int32 → Mem → Option (Int32 × Mem)} {x0 : Nat} {x1 : Int32} {x3 : Int32} {x4 : Int32} {x5 : Int32} {s0 : Int32} {M : Mem}  (hk59 : ∀ (y5 : Int32) (y6 : Int32) (M : Mem), k59 y5 y6 M = some (r, N) → J ad ca D cX9_alike RX9 10 (d + 2) (Gt ad ca D (some .int) (QI r N)) 59 [(0, vR (some x0)), (1, vI x1), (3, vI x3), (4, vI x4), (5, vI y5), (6, vI y6)] [] M) (h : fX9_alike_b113 FU  k59 x0 x1 x3 x4 x5 s0 M = some (r, N)) : J ad ca D cX9_alike RX9 10 (d + 2) (Gt ad ca D (some .int) (QI r N)) 113 [(0, vR (some x0)), (1, vI x1), (3, vI x3), (4, vI x4), (5, vI x5)] [vI s0] M := by
  unfold fX9_alike_b113 at h
  refine J_aload_n (pc := 113) (q := 0) rfl rfl dX9_alike_113 ?_
  obtain ⟨a114, h114, g_3⟩ := bnd h
  refine J_getR (pc := 114) (i := 12) clF9 (by decide) rfl fl_RX9_46 h114 dX9_alike_114 ?_
  refine J_iload_n (pc := 117) (q := 2) rfl rfl dX9_alike_117 ?_
  obtain ⟨a118, h118, g_4⟩ := bnd g_3
  refine J_ald0 (pc := 118) h118 dX9_alike_118 ?_
  refine J_iadd (pc := 119) dX9_alike_119 ?_
  refine J_istore (pc := 120) (by decide) (lv' := [(0, vR (some x0)), (1, vI x1), (3, vI x3), (4, vI x4), (5, vI x5), (9, vI (s0 + a118))]) rfl dX9_alike_120 ?_
  refine J_iload (pc := 122) (q := 5) rfl dX9_alike_122 ?_
  refine J_iload (pc := 124) (q := 4) rfl dX9_alike_124 ?_
  refine J_icge (pc := 126) (tgt := 134) (by decide) dX9_alike_126 (fun hc126 => ?_) (fun hc126 => ?_)
  · rw [if_pos hc126] at g_4
    refine J_iload (pc := 134) (q := 4) rfl dX9_alike_134 ?_
    refine J_sub [0, 1, 2, 3] (lv' := [(0, vR (some x0)), (1, vI x1), (3, vI x3), (4, vI x4)]) rfl ?_
    exact jX9_alike_b136 hk59 g_4
  · rw [if_neg hc126] at g_4
    refine J_iload (pc := 129) (q := 5) rfl dX9_alike_129 ?_
    refine J_goto (pc := 131) (tgt := 136) (by decide) dX9_alike_131 ?_
    refine J_sub [0, 1, 2, 3] (lv' := [(0, vR (some x0)), (1, vI x1), (3, vI x3), (4, vI x4)]) rfl ?_
    exact jX9_alike_b136 hk59 g_4
set_option maxHeartbeats 4000000 in
set_option maxRecDepth 100000 in
theorem jX9_alike_L59 {ad : Nat → Nat} {ca : Nat → ClassId} {D : va_G} {FU d : Nat} {r : Int32} {N : Mem}   {x0 : Nat} {x1 : Int32} {x3 : Int32} {x4 : Int32}   : ∀ (F : Nat) (x5 : Int32) (x6 : Int32) (M : Mem), fX9_alike_L59 FU  x0 x1 x3 x4 F x5 x6 M = some (r, N) → J ad ca D cX9_alike RX9 10 (d + 2) (Gt ad ca D (some .int) (QI r N)) 59 [(0, vR (some x0)), (1, vI x1), (3, vI x3), (4, vI x4), (5, vI x5), (6, vI x6)] [] M := by
  intro F
  induction F with
  | zero =>
    intro x5 x6 M h
    rw [fX9_alike_L59] at h
    cases h
  | succ F hk59 =>
    intro x5 x6 M h
    rw [fX9_alike_L59] at h
    refine J_iload (pc := 59) (q := 5) rfl dX9_alike_59 ?_
    refine J_ifeq (pc := 61) (tgt := 148) (by decide) dX9_alike_61 (fun hc61 => ?_) (fun hc61 => ?_)
    · rw [if_pos hc61] at h
      refine J_iload (pc := 148) (q := 4) rfl dX9_alike_148 ?_
      exact J_iret (pc := 150) (qi_of h) dX9_alike_150
    · rw [if_neg hc61] at h
      refine J_aload_n (pc := 64) (q := 0) rfl rfl dX9_alike_64 ?_
      obtain ⟨a65, h65, g_5⟩ := bnd h
      refine J_getR (pc := 65) (i := 12) clF9 (by decide) rfl fl_RX9_46 h65 dX9_alike_65 ?_
      refine J_iload_n (pc := 68) (q := 1) rfl rfl dX9_alike_68 ?_
      obtain ⟨a69, h69, g_6⟩ := bnd g_5
      refine J_ald0 (pc := 69) h69 dX9_alike_69 ?_
      refine J_istore (pc := 70) (by decide) (lv' := [(0, vR (some x0)), (1, vI x1), (3, vI x3), (4, vI x4), (5, vI x5), (6, vI x6), (7, vI a69)]) rfl dX9_alike_70 ?_
      refine J_aload_n (pc := 72) (q := 0) rfl rfl dX9_alike_72 ?_
      obtain ⟨a73, h73, g_7⟩ := bnd g_6
      refine J_getR (pc := 73) (i := 12) clF9 (by decide) rfl fl_RX9_46 h73 dX9_alike_73 ?_
      refine J_iload (pc := 76) (q := 3) rfl dX9_alike_76 ?_
      obtain ⟨a78, h78, g_8⟩ := bnd g_7
      refine J_ald0 (pc := 78) h78 dX9_alike_78 ?_
      refine J_istore (pc := 79) (by decide) (lv' := [(0, vR (some x0)), (1, vI x1), (3, vI x3), (4, vI x4), (5, vI x5), (6, vI x6), (7, vI a69), (8, vI a78)]) rfl dX9_alike_79 ?_
      refine J_iload (pc := 81) (q := 6) rfl dX9_alike_81 ?_
      refine J_iload (pc := 83) (q := 7) rfl dX9_alike_83 ?_
      refine J_icge (pc := 85) (tgt := 102) (by decide) dX9_alike_85 (fun hc85 => ?_) (fun hc85 => ?_)
      · rw [if_pos hc85] at g_8
        refine J_bipush (pc := 102) (v := (100 : Int32)) (by decide) dX9_alike_102 ?_
        refine J_iload (pc := 104) (q := 7) rfl dX9_alike_104 ?_
        refine J_imul (pc := 106) dX9_alike_106 ?_
        refine J_bipush (pc := 107) (v := (10 : Int32)) (by decide) dX9_alike_107 ?_
        refine J_iload (pc := 109) (q := 6) rfl dX9_alike_109 ?_
        refine J_imul (pc := 111) dX9_alike_111 ?_
        refine J_iadd (pc := 112) dX9_alike_112 ?_
        refine J_sub [0, 1, 2, 3, 4] (lv' := [(0, vR (some x0)), (1, vI x1), (3, vI x3), (4, vI x4), (5, vI x5)]) rfl ?_
        exact jX9_alike_b113 hk59 g_8
      · rw [if_neg hc85] at g_8
        refine J_bipush (pc := 88) (v := (100 : Int32)) (by decide) dX9_alike_88 ?_
        refine J_iload (pc := 90) (q := 6) rfl dX9_alike_90 ?_
        refine J_imul (pc := 92) dX9_alike_92 ?_
        refine J_bipush (pc := 93) (v := (10 : Int32)) (by decide) dX9_alike_93 ?_
        refine J_iload (pc := 95) (q := 7) rfl dX9_alike_95 ?_
        refine J_imul (pc := 97) dX9_alike_97 ?_
        refine J_iadd (pc := 98) dX9_alike_98 ?_
        refine J_goto (pc := 99) (tgt := 113) (by decide) dX9_alike_99 ?_
        refine J_sub [0, 1, 2, 3, 4] (lv' := [(0, vR (some x0)), (1, vI x1), (3, vI x3), (4, vI x4), (5, vI x5)]) rfl ?_
        exact jX9_alike_b113 hk59 g_8
set_option maxHeartbeats 4000000 in
set_option maxRecDepth 100000 in
theorem jX9_alike_b13 {ad : Nat → Nat} {ca : Nat → ClassId} {D : va_G} {FU d : Nat} {r : Int32} {N : Mem}   {x0 : Nat} {x1 : Int32} {x3 : Int32} {s0 : Int32} {M : Mem}   (h : fX9_alike_b13 FU  x0 x1 x3 s0 M = some (r, N)) : J ad ca D cX9_alike RX9 10 (d + 2) (Gt ad ca D (some .int) (QI r N)) 13 [(0, vR (some x0)), (1, vI x1), (3, vI x3)] [vI s0] M := by
  unfold fX9_alike_b13 at h
  refine J_istore (pc := 13) (by decide) (lv' := [(0, vR (some x0)), (1, vI x1), (3, vI x3), (4, vI s0)]) rfl dX9_alike_13 ?_
  refine J_aload_n (pc := 15) (q := 0) rfl rfl dX9_alike_15 ?_
  refine J_iload_n (pc := 16) (q := 1) rfl rfl dX9_alike_16 ?_
  obtain ⟨b17, hb17, g_9⟩ := bnd h
  obtain ⟨r17, M17, h17, g_10⟩ := bnd2 g_9
  refine J_callVI (pc := 17) (as := [vI x1]) (tX9_isPlace (d := d)  h17) cf_X9_isPlace cv_X9_isPlace clF9 hb17 ml_RX9_163 (by omega) (Nat.le_of_ble_eq_true rfl) dX9_alike_17 ?_
  refine J_ifeq (pc := 20) (tgt := 40) (by decide) dX9_alike_20 (fun hc20 => ?_) (fun hc20 => ?_)
  · rw [if_pos hc20] at g_10
    refine J_bipush (pc := 40) (v := (-2 : Int32)) (by decide) dX9_alike_40 ?_
    exact J_iret (pc := 42) (qi_of g_10) dX9_alike_42
  · rw [if_neg hc20] at g_10
    refine J_aload_n (pc := 23) (q := 0) rfl rfl dX9_alike_23 ?_
    refine J_iload (pc := 24) (q := 3) rfl dX9_alike_24 ?_
    obtain ⟨b26, hb26, g_11⟩ := bnd g_10
    obtain ⟨r26, M26, h26, g_12⟩ := bnd2 g_11
    refine J_callVI (pc := 26) (as := [vI s0]) (tX9_isPlace (d := d)  h26) cf_X9_isPlace cv_X9_isPlace clF9 hb26 ml_RX9_163 (by omega) (Nat.le_of_ble_eq_true rfl) dX9_alike_26 ?_
    refine J_ifeq (pc := 29) (tgt := 40) (by decide) dX9_alike_29 (fun hc29 => ?_) (fun hc29 => ?_)
    · rw [if_pos hc29] at g_12
      refine J_bipush (pc := 40) (v := (-2 : Int32)) (by decide) dX9_alike_40 ?_
      exact J_iret (pc := 42) (qi_of g_12) dX9_alike_42
    · rw [if_neg hc29] at g_12
      refine J_aload_n (pc := 32) (q := 0) rfl rfl dX9_alike_32 ?_
      refine J_iload_n (pc := 33) (q := 2) rfl rfl dX9_alike_33 ?_
      obtain ⟨b34, hb34, g_13⟩ := bnd g_12
      obtain ⟨r34, M34, h34, g_14⟩ := bnd2 g_13
      refine J_callVI (pc := 34) (as := [vI x3]) (tX9_isPlace (d := d)  h34) cf_X9_isPlace cv_X9_isPlace clF9 hb34 ml_RX9_163 (by omega) (Nat.le_of_ble_eq_true rfl) dX9_alike_34 ?_
      refine J_ifne (pc := 37) (tgt := 43) (by decide) dX9_alike_37 (fun hc37 => ?_) (fun hc37 => ?_)
      · rw [if_pos hc37] at g_14
        refine J_aload_n (pc := 43) (q := 0) rfl rfl dX9_alike_43 ?_
        obtain ⟨b44, hb44, g_15⟩ := bnd g_14
        obtain ⟨M44, h44, g_16⟩ := bnd g_15
        refine J_callVV (pc := 44) (as := []) (tX9_countWays (d := d)  h44) cf_X9_countWays cv_X9_countWays clF9 hb44 ml_RX9_263 (by omega) (Nat.le_of_ble_eq_true rfl) dX9_alike_44 ?_
        refine J_sipush (pc := 47) (v := (1000 : Int32)) (by decide) dX9_alike_47 ?_
        refine J_istore (pc := 50) (by decide) (lv' := [(0, vR (some x0)), (1, vI x1), (3, vI x3), (4, vI s0), (5, vI (1000 : Int32))]) rfl dX9_alike_50 ?_
        refine J_aload_n (pc := 52) (q := 0) rfl rfl dX9_alike_52 ?_
        refine J_iconst (pc := 53) (v := (1 : Int32)) (by decide) dX9_alike_53 ?_
        obtain ⟨b54, hb54, g_17⟩ := bnd g_16
        obtain ⟨r54, M54, h54, g_18⟩ := bnd2 g_17
        refine J_callVI (pc := 54) (as := [vI (1 : Int32)]) (tX9_nextTurning (d := d)  h54) cf_X9_nextTurning cv_X9_nextTurning clF9 hb54 ml_RX9_266 (by omega) (Nat.le_of_ble_eq_true rfl) dX9_alike_54 ?_
        refine J_istore (pc := 57) (by decide) (lv' := [(0, vR (some x0)), (1, vI x1), (3, vI x3), (4, vI s0), (5, vI (1000 : Int32)), (6, vI r54)]) rfl dX9_alike_57 ?_
        exact jX9_alike_L59  FU _ _ _ g_18
      · rw [if_neg hc37] at g_14
        refine J_bipush (pc := 40) (v := (-2 : Int32)) (by decide) dX9_alike_40 ?_
        exact J_iret (pc := 42) (qi_of g_14) dX9_alike_42
set_option maxHeartbeats 4000000 in
set_option maxRecDepth 100000 in
theorem tX9_alike {ad : Nat → Nat} {ca : Nat → ClassId} {D : va_G} {FU d : Nat} {r : Int32} {N : Mem}  {x0 : Nat} {x1 : Int32} {x2 : Int32} {x3 : Int32} {M : Mem}  (h : fX9_alike FU  x0 x1 x2 x3 M = some (r, N)) : Ct ad ca D yX9_alike cX9_alike 10 (some .int) (d + 2) [vR (some x0), vI x1, vI x2, vI x3] M (QI r N) := by
  refine Ct_of (by decide) (Nat.le_of_ble_eq_true rfl) ?_
  show J ad ca D cX9_alike RX9 10 (d + 2) (Gt ad ca D (some .int) (QI r N)) 0 [(0, vR (some x0)), (1, vI x1), (2, vI x2), (3, vI x3)] [] M
  unfold fX9_alike at h
  refine J_aload_n (pc := 0) (q := 0) rfl rfl dX9_alike_0 ?_
  obtain ⟨a1, h1, g_19⟩ := bnd h
  refine J_getI (pc := 1) (i := 2) clF9 (by decide) rfl fl_RX9_13 h1 dX9_alike_1 ?_
  refine J_iconst (pc := 4) (v := (1 : Int32)) (by decide) dX9_alike_4 ?_
  refine J_icne (pc := 5) (tgt := 12) (by decide) dX9_alike_5 (fun hc5 => ?_) (fun hc5 => ?_)
  · rw [if_pos hc5] at g_19
    refine J_iload_n (pc := 12) (q := 2) rfl rfl dX9_alike_12 ?_
    refine J_sub [0, 1, 3] (lv' := [(0, vR (some x0)), (1, vI x1), (3, vI x3)]) rfl ?_
    exact jX9_alike_b13  g_19
  · rw [if_neg hc5] at g_19
    refine J_iload_n (pc := 8) (q := 1) rfl rfl dX9_alike_8 ?_
    refine J_goto (pc := 9) (tgt := 13) (by decide) dX9_alike_9 ?_
    refine J_sub [0, 1, 3] (lv' := [(0, vR (some x0)), (1, vI x1), (3, vI x3)]) rfl ?_
    exact jX9_alike_b13  g_19
set_option maxHeartbeats 4000000 in
set_option maxRecDepth 100000 in
theorem tX9_unfair {ad : Nat → Nat} {ca : Nat → ClassId} {D : va_G} {FU d : Nat} {r : Int32} {N : Mem}  {x0 : Nat} {M : Mem}  (h : fX9_unfair FU  x0 M = some (r, N)) : Ct ad ca D yX9_unfair cX9_unfair 2 (some .int) (d + 9) [vR (some x0)] M (QI r N) := by
  refine Ct_of (by decide) (Nat.le_of_ble_eq_true rfl) ?_
  show J ad ca D cX9_unfair RX9 2 (d + 9) (Gt ad ca D (some .int) (QI r N)) 0 [(0, vR (some x0))] [] M
  unfold fX9_unfair at h
  refine J_aload_n (pc := 0) (q := 0) rfl rfl dX9_unfair_0 ?_
  refine J_iconst (pc := 1) (v := (0 : Int32)) (by decide) dX9_unfair_1 ?_
  obtain ⟨M2, h2, g_1⟩ := bnd h
  refine J_putZ (pc := 2) (i := 9) clF9 (by decide) rfl fl_RX9_36 rfl rfl (Or.inl rfl) h2 dX9_unfair_2 ?_
  refine J_iconst (pc := 5) (v := (2 : Int32)) (by decide) dX9_unfair_5 ?_
  refine J_aload_n (pc := 6) (q := 0) rfl rfl dX9_unfair_6 ?_
  refine J_iconst (pc := 7) (v := (0 : Int32)) (by decide) dX9_unfair_7 ?_
  obtain ⟨b8, hb8, g_2⟩ := bnd g_1
  obtain ⟨r8, M8, h8, g_3⟩ := bnd2 g_2
  refine J_callVI (pc := 8) (as := [vI (0 : Int32)]) (tX9_solvedOf (d := d)  h8) cf_X9_solvedOf cv_X9_solvedOf clF9 hb8 ml_RX9_254 (by omega) (Nat.le_of_ble_eq_true rfl) dX9_unfair_8 ?_
  refine J_imul (pc := 11) dX9_unfair_11 ?_
  refine J_aload_n (pc := 12) (q := 0) rfl rfl dX9_unfair_12 ?_
  refine J_iconst (pc := 13) (v := (1 : Int32)) (by decide) dX9_unfair_13 ?_
  obtain ⟨b14, hb14, g_4⟩ := bnd g_3
  obtain ⟨r14, M14, h14, g_5⟩ := bnd2 g_4
  refine J_callVI (pc := 14) (as := [vI (1 : Int32)]) (tX9_solvedOf (d := d)  h14) cf_X9_solvedOf cv_X9_solvedOf clF9 hb14 ml_RX9_254 (by omega) (Nat.le_of_ble_eq_true rfl) dX9_unfair_14 ?_
  refine J_isub (pc := 17) dX9_unfair_17 ?_
  refine J_istore_n (pc := 18) rfl (by decide) (lv' := [(0, vR (some x0)), (1, vI (((2 : Int32) * r8) - r14))]) rfl dX9_unfair_18 ?_
  refine J_aload_n (pc := 19) (q := 0) rfl rfl dX9_unfair_19 ?_
  refine J_iconst (pc := 20) (v := (0 : Int32)) (by decide) dX9_unfair_20 ?_
  obtain ⟨M21, h21, g_6⟩ := bnd g_5
  refine J_putZ (pc := 21) (i := 9) clF9 (by decide) rfl fl_RX9_36 rfl rfl (Or.inl rfl) h21 dX9_unfair_21 ?_
  refine J_iload_n (pc := 24) (q := 1) rfl rfl dX9_unfair_24 ?_
  refine J_ifge (pc := 25) (tgt := 33) (by decide) dX9_unfair_25 (fun hc25 => ?_) (fun hc25 => ?_)
  · rw [if_pos hc25] at g_6
    refine J_iload_n (pc := 33) (q := 1) rfl rfl dX9_unfair_33 ?_
    exact J_iret (pc := 34) (qi_of g_6) dX9_unfair_34
  · rw [if_neg hc25] at g_6
    refine J_iload_n (pc := 28) (q := 1) rfl rfl dX9_unfair_28 ?_
    refine J_ineg (pc := 29) dX9_unfair_29 ?_
    refine J_goto (pc := 30) (tgt := 34) (by decide) dX9_unfair_30 ?_
    exact J_iret (pc := 34) (qi_of g_6) dX9_unfair_34
set_option maxHeartbeats 4000000 in
set_option maxRecDepth 100000 in
theorem jX9_shift_b32 {ad : Nat → Nat} {ca : Nat → ClassId} {D : va_G} {FU d : Nat} {N : Mem}  {k2 : Int32 → Mem → Option (Mem)} {x0 : Nat} {x1 : Int32} {x2 : Int32} {x3 : Int32} {s0 : Int32} {M : Mem}  (hk2 : ∀ (y3 : Int32) (M : Mem), k2 y3 M = some N → J ad ca D cX9_shift RX9 5 (d + 0) (Gt ad ca D none (QV N)) 2 [(0, vR (some x0)), (1, vI x1), (2, vI x2), (3, vI y3)] [] M) (h : fX9_shift_b32 FU  k2 x0 x1 x2 x3 s0 M = some N) : J ad ca D cX9_shift RX9 5 (d + 0) (Gt ad ca D none (QV N)) 32 [(0, vR (some x0)), (1, vI x1), (2, vI x2), (3, vI x3)] [vI s0] M := by
  unfold fX9_shift_b32 at h
  refine J_istore (pc := 32) (by decide) (lv' := [(0, vR (some x0)), (1, vI x1), (2, vI x2), (3, vI x3), (4, vI s0)]) rfl dX9_shift_32 ?_
  refine J_aload_n (pc := 34) (q := 0) rfl rfl dX9_shift_34 ?_
  obtain ⟨a35, h35, g_1⟩ := bnd h
  refine J_getR (pc := 35) (i := 4) clF9 (by decide) rfl fl_RX9_19 h35 dX9_shift_35 ?_
  refine J_iload (pc := 38) (q := 4) rfl dX9_shift_38 ?_
  refine J_aload_n (pc := 40) (q := 0) rfl rfl dX9_shift_40 ?_
  obtain ⟨a41, h41, g_2⟩ := bnd g_1
  refine J_getR (pc := 41) (i := 4) clF9 (by decide) rfl fl_RX9_19 h41 dX9_shift_41 ?_
  refine J_iload (pc := 44) (q := 4) rfl dX9_shift_44 ?_
  refine J_iload_n (pc := 46) (q := 2) rfl rfl dX9_shift_46 ?_
  refine J_iadd (pc := 47) dX9_shift_47 ?_
  obtain ⟨a48, h48, g_3⟩ := bnd g_2
  refine J_ald0 (pc := 48) h48 dX9_shift_48 ?_
  obtain ⟨M49, h49, g_4⟩ := bnd g_3
  refine J_ast0 (pc := 49) h49 dX9_shift_49 ?_
  refine J_aload_n (pc := 50) (q := 0) rfl rfl dX9_shift_50 ?_
  obtain ⟨a51, h51, g_5⟩ := bnd g_4
  refine J_getR (pc := 51) (i := 5) clF9 (by decide) rfl fl_RX9_23 h51 dX9_shift_51 ?_
  refine J_iload (pc := 54) (q := 4) rfl dX9_shift_54 ?_
  refine J_aload_n (pc := 56) (q := 0) rfl rfl dX9_shift_56 ?_
  obtain ⟨a57, h57, g_6⟩ := bnd g_5
  refine J_getR (pc := 57) (i := 5) clF9 (by decide) rfl fl_RX9_23 h57 dX9_shift_57 ?_
  refine J_iload (pc := 60) (q := 4) rfl dX9_shift_60 ?_
  refine J_iload_n (pc := 62) (q := 2) rfl rfl dX9_shift_62 ?_
  refine J_iadd (pc := 63) dX9_shift_63 ?_
  obtain ⟨a64, h64, g_7⟩ := bnd g_6
  refine J_ald0 (pc := 64) h64 dX9_shift_64 ?_
  obtain ⟨M65, h65, g_8⟩ := bnd g_7
  refine J_ast0 (pc := 65) h65 dX9_shift_65 ?_
  refine J_aload_n (pc := 66) (q := 0) rfl rfl dX9_shift_66 ?_
  obtain ⟨a67, h67, g_9⟩ := bnd g_8
  refine J_getR (pc := 67) (i := 6) clF9 (by decide) rfl fl_RX9_26 h67 dX9_shift_67 ?_
  refine J_iload (pc := 70) (q := 4) rfl dX9_shift_70 ?_
  refine J_aload_n (pc := 72) (q := 0) rfl rfl dX9_shift_72 ?_
  obtain ⟨a73, h73, g_10⟩ := bnd g_9
  refine J_getR (pc := 73) (i := 6) clF9 (by decide) rfl fl_RX9_26 h73 dX9_shift_73 ?_
  refine J_iload (pc := 76) (q := 4) rfl dX9_shift_76 ?_
  refine J_iload_n (pc := 78) (q := 2) rfl rfl dX9_shift_78 ?_
  refine J_iadd (pc := 79) dX9_shift_79 ?_
  obtain ⟨a80, h80, g_11⟩ := bnd g_10
  refine J_ald0 (pc := 80) h80 dX9_shift_80 ?_
  obtain ⟨M81, h81, g_12⟩ := bnd g_11
  refine J_ast0 (pc := 81) h81 dX9_shift_81 ?_
  refine J_iinc (pc := 82) (q := 3) rfl (v := x3 + (1 : Int32)) rfl (by decide) (lv' := [(0, vR (some x0)), (1, vI x1), (2, vI x2), (4, vI s0), (3, vI (x3 + (1 : Int32)))]) rfl dX9_shift_82 ?_
  refine J_goto (pc := 85) (tgt := 2) (by decide) dX9_shift_85 ?_
  refine J_sub [0, 1, 2, 4] (lv' := [(0, vR (some x0)), (1, vI x1), (2, vI x2), (3, vI (x3 + (1 : Int32)))]) rfl ?_
  exact hk2 _ _ g_12
set_option maxHeartbeats 4000000 in
set_option maxRecDepth 100000 in
theorem jX9_shift_L2 {ad : Nat → Nat} {ca : Nat → ClassId} {D : va_G} {FU d : Nat} {N : Mem}   {x0 : Nat} {x1 : Int32} {x2 : Int32}   : ∀ (F : Nat) (x3 : Int32) (M : Mem), fX9_shift_L2 FU  x0 x1 x2 F x3 M = some N → J ad ca D cX9_shift RX9 5 (d + 0) (Gt ad ca D none (QV N)) 2 [(0, vR (some x0)), (1, vI x1), (2, vI x2), (3, vI x3)] [] M := by
  intro F
  induction F with
  | zero =>
    intro x3 M h
    rw [fX9_shift_L2] at h
    cases h
  | succ F hk2 =>
    intro x3 M h
    rw [fX9_shift_L2] at h
    refine J_iload_n (pc := 2) (q := 3) rfl rfl dX9_shift_2 ?_
    refine J_aload_n (pc := 3) (q := 0) rfl rfl dX9_shift_3 ?_
    obtain ⟨a4, h4, g_13⟩ := bnd h
    refine J_getI (pc := 4) (i := 1) clF9 (by decide) rfl fl_RX9_7 h4 dX9_shift_4 ?_
    refine J_iconst (pc := 7) (v := (1 : Int32)) (by decide) dX9_shift_7 ?_
    refine J_isub (pc := 8) dX9_shift_8 ?_
    refine J_iload_n (pc := 9) (q := 1) rfl rfl dX9_shift_9 ?_
    refine J_isub (pc := 10) dX9_shift_10 ?_
    refine J_icge (pc := 11) (tgt := 88) (by decide) dX9_shift_11 (fun hc11 => ?_) (fun hc11 => ?_)
    · rw [if_pos hc11] at g_13
      exact J_vret (pc := 88) (qv_of g_13) dX9_shift_88
    · rw [if_neg hc11] at g_13
      refine J_iload_n (pc := 14) (q := 2) rfl rfl dX9_shift_14 ?_
      refine J_ifle (pc := 15) (tgt := 24) (by decide) dX9_shift_15 (fun hc15 => ?_) (fun hc15 => ?_)
      · rw [if_pos hc15] at g_13
        refine J_aload_n (pc := 24) (q := 0) rfl rfl dX9_shift_24 ?_
        obtain ⟨a25, h25, g_14⟩ := bnd g_13
        refine J_getI (pc := 25) (i := 1) clF9 (by decide) rfl fl_RX9_7 h25 dX9_shift_25 ?_
        refine J_iconst (pc := 28) (v := (1 : Int32)) (by decide) dX9_shift_28 ?_
        refine J_isub (pc := 29) dX9_shift_29 ?_
        refine J_iload_n (pc := 30) (q := 3) rfl rfl dX9_shift_30 ?_
        refine J_isub (pc := 31) dX9_shift_31 ?_
        exact jX9_shift_b32 hk2 g_14
      · rw [if_neg hc15] at g_13
        refine J_iload_n (pc := 18) (q := 1) rfl rfl dX9_shift_18 ?_
        refine J_iload_n (pc := 19) (q := 3) rfl rfl dX9_shift_19 ?_
        refine J_iadd (pc := 20) dX9_shift_20 ?_
        refine J_goto (pc := 21) (tgt := 32) (by decide) dX9_shift_21 ?_
        exact jX9_shift_b32 hk2 g_13
set_option maxHeartbeats 4000000 in
set_option maxRecDepth 100000 in
theorem tX9_shift {ad : Nat → Nat} {ca : Nat → ClassId} {D : va_G} {FU d : Nat} {N : Mem}  {x0 : Nat} {x1 : Int32} {x2 : Int32} {M : Mem}  (h : fX9_shift FU  x0 x1 x2 M = some N) : Ct ad ca D yX9_shift cX9_shift 5 none (d + 0) [vR (some x0), vI x1, vI x2] M (QV N) := by
  refine Ct_of (by decide) (Nat.le_of_ble_eq_true rfl) ?_
  show J ad ca D cX9_shift RX9 5 (d + 0) (Gt ad ca D none (QV N)) 0 [(0, vR (some x0)), (1, vI x1), (2, vI x2)] [] M
  unfold fX9_shift at h
  refine J_iconst (pc := 0) (v := (0 : Int32)) (by decide) dX9_shift_0 ?_
  refine J_istore_n (pc := 1) rfl (by decide) (lv' := [(0, vR (some x0)), (1, vI x1), (2, vI x2), (3, vI (0 : Int32))]) rfl dX9_shift_1 ?_
  exact jX9_shift_L2  FU _ _ h
set_option maxHeartbeats 4000000 in
set_option maxRecDepth 100000 in
theorem tX9_withoutWay {ad : Nat → Nat} {ca : Nat → ClassId} {D : va_G} {FU d : Nat} {r : Int32} {N : Mem}  {x0 : Nat} {x1 : Int32} {M : Mem}  (h : fX9_withoutWay FU  x0 x1 M = some (r, N)) : Ct ad ca D yX9_withoutWay cX9_withoutWay 6 (some .int) (d + 10) [vR (some x0), vI x1] M (QI r N) := by
  refine Ct_of (by decide) (Nat.le_of_ble_eq_true rfl) ?_
  show J ad ca D cX9_withoutWay RX9 6 (d + 10) (Gt ad ca D (some .int) (QI r N)) 0 [(0, vR (some x0)), (1, vI x1)] [] M
  unfold fX9_withoutWay at h
  refine J_aload_n (pc := 0) (q := 0) rfl rfl dX9_withoutWay_0 ?_
  obtain ⟨a1, h1, g_1⟩ := bnd h
  refine J_getR (pc := 1) (i := 4) clF9 (by decide) rfl fl_RX9_19 h1 dX9_withoutWay_1 ?_
  refine J_iload_n (pc := 4) (q := 1) rfl rfl dX9_withoutWay_4 ?_
  obtain ⟨a5, h5, g_2⟩ := bnd g_1
  refine J_ald0 (pc := 5) h5 dX9_withoutWay_5 ?_
  refine J_istore_n (pc := 6) rfl (by decide) (lv' := [(0, vR (some x0)), (1, vI x1), (2, vI a5)]) rfl dX9_withoutWay_6 ?_
  refine J_aload_n (pc := 7) (q := 0) rfl rfl dX9_withoutWay_7 ?_
  obtain ⟨a8, h8, g_3⟩ := bnd g_2
  refine J_getR (pc := 8) (i := 5) clF9 (by decide) rfl fl_RX9_23 h8 dX9_withoutWay_8 ?_
  refine J_iload_n (pc := 11) (q := 1) rfl rfl dX9_withoutWay_11 ?_
  obtain ⟨a12, h12, g_4⟩ := bnd g_3
  refine J_ald0 (pc := 12) h12 dX9_withoutWay_12 ?_
  refine J_istore_n (pc := 13) rfl (by decide) (lv' := [(0, vR (some x0)), (1, vI x1), (2, vI a5), (3, vI a12)]) rfl dX9_withoutWay_13 ?_
  refine J_aload_n (pc := 14) (q := 0) rfl rfl dX9_withoutWay_14 ?_
  obtain ⟨a15, h15, g_5⟩ := bnd g_4
  refine J_getR (pc := 15) (i := 6) clF9 (by decide) rfl fl_RX9_26 h15 dX9_withoutWay_15 ?_
  refine J_iload_n (pc := 18) (q := 1) rfl rfl dX9_withoutWay_18 ?_
  obtain ⟨a19, h19, g_6⟩ := bnd g_5
  refine J_ald0 (pc := 19) h19 dX9_withoutWay_19 ?_
  refine J_istore (pc := 20) (by decide) (lv' := [(0, vR (some x0)), (1, vI x1), (2, vI a5), (3, vI a12), (4, vI a19)]) rfl dX9_withoutWay_20 ?_
  refine J_aload_n (pc := 22) (q := 0) rfl rfl dX9_withoutWay_22 ?_
  refine J_iload_n (pc := 23) (q := 1) rfl rfl dX9_withoutWay_23 ?_
  refine J_iconst (pc := 24) (v := (1 : Int32)) (by decide) dX9_withoutWay_24 ?_
  obtain ⟨b25, hb25, g_7⟩ := bnd g_6
  obtain ⟨M25, h25, g_8⟩ := bnd g_7
  refine J_callVV (pc := 25) (as := [vI x1, vI (1 : Int32)]) (tX9_shift (d := d)  h25) cf_X9_shift cv_X9_shift clF9 hb25 ml_RX9_270 (by omega) (Nat.le_of_ble_eq_true rfl) dX9_withoutWay_25 ?_
  refine J_aload_n (pc := 28) (q := 0) rfl rfl dX9_withoutWay_28 ?_
  refine J_dup (pc := 29) rfl dX9_withoutWay_29 ?_
  obtain ⟨a30, h30, g_9⟩ := bnd g_8
  refine J_getI (pc := 30) (i := 1) clF9 (by decide) rfl fl_RX9_7 h30 dX9_withoutWay_30 ?_
  refine J_iconst (pc := 33) (v := (1 : Int32)) (by decide) dX9_withoutWay_33 ?_
  refine J_isub (pc := 34) dX9_withoutWay_34 ?_
  obtain ⟨M35, h35, g_10⟩ := bnd g_9
  refine J_putI (pc := 35) (i := 1) clF9 (by decide) rfl fl_RX9_7 rfl rfl h35 dX9_withoutWay_35 ?_
  refine J_aload_n (pc := 38) (q := 0) rfl rfl dX9_withoutWay_38 ?_
  obtain ⟨b39, hb39, g_11⟩ := bnd g_10
  obtain ⟨r39, M39, h39, g_12⟩ := bnd2 g_11
  refine J_callVI (pc := 39) (as := []) (tX9_unfair (d := d)  h39) cf_X9_unfair cv_X9_unfair clF9 hb39 ml_RX9_274 (by omega) (Nat.le_of_ble_eq_true rfl) dX9_withoutWay_39 ?_
  refine J_istore (pc := 42) (by decide) (lv' := [(0, vR (some x0)), (1, vI x1), (2, vI a5), (3, vI a12), (4, vI a19), (5, vI r39)]) rfl dX9_withoutWay_42 ?_
  refine J_aload_n (pc := 44) (q := 0) rfl rfl dX9_withoutWay_44 ?_
  refine J_dup (pc := 45) rfl dX9_withoutWay_45 ?_
  obtain ⟨a46, h46, g_13⟩ := bnd g_12
  refine J_getI (pc := 46) (i := 1) clF9 (by decide) rfl fl_RX9_7 h46 dX9_withoutWay_46 ?_
  refine J_iconst (pc := 49) (v := (1 : Int32)) (by decide) dX9_withoutWay_49 ?_
  refine J_iadd (pc := 50) dX9_withoutWay_50 ?_
  obtain ⟨M51, h51, g_14⟩ := bnd g_13
  refine J_putI (pc := 51) (i := 1) clF9 (by decide) rfl fl_RX9_7 rfl rfl h51 dX9_withoutWay_51 ?_
  refine J_aload_n (pc := 54) (q := 0) rfl rfl dX9_withoutWay_54 ?_
  refine J_iload_n (pc := 55) (q := 1) rfl rfl dX9_withoutWay_55 ?_
  refine J_iconst (pc := 56) (v := (-1 : Int32)) (by decide) dX9_withoutWay_56 ?_
  obtain ⟨b57, hb57, g_15⟩ := bnd g_14
  obtain ⟨M57, h57, g_16⟩ := bnd g_15
  refine J_callVV (pc := 57) (as := [vI x1, vI (-1 : Int32)]) (tX9_shift (d := d)  h57) cf_X9_shift cv_X9_shift clF9 hb57 ml_RX9_270 (by omega) (Nat.le_of_ble_eq_true rfl) dX9_withoutWay_57 ?_
  refine J_aload_n (pc := 60) (q := 0) rfl rfl dX9_withoutWay_60 ?_
  obtain ⟨a61, h61, g_17⟩ := bnd g_16
  refine J_getR (pc := 61) (i := 4) clF9 (by decide) rfl fl_RX9_19 h61 dX9_withoutWay_61 ?_
  refine J_iload_n (pc := 64) (q := 1) rfl rfl dX9_withoutWay_64 ?_
  refine J_iload_n (pc := 65) (q := 2) rfl rfl dX9_withoutWay_65 ?_
  obtain ⟨M66, h66, g_18⟩ := bnd g_17
  refine J_ast0 (pc := 66) h66 dX9_withoutWay_66 ?_
  refine J_aload_n (pc := 67) (q := 0) rfl rfl dX9_withoutWay_67 ?_
  obtain ⟨a68, h68, g_19⟩ := bnd g_18
  refine J_getR (pc := 68) (i := 5) clF9 (by decide) rfl fl_RX9_23 h68 dX9_withoutWay_68 ?_
  refine J_iload_n (pc := 71) (q := 1) rfl rfl dX9_withoutWay_71 ?_
  refine J_iload_n (pc := 72) (q := 3) rfl rfl dX9_withoutWay_72 ?_
  obtain ⟨M73, h73, g_20⟩ := bnd g_19
  refine J_ast0 (pc := 73) h73 dX9_withoutWay_73 ?_
  refine J_aload_n (pc := 74) (q := 0) rfl rfl dX9_withoutWay_74 ?_
  obtain ⟨a75, h75, g_21⟩ := bnd g_20
  refine J_getR (pc := 75) (i := 6) clF9 (by decide) rfl fl_RX9_26 h75 dX9_withoutWay_75 ?_
  refine J_iload_n (pc := 78) (q := 1) rfl rfl dX9_withoutWay_78 ?_
  refine J_iload (pc := 79) (q := 4) rfl dX9_withoutWay_79 ?_
  obtain ⟨M81, h81, g_22⟩ := bnd g_21
  refine J_ast0 (pc := 81) h81 dX9_withoutWay_81 ?_
  refine J_iload (pc := 82) (q := 5) rfl dX9_withoutWay_82 ?_
  exact J_iret (pc := 84) (qi_of g_22) dX9_withoutWay_84
set_option maxHeartbeats 4000000 in
set_option maxRecDepth 100000 in
theorem jX9_fairer_b52 {ad : Nat → Nat} {ca : Nat → ClassId} {D : va_G} {FU d : Nat} {r : Int32} {N : Mem}  {k16 : Int32 → Int32 → Int32 → Mem → Option (Int32 × Mem)} {x0 : Nat} {x1 : Int32} {x2 : Int32} {x3 : Int32} {M : Mem}  (hk16 : ∀ (y1 : Int32) (y2 : Int32) (y3 : Int32) (M : Mem), k16 y1 y2 y3 M = some (r, N) → J ad ca D cX9_fairer RX9 6 (d + 11) (Gt ad ca D (some .int) (QI r N)) 16 [(0, vR (some x0)), (1, vI y1), (2, vI y2), (3, vI y3)] [] M) (h : fX9_fairer_b52 FU  k16 x0 x1 x2 x3 M = some (r, N)) : J ad ca D cX9_fairer RX9 6 (d + 11) (Gt ad ca D (some .int) (QI r N)) 52 [(0, vR (some x0)), (1, vI x1), (2, vI x2), (3, vI x3)] [] M := by
  unfold fX9_fairer_b52 at h
  refine J_iinc (pc := 52) (q := 3) rfl (v := x3 + (1 : Int32)) rfl (by decide) (lv' := [(0, vR (some x0)), (1, vI x1), (2, vI x2), (3, vI (x3 + (1 : Int32)))]) rfl dX9_fairer_52 ?_
  refine J_goto (pc := 55) (tgt := 16) (by decide) dX9_fairer_55 ?_
  exact hk16 _ _ _ _ h
set_option maxHeartbeats 4000000 in
set_option maxRecDepth 100000 in
theorem jX9_fairer_b44 {ad : Nat → Nat} {ca : Nat → ClassId} {D : va_G} {FU d : Nat} {r : Int32} {N : Mem}  {k16 : Int32 → Int32 → Int32 → Mem → Option (Int32 × Mem)} {x0 : Nat} {x3 : Int32} {x4 : Int32} {M : Mem}  (hk16 : ∀ (y1 : Int32) (y2 : Int32) (y3 : Int32) (M : Mem), k16 y1 y2 y3 M = some (r, N) → J ad ca D cX9_fairer RX9 6 (d + 11) (Gt ad ca D (some .int) (QI r N)) 16 [(0, vR (some x0)), (1, vI y1), (2, vI y2), (3, vI y3)] [] M) (h : fX9_fairer_b44 FU  k16 x0 x3 x4 M = some (r, N)) : J ad ca D cX9_fairer RX9 6 (d + 11) (Gt ad ca D (some .int) (QI r N)) 44 [(0, vR (some x0)), (3, vI x3), (4, vI x4)] [] M := by
  unfold fX9_fairer_b44 at h
  refine J_iload (pc := 44) (q := 2) rfl dX9_fairer_44 ?_
  refine J_istore_n (pc := 46) rfl (by decide) (lv' := [(0, vR (some x0)), (3, vI x3), (4, vI x4), (2, vI x4)]) rfl dX9_fairer_46 ?_
  refine J_bipush (pc := 47) (v := (100 : Int32)) (by decide) dX9_fairer_47 ?_
  refine J_iload_n (pc := 49) (q := 1) rfl rfl dX9_fairer_49 ?_
  refine J_iadd (pc := 50) dX9_fairer_50 ?_
  refine J_istore_n (pc := 51) rfl (by decide) (lv' := [(0, vR (some x0)), (3, vI x3), (4, vI x4), (2, vI x4), (1, vI ((100 : Int32) + x3))]) rfl dX9_fairer_51 ?_
  refine J_sub [0, 4, 3, 1] (lv' := [(0, vR (some x0)), (1, vI ((100 : Int32) + x3)), (2, vI x4), (3, vI x3)]) rfl ?_
  exact jX9_fairer_b52 hk16 h
set_option maxHeartbeats 4000000 in
set_option maxRecDepth 100000 in
theorem jX9_fairer_b189 {ad : Nat → Nat} {ca : Nat → ClassId} {D : va_G} {FU d : Nat} {r : Int32} {N : Mem}  {k60 : Int32 → Int32 → Int32 → Mem → Option (Int32 × Mem)} {k82 : Int32 → Int32 → Int32 → Mem → Option (Int32 × Mem)} {x0 : Nat} {x1 : Int32} {x2 : Int32} {x3 : Int32} {x4 : Int32} {M : Mem}  (hk60 : ∀ (y1 : Int32) (y2 : Int32) (y3 : Int32) (M : Mem), k60 y1 y2 y3 M = some (r, N) → J ad ca D cX9_fairer RX9 6 (d + 11) (Gt ad ca D (some .int) (QI r N)) 60 [(0, vR (some x0)), (1, vI y1), (2, vI y2), (3, vI y3)] [] M) (hk82 : ∀ (y1 : Int32) (y2 : Int32) (y4 : Int32) (M : Mem), k82 y1 y2 y4 M = some (r, N) → J ad ca D cX9_fairer RX9 6 (d + 11) (Gt ad ca D (some .int) (QI r N)) 82 [(0, vR (some x0)), (1, vI y1), (2, vI y2), (3, vI x3), (4, vI y4)] [] M) (h : fX9_fairer_b189 FU  k60 k82 x0 x1 x2 x3 x4 M = some (r, N)) : J ad ca D cX9_fairer RX9 6 (d + 11) (Gt ad ca D (some .int) (QI r N)) 189 [(0, vR (some x0)), (1, vI x1), (2, vI x2), (3, vI x3), (4, vI x4)] [] M := by
  unfold fX9_fairer_b189 at h
  refine J_iinc (pc := 189) (q := 4) rfl (v := x4 + (1 : Int32)) rfl (by decide) (lv' := [(0, vR (some x0)), (1, vI x1), (2, vI x2), (3, vI x3), (4, vI (x4 + (1 : Int32)))]) rfl dX9_fairer_189 ?_
  refine J_goto (pc := 192) (tgt := 82) (by decide) dX9_fairer_192 ?_
  exact hk82 _ _ _ _ h
set_option maxHeartbeats 4000000 in
set_option maxRecDepth 100000 in
theorem jX9_fairer_b174 {ad : Nat → Nat} {ca : Nat → ClassId} {D : va_G} {FU d : Nat} {r : Int32} {N : Mem}  {k60 : Int32 → Int32 → Int32 → Mem → Option (Int32 × Mem)} {k82 : Int32 → Int32 → Int32 → Mem → Option (Int32 × Mem)} {x0 : Nat} {x3 : Int32} {x4 : Int32} {x5 : Int32} {M : Mem}  (hk60 : ∀ (y1 : Int32) (y2 : Int32) (y3 : Int32) (M : Mem), k60 y1 y2 y3 M = some (r, N) → J ad ca D cX9_fairer RX9 6 (d + 11) (Gt ad ca D (some .int) (QI r N)) 60 [(0, vR (some x0)), (1, vI y1), (2, vI y2), (3, vI y3)] [] M) (hk82 : ∀ (y1 : Int32) (y2 : Int32) (y4 : Int32) (M : Mem), k82 y1 y2 y4 M = some (r, N) → J ad ca D cX9_fairer RX9 6 (d + 11) (Gt ad ca D (some .int) (QI r N)) 82 [(0, vR (some x0)), (1, vI y1), (2, vI y2), (3, vI x3), (4, vI y4)] [] M) (h : fX9_fairer_b174 FU  k60 k82 x0 x3 x4 x5 M = some (r, N)) : J ad ca D cX9_fairer RX9 6 (d + 11) (Gt ad ca D (some .int) (QI r N)) 174 [(0, vR (some x0)), (3, vI x3), (4, vI x4), (5, vI x5)] [] M := by
  unfold fX9_fairer_b174 at h
  refine J_iload (pc := 174) (q := 3) rfl dX9_fairer_174 ?_
  refine J_istore_n (pc := 176) rfl (by decide) (lv' := [(0, vR (some x0)), (3, vI x3), (4, vI x4), (5, vI x5), (2, vI x5)]) rfl dX9_fairer_176 ?_
  refine J_sipush (pc := 177) (v := (200 : Int32)) (by decide) dX9_fairer_177 ?_
  refine J_bipush (pc := 180) (v := (10 : Int32)) (by decide) dX9_fairer_180 ?_
  refine J_iload_n (pc := 182) (q := 1) rfl rfl dX9_fairer_182 ?_
  refine J_imul (pc := 183) dX9_fairer_183 ?_
  refine J_iadd (pc := 184) dX9_fairer_184 ?_
  refine J_iload (pc := 185) (q := 2) rfl dX9_fairer_185 ?_
  refine J_iadd (pc := 187) dX9_fairer_187 ?_
  refine J_istore_n (pc := 188) rfl (by decide) (lv' := [(0, vR (some x0)), (3, vI x3), (4, vI x4), (5, vI x5), (2, vI x5), (1, vI (((200 : Int32) + ((10 : Int32) * x3)) + x4))]) rfl dX9_fairer_188 ?_
  refine J_sub [0, 5, 4, 1, 2] (lv' := [(0, vR (some x0)), (1, vI (((200 : Int32) + ((10 : Int32) * x3)) + x4)), (2, vI x5), (3, vI x3), (4, vI x4)]) rfl ?_
  exact jX9_fairer_b189 hk60 hk82 h
set_option maxHeartbeats 4000000 in
set_option maxRecDepth 100000 in
theorem jX9_fairer_L82 {ad : Nat → Nat} {ca : Nat → ClassId} {D : va_G} {FU d : Nat} {r : Int32} {N : Mem}  {k60 : Int32 → Int32 → Int32 → Mem → Option (Int32 × Mem)} {x0 : Nat} {x3 : Int32}  (hk60 : ∀ (y1 : Int32) (y2 : Int32) (y3 : Int32) (M : Mem), k60 y1 y2 y3 M = some (r, N) → J ad ca D cX9_fairer RX9 6 (d + 11) (Gt ad ca D (some .int) (QI r N)) 60 [(0, vR (some x0)), (1, vI y1), (2, vI y2), (3, vI y3)] [] M) : ∀ (F : Nat) (x1 : Int32) (x2 : Int32) (x4 : Int32) (M : Mem), fX9_fairer_L82 FU  k60 x0 x3 F x1 x2 x4 M = some (r, N) → J ad ca D cX9_fairer RX9 6 (d + 11) (Gt ad ca D (some .int) (QI r N)) 82 [(0, vR (some x0)), (1, vI x1), (2, vI x2), (3, vI x3), (4, vI x4)] [] M := by
  intro F
  induction F with
  | zero =>
    intro x1 x2 x4 M h
    rw [fX9_fairer_L82] at h
    cases h
  | succ F hk82 =>
    intro x1 x2 x4 M h
    rw [fX9_fairer_L82] at h
    refine J_iload (pc := 82) (q := 4) rfl dX9_fairer_82 ?_
    refine J_aload_n (pc := 84) (q := 0) rfl rfl dX9_fairer_84 ?_
    obtain ⟨a85, h85, g_1⟩ := bnd h
    refine J_getI (pc := 85) (i := 0) clF9 (by decide) rfl fl_RX9_149 h85 dX9_fairer_85 ?_
    refine J_icge (pc := 88) (tgt := 195) (by decide) dX9_fairer_88 (fun hc88 => ?_) (fun hc88 => ?_)
    · rw [if_pos hc88] at g_1
      refine J_iinc (pc := 195) (q := 3) rfl (v := x3 + (1 : Int32)) rfl (by decide) (lv' := [(0, vR (some x0)), (1, vI x1), (2, vI x2), (4, vI x4), (3, vI (x3 + (1 : Int32)))]) rfl dX9_fairer_195 ?_
      refine J_goto (pc := 198) (tgt := 60) (by decide) dX9_fairer_198 ?_
      refine J_sub [0, 1, 2, 4] (lv' := [(0, vR (some x0)), (1, vI x1), (2, vI x2), (3, vI (x3 + (1 : Int32)))]) rfl ?_
      exact hk60 _ _ _ _ g_1
    · rw [if_neg hc88] at g_1
      refine J_aload_n (pc := 91) (q := 0) rfl rfl dX9_fairer_91 ?_
      refine J_iload_n (pc := 92) (q := 3) rfl rfl dX9_fairer_92 ?_
      refine J_iload (pc := 93) (q := 4) rfl dX9_fairer_93 ?_
      obtain ⟨b95, hb95, g_2⟩ := bnd g_1
      obtain ⟨r95, M95, h95, g_3⟩ := bnd2 g_2
      refine J_callVI (pc := 95) (as := [vI x3, vI x4]) (tX9_isBeside (d := d)  h95) cf_X9_isBeside cv_X9_isBeside clF9 hb95 ml_RX9_192 (by omega) (Nat.le_of_ble_eq_true rfl) dX9_fairer_95 ?_
      refine J_ifeq (pc := 98) (tgt := 104) (by decide) dX9_fairer_98 (fun hc98 => ?_) (fun hc98 => ?_)
      · rw [if_pos hc98] at g_3
        refine J_aload_n (pc := 104) (q := 0) rfl rfl dX9_fairer_104 ?_
        obtain ⟨a105, h105, g_4⟩ := bnd g_3
        refine J_getR (pc := 105) (i := 4) clF9 (by decide) rfl fl_RX9_19 h105 dX9_fairer_105 ?_
        refine J_aload_n (pc := 108) (q := 0) rfl rfl dX9_fairer_108 ?_
        obtain ⟨a109, h109, g_5⟩ := bnd g_4
        refine J_getI (pc := 109) (i := 1) clF9 (by decide) rfl fl_RX9_7 h109 dX9_fairer_109 ?_
        refine J_iconst (pc := 112) (v := (0 : Int32)) (by decide) dX9_fairer_112 ?_
        obtain ⟨M113, h113, g_6⟩ := bnd g_5
        refine J_ast0 (pc := 113) h113 dX9_fairer_113 ?_
        refine J_aload_n (pc := 114) (q := 0) rfl rfl dX9_fairer_114 ?_
        obtain ⟨a115, h115, g_7⟩ := bnd g_6
        refine J_getR (pc := 115) (i := 5) clF9 (by decide) rfl fl_RX9_23 h115 dX9_fairer_115 ?_
        refine J_aload_n (pc := 118) (q := 0) rfl rfl dX9_fairer_118 ?_
        obtain ⟨a119, h119, g_8⟩ := bnd g_7
        refine J_getI (pc := 119) (i := 1) clF9 (by decide) rfl fl_RX9_7 h119 dX9_fairer_119 ?_
        refine J_iload_n (pc := 122) (q := 3) rfl rfl dX9_fairer_122 ?_
        obtain ⟨M123, h123, g_9⟩ := bnd g_8
        refine J_ast0 (pc := 123) h123 dX9_fairer_123 ?_
        refine J_aload_n (pc := 124) (q := 0) rfl rfl dX9_fairer_124 ?_
        obtain ⟨a125, h125, g_10⟩ := bnd g_9
        refine J_getR (pc := 125) (i := 6) clF9 (by decide) rfl fl_RX9_26 h125 dX9_fairer_125 ?_
        refine J_aload_n (pc := 128) (q := 0) rfl rfl dX9_fairer_128 ?_
        obtain ⟨a129, h129, g_11⟩ := bnd g_10
        refine J_getI (pc := 129) (i := 1) clF9 (by decide) rfl fl_RX9_7 h129 dX9_fairer_129 ?_
        refine J_iload (pc := 132) (q := 4) rfl dX9_fairer_132 ?_
        obtain ⟨M134, h134, g_12⟩ := bnd g_11
        refine J_ast0 (pc := 134) h134 dX9_fairer_134 ?_
        refine J_aload_n (pc := 135) (q := 0) rfl rfl dX9_fairer_135 ?_
        refine J_dup (pc := 136) rfl dX9_fairer_136 ?_
        obtain ⟨a137, h137, g_13⟩ := bnd g_12
        refine J_getI (pc := 137) (i := 1) clF9 (by decide) rfl fl_RX9_7 h137 dX9_fairer_137 ?_
        refine J_iconst (pc := 140) (v := (1 : Int32)) (by decide) dX9_fairer_140 ?_
        refine J_iadd (pc := 141) dX9_fairer_141 ?_
        obtain ⟨M142, h142, g_14⟩ := bnd g_13
        refine J_putI (pc := 142) (i := 1) clF9 (by decide) rfl fl_RX9_7 rfl rfl h142 dX9_fairer_142 ?_
        refine J_aload_n (pc := 145) (q := 0) rfl rfl dX9_fairer_145 ?_
        obtain ⟨b146, hb146, g_15⟩ := bnd g_14
        obtain ⟨r146, M146, h146, g_16⟩ := bnd2 g_15
        refine J_callVI (pc := 146) (as := []) (tX9_unfair (d := d)  h146) cf_X9_unfair cv_X9_unfair clF9 hb146 ml_RX9_274 (by omega) (Nat.le_of_ble_eq_true rfl) dX9_fairer_146 ?_
        refine J_istore (pc := 149) (by decide) (lv' := [(0, vR (some x0)), (1, vI x1), (2, vI x2), (3, vI x3), (4, vI x4), (5, vI r146)]) rfl dX9_fairer_149 ?_
        refine J_aload_n (pc := 151) (q := 0) rfl rfl dX9_fairer_151 ?_
        refine J_dup (pc := 152) rfl dX9_fairer_152 ?_
        obtain ⟨a153, h153, g_17⟩ := bnd g_16
        refine J_getI (pc := 153) (i := 1) clF9 (by decide) rfl fl_RX9_7 h153 dX9_fairer_153 ?_
        refine J_iconst (pc := 156) (v := (1 : Int32)) (by decide) dX9_fairer_156 ?_
        refine J_isub (pc := 157) dX9_fairer_157 ?_
        obtain ⟨M158, h158, g_18⟩ := bnd g_17
        refine J_putI (pc := 158) (i := 1) clF9 (by decide) rfl fl_RX9_7 rfl rfl h158 dX9_fairer_158 ?_
        refine J_iload_n (pc := 161) (q := 1) rfl rfl dX9_fairer_161 ?_
        refine J_iflt (pc := 162) (tgt := 174) (by decide) dX9_fairer_162 (fun hc162 => ?_) (fun hc162 => ?_)
        · rw [if_pos hc162] at g_18
          refine J_sub [0, 3, 4, 5] (lv' := [(0, vR (some x0)), (3, vI x3), (4, vI x4), (5, vI r146)]) rfl ?_
          exact jX9_fairer_b174 hk60 hk82 g_18
        · rw [if_neg hc162] at g_18
          refine J_iload (pc := 165) (q := 5) rfl dX9_fairer_165 ?_
          refine J_iload_n (pc := 167) (q := 2) rfl rfl dX9_fairer_167 ?_
          refine J_iclt (pc := 168) (tgt := 174) (by decide) dX9_fairer_168 (fun hc168 => ?_) (fun hc168 => ?_)
          · rw [if_pos hc168] at g_18
            refine J_sub [0, 3, 4, 5] (lv' := [(0, vR (some x0)), (3, vI x3), (4, vI x4), (5, vI r146)]) rfl ?_
            exact jX9_fairer_b174 hk60 hk82 g_18
          · rw [if_neg hc168] at g_18
            refine J_goto (pc := 171) (tgt := 189) (by decide) dX9_fairer_171 ?_
            refine J_sub [0, 1, 2, 3, 4] (lv' := [(0, vR (some x0)), (1, vI x1), (2, vI x2), (3, vI x3), (4, vI x4)]) rfl ?_
            exact jX9_fairer_b189 hk60 hk82 g_18
      · rw [if_neg hc98] at g_3
        refine J_goto (pc := 101) (tgt := 189) (by decide) dX9_fairer_101 ?_
        exact jX9_fairer_b189 hk60 hk82 g_3
set_option maxHeartbeats 4000000 in
set_option maxRecDepth 100000 in
theorem jX9_fairer_L60 {ad : Nat → Nat} {ca : Nat → ClassId} {D : va_G} {FU d : Nat} {r : Int32} {N : Mem}   {x0 : Nat}   : ∀ (F : Nat) (x1 : Int32) (x2 : Int32) (x3 : Int32) (M : Mem), fX9_fairer_L60 FU  x0 F x1 x2 x3 M = some (r, N) → J ad ca D cX9_fairer RX9 6 (d + 11) (Gt ad ca D (some .int) (QI r N)) 60 [(0, vR (some x0)), (1, vI x1), (2, vI x2), (3, vI x3)] [] M := by
  intro F
  induction F with
  | zero =>
    intro x1 x2 x3 M h
    rw [fX9_fairer_L60] at h
    cases h
  | succ F hk60 =>
    intro x1 x2 x3 M h
    rw [fX9_fairer_L60] at h
    refine J_iload_n (pc := 60) (q := 3) rfl rfl dX9_fairer_60 ?_
    refine J_aload_n (pc := 61) (q := 0) rfl rfl dX9_fairer_61 ?_
    obtain ⟨a62, h62, g_19⟩ := bnd h
    refine J_getI (pc := 62) (i := 0) clF9 (by decide) rfl fl_RX9_149 h62 dX9_fairer_62 ?_
    refine J_icge (pc := 65) (tgt := 201) (by decide) dX9_fairer_65 (fun hc65 => ?_) (fun hc65 => ?_)
    · rw [if_pos hc65] at g_19
      refine J_iload_n (pc := 201) (q := 1) rfl rfl dX9_fairer_201 ?_
      exact J_iret (pc := 202) (qi_of g_19) dX9_fairer_202
    · rw [if_neg hc65] at g_19
      refine J_aload_n (pc := 68) (q := 0) rfl rfl dX9_fairer_68 ?_
      obtain ⟨a69, h69, g_20⟩ := bnd g_19
      refine J_getI (pc := 69) (i := 1) clF9 (by decide) rfl fl_RX9_7 h69 dX9_fairer_69 ?_
      refine J_bipush (pc := 72) (v := (16 : Int32)) (by decide) dX9_fairer_72 ?_
      refine J_icge (pc := 74) (tgt := 201) (by decide) dX9_fairer_74 (fun hc74 => ?_) (fun hc74 => ?_)
      · rw [if_pos hc74] at g_20
        refine J_iload_n (pc := 201) (q := 1) rfl rfl dX9_fairer_201 ?_
        exact J_iret (pc := 202) (qi_of g_20) dX9_fairer_202
      · rw [if_neg hc74] at g_20
        refine J_iload_n (pc := 77) (q := 3) rfl rfl dX9_fairer_77 ?_
        refine J_iconst (pc := 78) (v := (1 : Int32)) (by decide) dX9_fairer_78 ?_
        refine J_iadd (pc := 79) dX9_fairer_79 ?_
        refine J_istore (pc := 80) (by decide) (lv' := [(0, vR (some x0)), (1, vI x1), (2, vI x2), (3, vI x3), (4, vI (x3 + (1 : Int32)))]) rfl dX9_fairer_80 ?_
        exact jX9_fairer_L82 hk60 FU _ _ _ _ g_20
set_option maxHeartbeats 4000000 in
set_option maxRecDepth 100000 in
theorem jX9_fairer_L16 {ad : Nat → Nat} {ca : Nat → ClassId} {D : va_G} {FU d : Nat} {r : Int32} {N : Mem}   {x0 : Nat}   : ∀ (F : Nat) (x1 : Int32) (x2 : Int32) (x3 : Int32) (M : Mem), fX9_fairer_L16 FU  x0 F x1 x2 x3 M = some (r, N) → J ad ca D cX9_fairer RX9 6 (d + 11) (Gt ad ca D (some .int) (QI r N)) 16 [(0, vR (some x0)), (1, vI x1), (2, vI x2), (3, vI x3)] [] M := by
  intro F
  induction F with
  | zero =>
    intro x1 x2 x3 M h
    rw [fX9_fairer_L16] at h
    cases h
  | succ F hk16 =>
    intro x1 x2 x3 M h
    rw [fX9_fairer_L16] at h
    refine J_iload_n (pc := 16) (q := 3) rfl rfl dX9_fairer_16 ?_
    refine J_aload_n (pc := 17) (q := 0) rfl rfl dX9_fairer_17 ?_
    obtain ⟨a18, h18, g_21⟩ := bnd h
    refine J_getI (pc := 18) (i := 1) clF9 (by decide) rfl fl_RX9_7 h18 dX9_fairer_18 ?_
    refine J_icge (pc := 21) (tgt := 58) (by decide) dX9_fairer_21 (fun hc21 => ?_) (fun hc21 => ?_)
    · rw [if_pos hc21] at g_21
      refine J_iconst (pc := 58) (v := (0 : Int32)) (by decide) dX9_fairer_58 ?_
      refine J_istore_n (pc := 59) rfl (by decide) (lv' := [(0, vR (some x0)), (1, vI x1), (2, vI x2), (3, vI (0 : Int32))]) rfl dX9_fairer_59 ?_
      exact jX9_fairer_L60  FU _ _ _ _ g_21
    · rw [if_neg hc21] at g_21
      refine J_aload_n (pc := 24) (q := 0) rfl rfl dX9_fairer_24 ?_
      refine J_iload_n (pc := 25) (q := 3) rfl rfl dX9_fairer_25 ?_
      obtain ⟨b26, hb26, g_22⟩ := bnd g_21
      obtain ⟨r26, M26, h26, g_23⟩ := bnd2 g_22
      refine J_callVI (pc := 26) (as := [vI x3]) (tX9_withoutWay (d := d)  h26) cf_X9_withoutWay cv_X9_withoutWay clF9 hb26 ml_RX9_277 (by omega) (Nat.le_of_ble_eq_true rfl) dX9_fairer_26 ?_
      refine J_istore (pc := 29) (by decide) (lv' := [(0, vR (some x0)), (1, vI x1), (2, vI x2), (3, vI x3), (4, vI r26)]) rfl dX9_fairer_29 ?_
      refine J_iload_n (pc := 31) (q := 1) rfl rfl dX9_fairer_31 ?_
      refine J_iflt (pc := 32) (tgt := 44) (by decide) dX9_fairer_32 (fun hc32 => ?_) (fun hc32 => ?_)
      · rw [if_pos hc32] at g_23
        refine J_sub [0, 3, 4] (lv' := [(0, vR (some x0)), (3, vI x3), (4, vI r26)]) rfl ?_
        exact jX9_fairer_b44 hk16 g_23
      · rw [if_neg hc32] at g_23
        refine J_iload (pc := 35) (q := 4) rfl dX9_fairer_35 ?_
        refine J_iload_n (pc := 37) (q := 2) rfl rfl dX9_fairer_37 ?_
        refine J_iclt (pc := 38) (tgt := 44) (by decide) dX9_fairer_38 (fun hc38 => ?_) (fun hc38 => ?_)
        · rw [if_pos hc38] at g_23
          refine J_sub [0, 3, 4] (lv' := [(0, vR (some x0)), (3, vI x3), (4, vI r26)]) rfl ?_
          exact jX9_fairer_b44 hk16 g_23
        · rw [if_neg hc38] at g_23
          refine J_goto (pc := 41) (tgt := 52) (by decide) dX9_fairer_41 ?_
          refine J_sub [0, 1, 2, 3] (lv' := [(0, vR (some x0)), (1, vI x1), (2, vI x2), (3, vI x3)]) rfl ?_
          exact jX9_fairer_b52 hk16 g_23
set_option maxHeartbeats 4000000 in
set_option maxRecDepth 100000 in
theorem tX9_fairer {ad : Nat → Nat} {ca : Nat → ClassId} {D : va_G} {FU d : Nat} {r : Int32} {N : Mem}  {x0 : Nat} {M : Mem}  (h : fX9_fairer FU  x0 M = some (r, N)) : Ct ad ca D yX9_fairer cX9_fairer 6 (some .int) (d + 11) [vR (some x0)] M (QI r N) := by
  refine Ct_of (by decide) (Nat.le_of_ble_eq_true rfl) ?_
  show J ad ca D cX9_fairer RX9 6 (d + 11) (Gt ad ca D (some .int) (QI r N)) 0 [(0, vR (some x0))] [] M
  unfold fX9_fairer at h
  refine J_aload_n (pc := 0) (q := 0) rfl rfl dX9_fairer_0 ?_
  obtain ⟨b1, hb1, g_24⟩ := bnd h
  obtain ⟨r1, M1, h1, g_25⟩ := bnd2 g_24
  refine J_callVI (pc := 1) (as := []) (tX9_shutters (d := d)  h1) cf_X9_shutters cv_X9_shutters clF9 hb1 ml_RX9_166 (by omega) (Nat.le_of_ble_eq_true rfl) dX9_fairer_1 ?_
  refine J_ifle (pc := 4) (tgt := 10) (by decide) dX9_fairer_4 (fun hc4 => ?_) (fun hc4 => ?_)
  · rw [if_pos hc4] at g_25
    refine J_iconst (pc := 10) (v := (-1 : Int32)) (by decide) dX9_fairer_10 ?_
    refine J_istore_n (pc := 11) rfl (by decide) (lv' := [(0, vR (some x0)), (1, vI (-1 : Int32))]) rfl dX9_fairer_11 ?_
    refine J_iconst (pc := 12) (v := (0 : Int32)) (by decide) dX9_fairer_12 ?_
    refine J_istore_n (pc := 13) rfl (by decide) (lv' := [(0, vR (some x0)), (1, vI (-1 : Int32)), (2, vI (0 : Int32))]) rfl dX9_fairer_13 ?_
    refine J_iconst (pc := 14) (v := (0 : Int32)) (by decide) dX9_fairer_14 ?_
    refine J_istore_n (pc := 15) rfl (by decide) (lv' := [(0, vR (some x0)), (1, vI (-1 : Int32)), (2, vI (0 : Int32)), (3, vI (0 : Int32))]) rfl dX9_fairer_15 ?_
    exact jX9_fairer_L16  FU _ _ _ _ g_25
  · rw [if_neg hc4] at g_25
    refine J_bipush (pc := 7) (v := (-3 : Int32)) (by decide) dX9_fairer_7 ?_
    exact J_iret (pc := 9) (qi_of g_25) dX9_fairer_9
set_option maxHeartbeats 4000000 in
set_option maxRecDepth 100000 in
theorem jX9_seesFrom_b106 {ad : Nat → Nat} {ca : Nat → ClassId} {D : va_G} {FU d : Nat} {r : Int32} {N : Mem}  {k27 : Int32 → Int32 → Mem → Option (Int32 × Mem)} {k39 : Int32 → Int32 → Mem → Option (Int32 × Mem)} {x0 : Nat} {x2 : Int32} {x3 : Int32} {x4 : Int32} {x5 : Int32} {x6 : Int32} {M : Mem}  (hk27 : ∀ (y3 : Int32) (y4 : Int32) (M : Mem), k27 y3 y4 M = some (r, N) → J ad ca D cX9_seesFrom RX9 7 (d + 0) (Gt ad ca D (some .int) (QI r N)) 27 [(0, vR (some x0)), (2, vI x2), (3, vI y3), (4, vI y4)] [] M) (hk39 : ∀ (y5 : Int32) (y6 : Int32) (M : Mem), k39 y5 y6 M = some (r, N) → J ad ca D cX9_seesFrom RX9 7 (d + 0) (Gt ad ca D (some .int) (QI r N)) 39 [(0, vR (some x0)), (2, vI x2), (3, vI x3), (4, vI x4), (5, vI y5), (6, vI y6)] [] M) (h : fX9_seesFrom_b106 FU  k27 k39 x0 x2 x3 x4 x5 x6 M = some (r, N)) : J ad ca D cX9_seesFrom RX9 7 (d + 0) (Gt ad ca D (some .int) (QI r N)) 106 [(0, vR (some x0)), (2, vI x2), (3, vI x3), (4, vI x4), (5, vI x5), (6, vI x6)] [] M := by
  unfold fX9_seesFrom_b106 at h
  refine J_iinc (pc := 106) (q := 5) rfl (v := x6 + (1 : Int32)) rfl (by decide) (lv' := [(0, vR (some x0)), (2, vI x2), (3, vI x3), (4, vI x4), (5, vI x5), (6, vI (x6 + (1 : Int32)))]) rfl dX9_seesFrom_106 ?_
  refine J_goto (pc := 109) (tgt := 39) (by decide) dX9_seesFrom_109 ?_
  exact hk39 _ _ _ h
set_option maxHeartbeats 4000000 in
set_option maxRecDepth 100000 in
theorem jX9_seesFrom_b77 {ad : Nat → Nat} {ca : Nat → ClassId} {D : va_G} {FU d : Nat} {r : Int32} {N : Mem}  {k27 : Int32 → Int32 → Mem → Option (Int32 × Mem)} {k39 : Int32 → Int32 → Mem → Option (Int32 × Mem)} {x0 : Nat} {x2 : Int32} {x3 : Int32} {x4 : Int32} {x5 : Int32} {x6 : Int32} {M : Mem}  (hk27 : ∀ (y3 : Int32) (y4 : Int32) (M : Mem), k27 y3 y4 M = some (r, N) → J ad ca D cX9_seesFrom RX9 7 (d + 0) (Gt ad ca D (some .int) (QI r N)) 27 [(0, vR (some x0)), (2, vI x2), (3, vI y3), (4, vI y4)] [] M) (hk39 : ∀ (y5 : Int32) (y6 : Int32) (M : Mem), k39 y5 y6 M = some (r, N) → J ad ca D cX9_seesFrom RX9 7 (d + 0) (Gt ad ca D (some .int) (QI r N)) 39 [(0, vR (some x0)), (2, vI x2), (3, vI x3), (4, vI x4), (5, vI y5), (6, vI y6)] [] M) (h : fX9_seesFrom_b77 FU  k27 k39 x0 x2 x3 x4 x5 x6 M = some (r, N)) : J ad ca D cX9_seesFrom RX9 7 (d + 0) (Gt ad ca D (some .int) (QI r N)) 77 [(0, vR (some x0)), (2, vI x2), (3, vI x3), (4, vI x4), (5, vI x5), (6, vI x6)] [] M := by
  unfold fX9_seesFrom_b77 at h
  refine J_iload_n (pc := 77) (q := 2) rfl rfl dX9_seesFrom_77 ?_
  refine J_aload_n (pc := 78) (q := 0) rfl rfl dX9_seesFrom_78 ?_
  obtain ⟨a79, h79, g_1⟩ := bnd h
  refine J_getR (pc := 79) (i := 6) clF9 (by decide) rfl fl_RX9_26 h79 dX9_seesFrom_79 ?_
  refine J_iload (pc := 82) (q := 5) rfl dX9_seesFrom_82 ?_
  obtain ⟨a84, h84, g_2⟩ := bnd g_1
  refine J_ald0 (pc := 84) h84 dX9_seesFrom_84 ?_
  refine J_ishr (pc := 85) dX9_seesFrom_85 ?_
  refine J_iconst (pc := 86) (v := (1 : Int32)) (by decide) dX9_seesFrom_86 ?_
  refine J_iand (pc := 87) dX9_seesFrom_87 ?_
  refine J_iconst (pc := 88) (v := (1 : Int32)) (by decide) dX9_seesFrom_88 ?_
  refine J_icne (pc := 89) (tgt := 106) (by decide) dX9_seesFrom_89 (fun hc89 => ?_) (fun hc89 => ?_)
  · rw [if_pos hc89] at g_2
    exact jX9_seesFrom_b106 hk27 hk39 g_2
  · rw [if_neg hc89] at g_2
    refine J_iload (pc := 92) (q := 4) rfl dX9_seesFrom_92 ?_
    refine J_iconst (pc := 94) (v := (1 : Int32)) (by decide) dX9_seesFrom_94 ?_
    refine J_aload_n (pc := 95) (q := 0) rfl rfl dX9_seesFrom_95 ?_
    obtain ⟨a96, h96, g_3⟩ := bnd g_2
    refine J_getR (pc := 96) (i := 5) clF9 (by decide) rfl fl_RX9_23 h96 dX9_seesFrom_96 ?_
    refine J_iload (pc := 99) (q := 5) rfl dX9_seesFrom_99 ?_
    obtain ⟨a101, h101, g_4⟩ := bnd g_3
    refine J_ald0 (pc := 101) h101 dX9_seesFrom_101 ?_
    refine J_ishl (pc := 102) dX9_seesFrom_102 ?_
    refine J_ior (pc := 103) dX9_seesFrom_103 ?_
    refine J_istore (pc := 104) (by decide) (lv' := [(0, vR (some x0)), (2, vI x2), (3, vI x3), (4, vI x4), (6, vI x6), (5, vI (x5 ||| ((1 : Int32) <<< (a101 &&& 31))))]) rfl dX9_seesFrom_104 ?_
    refine J_sub [0, 1, 2, 3, 5, 4] (lv' := [(0, vR (some x0)), (2, vI x2), (3, vI x3), (4, vI x4), (5, vI (x5 ||| ((1 : Int32) <<< (a101 &&& 31)))), (6, vI x6)]) rfl ?_
    exact jX9_seesFrom_b106 hk27 hk39 g_4
set_option maxHeartbeats 4000000 in
set_option maxRecDepth 100000 in
theorem jX9_seesFrom_L39 {ad : Nat → Nat} {ca : Nat → ClassId} {D : va_G} {FU d : Nat} {r : Int32} {N : Mem}  {k27 : Int32 → Int32 → Mem → Option (Int32 × Mem)} {x0 : Nat} {x2 : Int32} {x3 : Int32} {x4 : Int32}  (hk27 : ∀ (y3 : Int32) (y4 : Int32) (M : Mem), k27 y3 y4 M = some (r, N) → J ad ca D cX9_seesFrom RX9 7 (d + 0) (Gt ad ca D (some .int) (QI r N)) 27 [(0, vR (some x0)), (2, vI x2), (3, vI y3), (4, vI y4)] [] M) : ∀ (F : Nat) (x5 : Int32) (x6 : Int32) (M : Mem), fX9_seesFrom_L39 FU  k27 x0 x2 x3 x4 F x5 x6 M = some (r, N) → J ad ca D cX9_seesFrom RX9 7 (d + 0) (Gt ad ca D (some .int) (QI r N)) 39 [(0, vR (some x0)), (2, vI x2), (3, vI x3), (4, vI x4), (5, vI x5), (6, vI x6)] [] M := by
  intro F
  induction F with
  | zero =>
    intro x5 x6 M h
    rw [fX9_seesFrom_L39] at h
    cases h
  | succ F hk39 =>
    intro x5 x6 M h
    rw [fX9_seesFrom_L39] at h
    refine J_iload (pc := 39) (q := 5) rfl dX9_seesFrom_39 ?_
    refine J_aload_n (pc := 41) (q := 0) rfl rfl dX9_seesFrom_41 ?_
    obtain ⟨a42, h42, g_5⟩ := bnd h
    refine J_getI (pc := 42) (i := 1) clF9 (by decide) rfl fl_RX9_7 h42 dX9_seesFrom_42 ?_
    refine J_icge (pc := 45) (tgt := 112) (by decide) dX9_seesFrom_45 (fun hc45 => ?_) (fun hc45 => ?_)
    · rw [if_pos hc45] at g_5
      refine J_iload (pc := 112) (q := 4) rfl dX9_seesFrom_112 ?_
      refine J_istore_n (pc := 114) rfl (by decide) (lv' := [(0, vR (some x0)), (2, vI x2), (4, vI x4), (5, vI x5), (6, vI x6), (3, vI x5)]) rfl dX9_seesFrom_114 ?_
      refine J_iinc (pc := 115) (q := 2) rfl (v := x4 + (1 : Int32)) rfl (by decide) (lv' := [(0, vR (some x0)), (2, vI x2), (5, vI x5), (6, vI x6), (3, vI x5), (4, vI (x4 + (1 : Int32)))]) rfl dX9_seesFrom_115 ?_
      refine J_goto (pc := 118) (tgt := 27) (by decide) dX9_seesFrom_118 ?_
      refine J_sub [0, 1, 4, 5] (lv' := [(0, vR (some x0)), (2, vI x2), (3, vI x5), (4, vI (x4 + (1 : Int32)))]) rfl ?_
      exact hk27 _ _ _ g_5
    · rw [if_neg hc45] at g_5
      refine J_iload_n (pc := 48) (q := 2) rfl rfl dX9_seesFrom_48 ?_
      refine J_aload_n (pc := 49) (q := 0) rfl rfl dX9_seesFrom_49 ?_
      obtain ⟨a50, h50, g_6⟩ := bnd g_5
      refine J_getR (pc := 50) (i := 5) clF9 (by decide) rfl fl_RX9_23 h50 dX9_seesFrom_50 ?_
      refine J_iload (pc := 53) (q := 5) rfl dX9_seesFrom_53 ?_
      obtain ⟨a55, h55, g_7⟩ := bnd g_6
      refine J_ald0 (pc := 55) h55 dX9_seesFrom_55 ?_
      refine J_ishr (pc := 56) dX9_seesFrom_56 ?_
      refine J_iconst (pc := 57) (v := (1 : Int32)) (by decide) dX9_seesFrom_57 ?_
      refine J_iand (pc := 58) dX9_seesFrom_58 ?_
      refine J_iconst (pc := 59) (v := (1 : Int32)) (by decide) dX9_seesFrom_59 ?_
      refine J_icne (pc := 60) (tgt := 77) (by decide) dX9_seesFrom_60 (fun hc60 => ?_) (fun hc60 => ?_)
      · rw [if_pos hc60] at g_7
        exact jX9_seesFrom_b77 hk27 hk39 g_7
      · rw [if_neg hc60] at g_7
        refine J_iload (pc := 63) (q := 4) rfl dX9_seesFrom_63 ?_
        refine J_iconst (pc := 65) (v := (1 : Int32)) (by decide) dX9_seesFrom_65 ?_
        refine J_aload_n (pc := 66) (q := 0) rfl rfl dX9_seesFrom_66 ?_
        obtain ⟨a67, h67, g_8⟩ := bnd g_7
        refine J_getR (pc := 67) (i := 6) clF9 (by decide) rfl fl_RX9_26 h67 dX9_seesFrom_67 ?_
        refine J_iload (pc := 70) (q := 5) rfl dX9_seesFrom_70 ?_
        obtain ⟨a72, h72, g_9⟩ := bnd g_8
        refine J_ald0 (pc := 72) h72 dX9_seesFrom_72 ?_
        refine J_ishl (pc := 73) dX9_seesFrom_73 ?_
        refine J_ior (pc := 74) dX9_seesFrom_74 ?_
        refine J_istore (pc := 75) (by decide) (lv' := [(0, vR (some x0)), (2, vI x2), (3, vI x3), (4, vI x4), (6, vI x6), (5, vI (x5 ||| ((1 : Int32) <<< (a72 &&& 31))))]) rfl dX9_seesFrom_75 ?_
        refine J_sub [0, 1, 2, 3, 5, 4] (lv' := [(0, vR (some x0)), (2, vI x2), (3, vI x3), (4, vI x4), (5, vI (x5 ||| ((1 : Int32) <<< (a72 &&& 31)))), (6, vI x6)]) rfl ?_
        exact jX9_seesFrom_b77 hk27 hk39 g_9
set_option maxHeartbeats 4000000 in
set_option maxRecDepth 100000 in
theorem jX9_seesFrom_L27 {ad : Nat → Nat} {ca : Nat → ClassId} {D : va_G} {FU d : Nat} {r : Int32} {N : Mem}   {x0 : Nat} {x2 : Int32}   : ∀ (F : Nat) (x3 : Int32) (x4 : Int32) (M : Mem), fX9_seesFrom_L27 FU  x0 x2 F x3 x4 M = some (r, N) → J ad ca D cX9_seesFrom RX9 7 (d + 0) (Gt ad ca D (some .int) (QI r N)) 27 [(0, vR (some x0)), (2, vI x2), (3, vI x3), (4, vI x4)] [] M := by
  intro F
  induction F with
  | zero =>
    intro x3 x4 M h
    rw [fX9_seesFrom_L27] at h
    cases h
  | succ F hk27 =>
    intro x3 x4 M h
    rw [fX9_seesFrom_L27] at h
    refine J_iload (pc := 27) (q := 3) rfl dX9_seesFrom_27 ?_
    refine J_iload_n (pc := 29) (q := 1) rfl rfl dX9_seesFrom_29 ?_
    refine J_icge (pc := 30) (tgt := 121) (by decide) dX9_seesFrom_30 (fun hc30 => ?_) (fun hc30 => ?_)
    · rw [if_pos hc30] at h
      refine J_iload_n (pc := 121) (q := 2) rfl rfl dX9_seesFrom_121 ?_
      exact J_iret (pc := 122) (qi_of h) dX9_seesFrom_122
    · rw [if_neg hc30] at h
      refine J_iload_n (pc := 33) (q := 2) rfl rfl dX9_seesFrom_33 ?_
      refine J_istore (pc := 34) (by decide) (lv' := [(0, vR (some x0)), (2, vI x2), (3, vI x3), (4, vI x4), (5, vI x3)]) rfl dX9_seesFrom_34 ?_
      refine J_iconst (pc := 36) (v := (0 : Int32)) (by decide) dX9_seesFrom_36 ?_
      refine J_istore (pc := 37) (by decide) (lv' := [(0, vR (some x0)), (2, vI x2), (3, vI x3), (4, vI x4), (5, vI x3), (6, vI (0 : Int32))]) rfl dX9_seesFrom_37 ?_
      exact jX9_seesFrom_L39 hk27 FU _ _ _ h
set_option maxHeartbeats 4000000 in
set_option maxRecDepth 100000 in
theorem jX9_seesFrom_b18 {ad : Nat → Nat} {ca : Nat → ClassId} {D : va_G} {FU d : Nat} {r : Int32} {N : Mem}   {x0 : Nat} {x1 : Int32} {s0 : Int32} {s1 : Int32} {M : Mem}   (h : fX9_seesFrom_b18 FU  x0 x1 s0 s1 M = some (r, N)) : J ad ca D cX9_seesFrom RX9 7 (d + 0) (Gt ad ca D (some .int) (QI r N)) 18 [(0, vR (some x0)), (1, vI x1)] [vI s1, vI s0] M := by
  unfold fX9_seesFrom_b18 at h
  refine J_iadd (pc := 18) dX9_seesFrom_18 ?_
  refine J_istore_n (pc := 19) rfl (by decide) (lv' := [(0, vR (some x0)), (1, vI x1), (2, vI (s0 + s1))]) rfl dX9_seesFrom_19 ?_
  refine J_iconst (pc := 20) (v := (1 : Int32)) (by decide) dX9_seesFrom_20 ?_
  refine J_iload_n (pc := 21) (q := 1) rfl rfl dX9_seesFrom_21 ?_
  refine J_ishl (pc := 22) dX9_seesFrom_22 ?_
  refine J_istore_n (pc := 23) rfl (by decide) (lv' := [(0, vR (some x0)), (1, vI x1), (2, vI (s0 + s1)), (3, vI ((1 : Int32) <<< (x1 &&& 31)))]) rfl dX9_seesFrom_23 ?_
  refine J_iconst (pc := 24) (v := (0 : Int32)) (by decide) dX9_seesFrom_24 ?_
  refine J_istore (pc := 25) (by decide) (lv' := [(0, vR (some x0)), (1, vI x1), (2, vI (s0 + s1)), (3, vI ((1 : Int32) <<< (x1 &&& 31))), (4, vI (0 : Int32))]) rfl dX9_seesFrom_25 ?_
  refine J_sub [0, 2, 3, 4] (lv' := [(0, vR (some x0)), (2, vI (s0 + s1)), (3, vI ((1 : Int32) <<< (x1 &&& 31))), (4, vI (0 : Int32))]) rfl ?_
  exact jX9_seesFrom_L27  FU _ _ _ h
set_option maxHeartbeats 4000000 in
set_option maxRecDepth 100000 in
theorem tX9_seesFrom {ad : Nat → Nat} {ca : Nat → ClassId} {D : va_G} {FU d : Nat} {r : Int32} {N : Mem}  {x0 : Nat} {x1 : Int32} {M : Mem}  (h : fX9_seesFrom FU  x0 x1 M = some (r, N)) : Ct ad ca D yX9_seesFrom cX9_seesFrom 7 (some .int) (d + 0) [vR (some x0), vI x1] M (QI r N) := by
  refine Ct_of (by decide) (Nat.le_of_ble_eq_true rfl) ?_
  show J ad ca D cX9_seesFrom RX9 7 (d + 0) (Gt ad ca D (some .int) (QI r N)) 0 [(0, vR (some x0)), (1, vI x1)] [] M
  unfold fX9_seesFrom at h
  refine J_aload_n (pc := 0) (q := 0) rfl rfl dX9_seesFrom_0 ?_
  obtain ⟨a1, h1, g_10⟩ := bnd h
  refine J_getI (pc := 1) (i := 3) clF9 (by decide) rfl fl_RX9_16 h1 dX9_seesFrom_1 ?_
  refine J_aload_n (pc := 4) (q := 0) rfl rfl dX9_seesFrom_4 ?_
  obtain ⟨a5, h5, g_11⟩ := bnd g_10
  refine J_getR (pc := 5) (i := 8) clF9 (by decide) rfl fl_RX9_33 h5 dX9_seesFrom_5 ?_
  refine J_iload_n (pc := 8) (q := 1) rfl rfl dX9_seesFrom_8 ?_
  obtain ⟨a9, h9, g_12⟩ := bnd g_11
  refine J_ald1 (pc := 9) h9 dX9_seesFrom_9 ?_
  refine J_ifeq (pc := 10) (tgt := 17) (by decide) dX9_seesFrom_10 (fun hc10 => ?_) (fun hc10 => ?_)
  · rw [if_pos hc10] at g_12
    refine J_iconst (pc := 17) (v := (0 : Int32)) (by decide) dX9_seesFrom_17 ?_
    exact jX9_seesFrom_b18  g_12
  · rw [if_neg hc10] at g_12
    refine J_iconst (pc := 13) (v := (1 : Int32)) (by decide) dX9_seesFrom_13 ?_
    refine J_goto (pc := 14) (tgt := 18) (by decide) dX9_seesFrom_14 ?_
    exact jX9_seesFrom_b18  g_12
set_option maxHeartbeats 4000000 in
set_option maxRecDepth 100000 in
theorem tX9_seenBy {ad : Nat → Nat} {ca : Nat → ClassId} {D : va_G} {FU d : Nat} {r : Int32} {N : Mem}  {x0 : Nat} {x1 : Int32} {x2 : Int32} {M : Mem}  (h : fX9_seenBy FU  x0 x1 x2 M = some (r, N)) : Ct ad ca D yX9_seenBy cX9_seenBy 3 (some .int) (d + 1) [vR (some x0), vI x1, vI x2] M (QI r N) := by
  refine Ct_of (by decide) (Nat.le_of_ble_eq_true rfl) ?_
  show J ad ca D cX9_seenBy RX9 3 (d + 1) (Gt ad ca D (some .int) (QI r N)) 0 [(0, vR (some x0)), (1, vI x1), (2, vI x2)] [] M
  unfold fX9_seenBy at h
  refine J_aload_n (pc := 0) (q := 0) rfl rfl dX9_seenBy_0 ?_
  refine J_iload_n (pc := 1) (q := 1) rfl rfl dX9_seenBy_1 ?_
  obtain ⟨b2, hb2, g_1⟩ := bnd h
  obtain ⟨r2, M2, h2, g_2⟩ := bnd2 g_1
  refine J_callVI (pc := 2) (as := [vI x1]) (tX9_seesFrom (d := d)  h2) cf_X9_seesFrom cv_X9_seesFrom clF9 hb2 ml_RX9_280 (by omega) (Nat.le_of_ble_eq_true rfl) dX9_seenBy_2 ?_
  refine J_aload_n (pc := 5) (q := 0) rfl rfl dX9_seenBy_5 ?_
  refine J_iload_n (pc := 6) (q := 2) rfl rfl dX9_seenBy_6 ?_
  obtain ⟨b7, hb7, g_3⟩ := bnd g_2
  obtain ⟨r7, M7, h7, g_4⟩ := bnd2 g_3
  refine J_callVI (pc := 7) (as := [vI x2]) (tX9_seesFrom (d := d)  h7) cf_X9_seesFrom cv_X9_seesFrom clF9 hb7 ml_RX9_280 (by omega) (Nat.le_of_ble_eq_true rfl) dX9_seenBy_7 ?_
  refine J_ior (pc := 10) dX9_seenBy_10 ?_
  exact J_iret (pc := 11) (qi_of g_4) dX9_seenBy_11
set_option maxHeartbeats 4000000 in
set_option maxRecDepth 100000 in
theorem jX9_sees_b13 {ad : Nat → Nat} {ca : Nat → ClassId} {D : va_G} {FU d : Nat} {r : Int32} {N : Mem}   {x0 : Nat} {x1 : Int32} {s0 : Int32} {M : Mem}   (h : fX9_sees_b13 FU  x0 x1 s0 M = some (r, N)) : J ad ca D cX9_sees RX9 4 (d + 2) (Gt ad ca D (some .int) (QI r N)) 13 [(0, vR (some x0)), (1, vI x1)] [vI s0] M := by
  unfold fX9_sees_b13 at h
  refine J_istore_n (pc := 13) rfl (by decide) (lv' := [(0, vR (some x0)), (1, vI x1), (3, vI s0)]) rfl dX9_sees_13 ?_
  refine J_aload_n (pc := 14) (q := 0) rfl rfl dX9_sees_14 ?_
  refine J_iload_n (pc := 15) (q := 1) rfl rfl dX9_sees_15 ?_
  obtain ⟨b16, hb16, g_1⟩ := bnd h
  obtain ⟨r16, M16, h16, g_2⟩ := bnd2 g_1
  refine J_callVI (pc := 16) (as := [vI x1]) (tX9_isPlace (d := d)  h16) cf_X9_isPlace cv_X9_isPlace clF9 hb16 ml_RX9_163 (by omega) (Nat.le_of_ble_eq_true rfl) dX9_sees_16 ?_
  refine J_ifeq (pc := 19) (tgt := 39) (by decide) dX9_sees_19 (fun hc19 => ?_) (fun hc19 => ?_)
  · rw [if_pos hc19] at g_2
    refine J_bipush (pc := 39) (v := (-2 : Int32)) (by decide) dX9_sees_39 ?_
    exact J_iret (pc := 41) (qi_of g_2) dX9_sees_41
  · rw [if_neg hc19] at g_2
    refine J_aload_n (pc := 22) (q := 0) rfl rfl dX9_sees_22 ?_
    refine J_iload_n (pc := 23) (q := 2) rfl rfl dX9_sees_23 ?_
    obtain ⟨b24, hb24, g_3⟩ := bnd g_2
    obtain ⟨r24, M24, h24, g_4⟩ := bnd2 g_3
    refine J_callVI (pc := 24) (as := [vI s0]) (tX9_isPlace (d := d)  h24) cf_X9_isPlace cv_X9_isPlace clF9 hb24 ml_RX9_163 (by omega) (Nat.le_of_ble_eq_true rfl) dX9_sees_24 ?_
    refine J_ifeq (pc := 27) (tgt := 39) (by decide) dX9_sees_27 (fun hc27 => ?_) (fun hc27 => ?_)
    · rw [if_pos hc27] at g_4
      refine J_bipush (pc := 39) (v := (-2 : Int32)) (by decide) dX9_sees_39 ?_
      exact J_iret (pc := 41) (qi_of g_4) dX9_sees_41
    · rw [if_neg hc27] at g_4
      refine J_aload_n (pc := 30) (q := 0) rfl rfl dX9_sees_30 ?_
      refine J_iload_n (pc := 31) (q := 1) rfl rfl dX9_sees_31 ?_
      refine J_iload_n (pc := 32) (q := 2) rfl rfl dX9_sees_32 ?_
      obtain ⟨b33, hb33, g_5⟩ := bnd g_4
      obtain ⟨r33, M33, h33, g_6⟩ := bnd2 g_5
      refine J_callVI (pc := 33) (as := [vI x1, vI s0]) (tX9_seenBy (d := d)  h33) cf_X9_seenBy cv_X9_seenBy clF9 hb33 ml_RX9_283 (by omega) (Nat.le_of_ble_eq_true rfl) dX9_sees_33 ?_
      refine J_goto (pc := 36) (tgt := 41) (by decide) dX9_sees_36 ?_
      exact J_iret (pc := 41) (qi_of g_6) dX9_sees_41
set_option maxHeartbeats 4000000 in
set_option maxRecDepth 100000 in
theorem tX9_sees {ad : Nat → Nat} {ca : Nat → ClassId} {D : va_G} {FU d : Nat} {r : Int32} {N : Mem}  {x0 : Nat} {x1 : Int32} {x2 : Int32} {M : Mem}  (h : fX9_sees FU  x0 x1 x2 M = some (r, N)) : Ct ad ca D yX9_sees cX9_sees 4 (some .int) (d + 2) [vR (some x0), vI x1, vI x2] M (QI r N) := by
  refine Ct_of (by decide) (Nat.le_of_ble_eq_true rfl) ?_
  show J ad ca D cX9_sees RX9 4 (d + 2) (Gt ad ca D (some .int) (QI r N)) 0 [(0, vR (some x0)), (1, vI x1), (2, vI x2)] [] M
  unfold fX9_sees at h
  refine J_aload_n (pc := 0) (q := 0) rfl rfl dX9_sees_0 ?_
  obtain ⟨a1, h1, g_7⟩ := bnd h
  refine J_getI (pc := 1) (i := 2) clF9 (by decide) rfl fl_RX9_13 h1 dX9_sees_1 ?_
  refine J_iconst (pc := 4) (v := (1 : Int32)) (by decide) dX9_sees_4 ?_
  refine J_icne (pc := 5) (tgt := 12) (by decide) dX9_sees_5 (fun hc5 => ?_) (fun hc5 => ?_)
  · rw [if_pos hc5] at g_7
    refine J_iload_n (pc := 12) (q := 2) rfl rfl dX9_sees_12 ?_
    refine J_sub [0, 1] (lv' := [(0, vR (some x0)), (1, vI x1)]) rfl ?_
    exact jX9_sees_b13  g_7
  · rw [if_neg hc5] at g_7
    refine J_iload_n (pc := 8) (q := 1) rfl rfl dX9_sees_8 ?_
    refine J_goto (pc := 9) (tgt := 13) (by decide) dX9_sees_9 ?_
    refine J_sub [0, 1] (lv' := [(0, vR (some x0)), (1, vI x1)]) rfl ?_
    exact jX9_sees_b13  g_7
set_option maxHeartbeats 4000000 in
set_option maxRecDepth 100000 in
theorem jX9_runs_b88 {ad : Nat → Nat} {ca : Nat → ClassId} {D : va_G} {FU d : Nat} {r : Int32} {N : Mem}  {k6 : Int32 → Int32 → Mem → Option (Int32 × Mem)} {k49 : Int32 → Int32 → Mem → Option (Int32 × Mem)} {x0 : Nat} {x1 : Int32} {x2 : Int32} {x3 : Int32} {x4 : Int32} {x5 : Int32} {x6 : Int32} {x7 : Int32} {M : Mem}  (hk6 : ∀ (y5 : Int32) (y6 : Int32) (M : Mem), k6 y5 y6 M = some (r, N) → J ad ca D cX9_runs RX9 8 (d + 4) (Gt ad ca D (some .int) (QI r N)) 6 [(0, vR (some x0)), (1, vI x1), (2, vI x2), (3, vI x3), (4, vI x4), (5, vI y5), (6, vI y6)] [] M) (hk49 : ∀ (y5 : Int32) (y7 : Int32) (M : Mem), k49 y5 y7 M = some (r, N) → J ad ca D cX9_runs RX9 8 (d + 4) (Gt ad ca D (some .int) (QI r N)) 49 [(0, vR (some x0)), (1, vI x1), (2, vI x2), (3, vI x3), (4, vI x4), (5, vI y5), (6, vI x6), (7, vI y7)] [] M) (h : fX9_runs_b88 FU  k6 k49 x0 x1 x2 x3 x4 x5 x6 x7 M = some (r, N)) : J ad ca D cX9_runs RX9 8 (d + 4) (Gt ad ca D (some .int) (QI r N)) 88 [(0, vR (some x0)), (1, vI x1), (2, vI x2), (3, vI x3), (4, vI x4), (5, vI x5), (6, vI x6), (7, vI x7)] [] M := by
  unfold fX9_runs_b88 at h
  refine J_iinc (pc := 88) (q := 7) rfl (v := x7 + (1 : Int32)) rfl (by decide) (lv' := [(0, vR (some x0)), (1, vI x1), (2, vI x2), (3, vI x3), (4, vI x4), (5, vI x5), (6, vI x6), (7, vI (x7 + (1 : Int32)))]) rfl dX9_runs_88 ?_
  refine J_goto (pc := 91) (tgt := 49) (by decide) dX9_runs_91 ?_
  exact hk49 _ _ _ h
set_option maxHeartbeats 4000000 in
set_option maxRecDepth 100000 in
theorem jX9_runs_b94 {ad : Nat → Nat} {ca : Nat → ClassId} {D : va_G} {FU d : Nat} {r : Int32} {N : Mem}  {k6 : Int32 → Int32 → Mem → Option (Int32 × Mem)} {x0 : Nat} {x1 : Int32} {x2 : Int32} {x3 : Int32} {x4 : Int32} {x5 : Int32} {x6 : Int32} {M : Mem}  (hk6 : ∀ (y5 : Int32) (y6 : Int32) (M : Mem), k6 y5 y6 M = some (r, N) → J ad ca D cX9_runs RX9 8 (d + 4) (Gt ad ca D (some .int) (QI r N)) 6 [(0, vR (some x0)), (1, vI x1), (2, vI x2), (3, vI x3), (4, vI x4), (5, vI y5), (6, vI y6)] [] M) (h : fX9_runs_b94 FU  k6 x0 x1 x2 x3 x4 x5 x6 M = some (r, N)) : J ad ca D cX9_runs RX9 8 (d + 4) (Gt ad ca D (some .int) (QI r N)) 94 [(0, vR (some x0)), (1, vI x1), (2, vI x2), (3, vI x3), (4, vI x4), (5, vI x5), (6, vI x6)] [] M := by
  unfold fX9_runs_b94 at h
  refine J_iinc (pc := 94) (q := 6) rfl (v := x6 + (1 : Int32)) rfl (by decide) (lv' := [(0, vR (some x0)), (1, vI x1), (2, vI x2), (3, vI x3), (4, vI x4), (5, vI x5), (6, vI (x6 + (1 : Int32)))]) rfl dX9_runs_94 ?_
  refine J_goto (pc := 97) (tgt := 6) (by decide) dX9_runs_97 ?_
  exact hk6 _ _ _ h
set_option maxHeartbeats 4000000 in
set_option maxRecDepth 100000 in
theorem jX9_runs_L49 {ad : Nat → Nat} {ca : Nat → ClassId} {D : va_G} {FU d : Nat} {r : Int32} {N : Mem}  {k6 : Int32 → Int32 → Mem → Option (Int32 × Mem)} {x0 : Nat} {x1 : Int32} {x2 : Int32} {x3 : Int32} {x4 : Int32} {x6 : Int32}  (hk6 : ∀ (y5 : Int32) (y6 : Int32) (M : Mem), k6 y5 y6 M = some (r, N) → J ad ca D cX9_runs RX9 8 (d + 4) (Gt ad ca D (some .int) (QI r N)) 6 [(0, vR (some x0)), (1, vI x1), (2, vI x2), (3, vI x3), (4, vI x4), (5, vI y5), (6, vI y6)] [] M) : ∀ (F : Nat) (x5 : Int32) (x7 : Int32) (M : Mem), fX9_runs_L49 FU  k6 x0 x1 x2 x3 x4 x6 F x5 x7 M = some (r, N) → J ad ca D cX9_runs RX9 8 (d + 4) (Gt ad ca D (some .int) (QI r N)) 49 [(0, vR (some x0)), (1, vI x1), (2, vI x2), (3, vI x3), (4, vI x4), (5, vI x5), (6, vI x6), (7, vI x7)] [] M := by
  intro F
  induction F with
  | zero =>
    intro x5 x7 M h
    rw [fX9_runs_L49] at h
    cases h
  | succ F hk49 =>
    intro x5 x7 M h
    rw [fX9_runs_L49] at h
    refine J_iload (pc := 49) (q := 7) rfl dX9_runs_49 ?_
    refine J_aload_n (pc := 51) (q := 0) rfl rfl dX9_runs_51 ?_
    obtain ⟨a52, h52, g_1⟩ := bnd h
    refine J_getI (pc := 52) (i := 1) clF9 (by decide) rfl fl_RX9_7 h52 dX9_runs_52 ?_
    refine J_icge (pc := 55) (tgt := 94) (by decide) dX9_runs_55 (fun hc55 => ?_) (fun hc55 => ?_)
    · rw [if_pos hc55] at g_1
      refine J_sub [0, 1, 2, 3, 4, 5, 6] (lv' := [(0, vR (some x0)), (1, vI x1), (2, vI x2), (3, vI x3), (4, vI x4), (5, vI x5), (6, vI x6)]) rfl ?_
      exact jX9_runs_b94 hk6 g_1
    · rw [if_neg hc55] at g_1
      refine J_aload_n (pc := 58) (q := 0) rfl rfl dX9_runs_58 ?_
      refine J_iload (pc := 59) (q := 7) rfl dX9_runs_59 ?_
      refine J_iload (pc := 61) (q := 6) rfl dX9_runs_61 ?_
      refine J_iload_n (pc := 63) (q := 2) rfl rfl dX9_runs_63 ?_
      refine J_iload_n (pc := 64) (q := 3) rfl rfl dX9_runs_64 ?_
      refine J_iload (pc := 65) (q := 4) rfl dX9_runs_65 ?_
      obtain ⟨b67, hb67, g_2⟩ := bnd g_1
      obtain ⟨r67, M67, h67, g_3⟩ := bnd2 g_2
      refine J_callVI (pc := 67) (as := [vI x7, vI x6, vI x2, vI x3, vI x4]) (tX9_mayRun (d := d)  h67) cf_X9_mayRun cv_X9_mayRun clF9 hb67 ml_RX9_213 (by omega) (Nat.le_of_ble_eq_true rfl) dX9_runs_67 ?_
      refine J_ifeq (pc := 70) (tgt := 88) (by decide) dX9_runs_70 (fun hc70 => ?_) (fun hc70 => ?_)
      · rw [if_pos hc70] at g_3
        exact jX9_runs_b88 hk6 hk49 g_3
      · rw [if_neg hc70] at g_3
        refine J_iload (pc := 73) (q := 5) rfl dX9_runs_73 ?_
        refine J_iconst (pc := 75) (v := (1 : Int32)) (by decide) dX9_runs_75 ?_
        refine J_aload_n (pc := 76) (q := 0) rfl rfl dX9_runs_76 ?_
        refine J_iload (pc := 77) (q := 7) rfl dX9_runs_77 ?_
        refine J_iload (pc := 79) (q := 6) rfl dX9_runs_79 ?_
        obtain ⟨b81, hb81, g_4⟩ := bnd g_3
        obtain ⟨r81, M81, h81, g_5⟩ := bnd2 g_4
        refine J_callVI (pc := 81) (as := [vI x7, vI x6]) (tX9_leads (d := d)  h81) cf_X9_leads cv_X9_leads clF9 hb81 ml_RX9_184 (by omega) (Nat.le_of_ble_eq_true rfl) dX9_runs_81 ?_
        refine J_ishl (pc := 84) dX9_runs_84 ?_
        refine J_ior (pc := 85) dX9_runs_85 ?_
        refine J_istore (pc := 86) (by decide) (lv' := [(0, vR (some x0)), (1, vI x1), (2, vI x2), (3, vI x3), (4, vI x4), (6, vI x6), (7, vI x7), (5, vI (x5 ||| ((1 : Int32) <<< (r81 &&& 31))))]) rfl dX9_runs_86 ?_
        refine J_sub [0, 1, 2, 3, 4, 7, 5, 6] (lv' := [(0, vR (some x0)), (1, vI x1), (2, vI x2), (3, vI x3), (4, vI x4), (5, vI (x5 ||| ((1 : Int32) <<< (r81 &&& 31)))), (6, vI x6), (7, vI x7)]) rfl ?_
        exact jX9_runs_b88 hk6 hk49 g_5
set_option maxHeartbeats 4000000 in
set_option maxRecDepth 100000 in
theorem jX9_runs_b46 {ad : Nat → Nat} {ca : Nat → ClassId} {D : va_G} {FU d : Nat} {r : Int32} {N : Mem}  {k6 : Int32 → Int32 → Mem → Option (Int32 × Mem)} {x0 : Nat} {x1 : Int32} {x2 : Int32} {x3 : Int32} {x4 : Int32} {x5 : Int32} {x6 : Int32} {M : Mem}  (hk6 : ∀ (y5 : Int32) (y6 : Int32) (M : Mem), k6 y5 y6 M = some (r, N) → J ad ca D cX9_runs RX9 8 (d + 4) (Gt ad ca D (some .int) (QI r N)) 6 [(0, vR (some x0)), (1, vI x1), (2, vI x2), (3, vI x3), (4, vI x4), (5, vI y5), (6, vI y6)] [] M) (h : fX9_runs_b46 FU  k6 x0 x1 x2 x3 x4 x5 x6 M = some (r, N)) : J ad ca D cX9_runs RX9 8 (d + 4) (Gt ad ca D (some .int) (QI r N)) 46 [(0, vR (some x0)), (1, vI x1), (2, vI x2), (3, vI x3), (4, vI x4), (5, vI x5), (6, vI x6)] [] M := by
  unfold fX9_runs_b46 at h
  refine J_iconst (pc := 46) (v := (0 : Int32)) (by decide) dX9_runs_46 ?_
  refine J_istore (pc := 47) (by decide) (lv' := [(0, vR (some x0)), (1, vI x1), (2, vI x2), (3, vI x3), (4, vI x4), (5, vI x5), (6, vI x6), (7, vI (0 : Int32))]) rfl dX9_runs_47 ?_
  exact jX9_runs_L49 hk6 FU _ _ _ h
set_option maxHeartbeats 4000000 in
set_option maxRecDepth 100000 in
theorem jX9_runs_L6 {ad : Nat → Nat} {ca : Nat → ClassId} {D : va_G} {FU d : Nat} {r : Int32} {N : Mem}   {x0 : Nat} {x1 : Int32} {x2 : Int32} {x3 : Int32} {x4 : Int32}   : ∀ (F : Nat) (x5 : Int32) (x6 : Int32) (M : Mem), fX9_runs_L6 FU  x0 x1 x2 x3 x4 F x5 x6 M = some (r, N) → J ad ca D cX9_runs RX9 8 (d + 4) (Gt ad ca D (some .int) (QI r N)) 6 [(0, vR (some x0)), (1, vI x1), (2, vI x2), (3, vI x3), (4, vI x4), (5, vI x5), (6, vI x6)] [] M := by
  intro F
  induction F with
  | zero =>
    intro x5 x6 M h
    rw [fX9_runs_L6] at h
    cases h
  | succ F hk6 =>
    intro x5 x6 M h
    rw [fX9_runs_L6] at h
    refine J_iload (pc := 6) (q := 6) rfl dX9_runs_6 ?_
    refine J_aload_n (pc := 8) (q := 0) rfl rfl dX9_runs_8 ?_
    obtain ⟨a9, h9, g_6⟩ := bnd h
    refine J_getI (pc := 9) (i := 0) clF9 (by decide) rfl fl_RX9_149 h9 dX9_runs_9 ?_
    refine J_icge (pc := 12) (tgt := 100) (by decide) dX9_runs_12 (fun hc12 => ?_) (fun hc12 => ?_)
    · rw [if_pos hc12] at g_6
      refine J_iload (pc := 100) (q := 5) rfl dX9_runs_100 ?_
      refine J_iconst (pc := 102) (v := (1 : Int32)) (by decide) dX9_runs_102 ?_
      refine J_iload_n (pc := 103) (q := 2) rfl rfl dX9_runs_103 ?_
      refine J_ishl (pc := 104) dX9_runs_104 ?_
      refine J_iconst (pc := 105) (v := (1 : Int32)) (by decide) dX9_runs_105 ?_
      refine J_iload_n (pc := 106) (q := 3) rfl rfl dX9_runs_106 ?_
      refine J_ishl (pc := 107) dX9_runs_107 ?_
      refine J_ior (pc := 108) dX9_runs_108 ?_
      refine J_iconst (pc := 109) (v := (-1 : Int32)) (by decide) dX9_runs_109 ?_
      refine J_ixor (pc := 110) dX9_runs_110 ?_
      refine J_iand (pc := 111) dX9_runs_111 ?_
      exact J_iret (pc := 112) (qi_of g_6) dX9_runs_112
    · rw [if_neg hc12] at g_6
      refine J_iload_n (pc := 15) (q := 1) rfl rfl dX9_runs_15 ?_
      refine J_iload (pc := 16) (q := 6) rfl dX9_runs_16 ?_
      refine J_ishr (pc := 18) dX9_runs_18 ?_
      refine J_iconst (pc := 19) (v := (1 : Int32)) (by decide) dX9_runs_19 ?_
      refine J_iand (pc := 20) dX9_runs_20 ?_
      refine J_ifne (pc := 21) (tgt := 27) (by decide) dX9_runs_21 (fun hc21 => ?_) (fun hc21 => ?_)
      · rw [if_pos hc21] at g_6
        refine J_aload_n (pc := 27) (q := 0) rfl rfl dX9_runs_27 ?_
        obtain ⟨a28, h28, g_7⟩ := bnd g_6
        refine J_getR (pc := 28) (i := 7) clF9 (by decide) rfl fl_RX9_29 h28 dX9_runs_28 ?_
        refine J_iload (pc := 31) (q := 6) rfl dX9_runs_31 ?_
        obtain ⟨a33, h33, g_8⟩ := bnd g_7
        refine J_ald1 (pc := 33) h33 dX9_runs_33 ?_
        refine J_ifeq (pc := 34) (tgt := 46) (by decide) dX9_runs_34 (fun hc34 => ?_) (fun hc34 => ?_)
        · rw [if_pos hc34] at g_8
          exact jX9_runs_b46 hk6 g_8
        · rw [if_neg hc34] at g_8
          refine J_iload (pc := 37) (q := 5) rfl dX9_runs_37 ?_
          refine J_iconst (pc := 39) (v := (1 : Int32)) (by decide) dX9_runs_39 ?_
          refine J_iload (pc := 40) (q := 6) rfl dX9_runs_40 ?_
          refine J_ishl (pc := 42) dX9_runs_42 ?_
          refine J_ior (pc := 43) dX9_runs_43 ?_
          refine J_istore (pc := 44) (by decide) (lv' := [(0, vR (some x0)), (1, vI x1), (2, vI x2), (3, vI x3), (4, vI x4), (6, vI x6), (5, vI (x5 ||| ((1 : Int32) <<< (x6 &&& 31))))]) rfl dX9_runs_44 ?_
          refine J_sub [0, 1, 2, 3, 4, 6, 5] (lv' := [(0, vR (some x0)), (1, vI x1), (2, vI x2), (3, vI x3), (4, vI x4), (5, vI (x5 ||| ((1 : Int32) <<< (x6 &&& 31)))), (6, vI x6)]) rfl ?_
          exact jX9_runs_b46 hk6 g_8
      · rw [if_neg hc21] at g_6
        refine J_goto (pc := 24) (tgt := 94) (by decide) dX9_runs_24 ?_
        exact jX9_runs_b94 hk6 g_6
set_option maxHeartbeats 4000000 in
set_option maxRecDepth 100000 in
theorem tX9_runs {ad : Nat → Nat} {ca : Nat → ClassId} {D : va_G} {FU d : Nat} {r : Int32} {N : Mem}  {x0 : Nat} {x1 : Int32} {x2 : Int32} {x3 : Int32} {x4 : Int32} {M : Mem}  (h : fX9_runs FU  x0 x1 x2 x3 x4 M = some (r, N)) : Ct ad ca D yX9_runs cX9_runs 8 (some .int) (d + 4) [vR (some x0), vI x1, vI x2, vI x3, vI x4] M (QI r N) := by
  refine Ct_of (by decide) (Nat.le_of_ble_eq_true rfl) ?_
  show J ad ca D cX9_runs RX9 8 (d + 4) (Gt ad ca D (some .int) (QI r N)) 0 [(0, vR (some x0)), (1, vI x1), (2, vI x2), (3, vI x3), (4, vI x4)] [] M
  unfold fX9_runs at h
  refine J_iconst (pc := 0) (v := (0 : Int32)) (by decide) dX9_runs_0 ?_
  refine J_istore (pc := 1) (by decide) (lv' := [(0, vR (some x0)), (1, vI x1), (2, vI x2), (3, vI x3), (4, vI x4), (5, vI (0 : Int32))]) rfl dX9_runs_1 ?_
  refine J_iconst (pc := 3) (v := (0 : Int32)) (by decide) dX9_runs_3 ?_
  refine J_istore (pc := 4) (by decide) (lv' := [(0, vR (some x0)), (1, vI x1), (2, vI x2), (3, vI x3), (4, vI x4), (5, vI (0 : Int32)), (6, vI (0 : Int32))]) rfl dX9_runs_4 ?_
  exact jX9_runs_L6  FU _ _ _ h
set_option maxHeartbeats 4000000 in
set_option maxRecDepth 100000 in
theorem tX9_hidden {ad : Nat → Nat} {ca : Nat → ClassId} {D : va_G} {FU d : Nat} {r : Int32} {N : Mem}  {x0 : Nat} {x1 : Int32} {x2 : Int32} {x3 : Int32} {M : Mem}  (h : fX9_hidden FU  x0 x1 x2 x3 M = some (r, N)) : Ct ad ca D yX9_hidden cX9_hidden 4 (some .int) (d + 0) [vR (some x0), vI x1, vI x2, vI x3] M (QI r N) := by
  refine Ct_of (by decide) (Nat.le_of_ble_eq_true rfl) ?_
  show J ad ca D cX9_hidden RX9 4 (d + 0) (Gt ad ca D (some .int) (QI r N)) 0 [(0, vR (some x0)), (1, vI x1), (2, vI x2), (3, vI x3)] [] M
  unfold fX9_hidden at h
  refine J_bipush (pc := 0) (v := (8 : Int32)) (by decide) dX9_hidden_0 ?_
  refine J_iload_n (pc := 2) (q := 1) rfl rfl dX9_hidden_2 ?_
  refine J_imul (pc := 3) dX9_hidden_3 ?_
  refine J_iload_n (pc := 4) (q := 2) rfl rfl dX9_hidden_4 ?_
  refine J_iadd (pc := 5) dX9_hidden_5 ?_
  refine J_bipush (pc := 6) (v := (64 : Int32)) (by decide) dX9_hidden_6 ?_
  refine J_imul (pc := 8) dX9_hidden_8 ?_
  refine J_iload_n (pc := 9) (q := 3) rfl rfl dX9_hidden_9 ?_
  refine J_iadd (pc := 10) dX9_hidden_10 ?_
  exact J_iret (pc := 11) (qi_of h) dX9_hidden_11
set_option maxHeartbeats 4000000 in
set_option maxRecDepth 100000 in
theorem jX9_runsFrom_b47 {ad : Nat → Nat} {ca : Nat → ClassId} {D : va_G} {FU d : Nat} {r : Int32} {N : Mem}  {k6 : Int32 → Int32 → Mem → Option (Int32 × Mem)} {x0 : Nat} {x1 : Int32} {x2 : Int32} {x3 : Int32} {x4 : Int32} {x5 : Int32} {M : Mem}  (hk6 : ∀ (y4 : Int32) (y5 : Int32) (M : Mem), k6 y4 y5 M = some (r, N) → J ad ca D cX9_runsFrom RX9 6 (d + 0) (Gt ad ca D (some .int) (QI r N)) 6 [(0, vR (some x0)), (1, vI x1), (2, vI x2), (3, vI x3), (4, vI y4), (5, vI y5)] [] M) (h : fX9_runsFrom_b47 FU  k6 x0 x1 x2 x3 x4 x5 M = some (r, N)) : J ad ca D cX9_runsFrom RX9 6 (d + 0) (Gt ad ca D (some .int) (QI r N)) 47 [(0, vR (some x0)), (1, vI x1), (2, vI x2), (3, vI x3), (4, vI x4), (5, vI x5)] [] M := by
  unfold fX9_runsFrom_b47 at h
  refine J_iinc (pc := 47) (q := 5) rfl (v := x5 + (1 : Int32)) rfl (by decide) (lv' := [(0, vR (some x0)), (1, vI x1), (2, vI x2), (3, vI x3), (4, vI x4), (5, vI (x5 + (1 : Int32)))]) rfl dX9_runsFrom_47 ?_
  refine J_goto (pc := 50) (tgt := 6) (by decide) dX9_runsFrom_50 ?_
  exact hk6 _ _ _ h
set_option maxHeartbeats 4000000 in
set_option maxRecDepth 100000 in
theorem jX9_runsFrom_L6 {ad : Nat → Nat} {ca : Nat → ClassId} {D : va_G} {FU d : Nat} {r : Int32} {N : Mem}   {x0 : Nat} {x1 : Int32} {x2 : Int32} {x3 : Int32}   : ∀ (F : Nat) (x4 : Int32) (x5 : Int32) (M : Mem), fX9_runsFrom_L6 FU  x0 x1 x2 x3 F x4 x5 M = some (r, N) → J ad ca D cX9_runsFrom RX9 6 (d + 0) (Gt ad ca D (some .int) (QI r N)) 6 [(0, vR (some x0)), (1, vI x1), (2, vI x2), (3, vI x3), (4, vI x4), (5, vI x5)] [] M := by
  intro F
  induction F with
  | zero =>
    intro x4 x5 M h
    rw [fX9_runsFrom_L6] at h
    cases h
  | succ F hk6 =>
    intro x4 x5 M h
    rw [fX9_runsFrom_L6] at h
    refine J_iload (pc := 6) (q := 5) rfl dX9_runsFrom_6 ?_
    refine J_aload_n (pc := 8) (q := 0) rfl rfl dX9_runsFrom_8 ?_
    obtain ⟨a9, h9, g_1⟩ := bnd h
    refine J_getI (pc := 9) (i := 0) clF9 (by decide) rfl fl_RX9_149 h9 dX9_runsFrom_9 ?_
    refine J_icge (pc := 12) (tgt := 53) (by decide) dX9_runsFrom_12 (fun hc12 => ?_) (fun hc12 => ?_)
    · rw [if_pos hc12] at g_1
      refine J_iload (pc := 53) (q := 4) rfl dX9_runsFrom_53 ?_
      exact J_iret (pc := 55) (qi_of g_1) dX9_runsFrom_55
    · rw [if_neg hc12] at g_1
      refine J_iload_n (pc := 15) (q := 1) rfl rfl dX9_runsFrom_15 ?_
      refine J_iload (pc := 16) (q := 5) rfl dX9_runsFrom_16 ?_
      refine J_ishr (pc := 18) dX9_runsFrom_18 ?_
      refine J_iconst (pc := 19) (v := (1 : Int32)) (by decide) dX9_runsFrom_19 ?_
      refine J_iand (pc := 20) dX9_runsFrom_20 ?_
      refine J_iconst (pc := 21) (v := (1 : Int32)) (by decide) dX9_runsFrom_21 ?_
      refine J_icne (pc := 22) (tgt := 47) (by decide) dX9_runsFrom_22 (fun hc22 => ?_) (fun hc22 => ?_)
      · rw [if_pos hc22] at g_1
        exact jX9_runsFrom_b47 hk6 g_1
      · rw [if_neg hc22] at g_1
        refine J_iload (pc := 25) (q := 4) rfl dX9_runsFrom_25 ?_
        refine J_aload_n (pc := 27) (q := 0) rfl rfl dX9_runsFrom_27 ?_
        obtain ⟨a28, h28, g_2⟩ := bnd g_1
        refine J_getR (pc := 28) (i := 17) clF9 (by decide) rfl fl_RX9_61 h28 dX9_runsFrom_28 ?_
        refine J_bipush (pc := 31) (v := (64 : Int32)) (by decide) dX9_runsFrom_31 ?_
        refine J_iload_n (pc := 33) (q := 2) rfl rfl dX9_runsFrom_33 ?_
        refine J_imul (pc := 34) dX9_runsFrom_34 ?_
        refine J_bipush (pc := 35) (v := (8 : Int32)) (by decide) dX9_runsFrom_35 ?_
        refine J_iload_n (pc := 37) (q := 3) rfl rfl dX9_runsFrom_37 ?_
        refine J_imul (pc := 38) dX9_runsFrom_38 ?_
        refine J_iadd (pc := 39) dX9_runsFrom_39 ?_
        refine J_iload (pc := 40) (q := 5) rfl dX9_runsFrom_40 ?_
        refine J_iadd (pc := 42) dX9_runsFrom_42 ?_
        obtain ⟨a43, h43, g_3⟩ := bnd g_2
        refine J_ald0 (pc := 43) h43 dX9_runsFrom_43 ?_
        refine J_ior (pc := 44) dX9_runsFrom_44 ?_
        refine J_istore (pc := 45) (by decide) (lv' := [(0, vR (some x0)), (1, vI x1), (2, vI x2), (3, vI x3), (5, vI x5), (4, vI (x4 ||| a43))]) rfl dX9_runsFrom_45 ?_
        refine J_sub [0, 1, 2, 3, 5, 4] (lv' := [(0, vR (some x0)), (1, vI x1), (2, vI x2), (3, vI x3), (4, vI (x4 ||| a43)), (5, vI x5)]) rfl ?_
        exact jX9_runsFrom_b47 hk6 g_3
set_option maxHeartbeats 4000000 in
set_option maxRecDepth 100000 in
theorem tX9_runsFrom {ad : Nat → Nat} {ca : Nat → ClassId} {D : va_G} {FU d : Nat} {r : Int32} {N : Mem}  {x0 : Nat} {x1 : Int32} {x2 : Int32} {x3 : Int32} {M : Mem}  (h : fX9_runsFrom FU  x0 x1 x2 x3 M = some (r, N)) : Ct ad ca D yX9_runsFrom cX9_runsFrom 6 (some .int) (d + 0) [vR (some x0), vI x1, vI x2, vI x3] M (QI r N) := by
  refine Ct_of (by decide) (Nat.le_of_ble_eq_true rfl) ?_
  show J ad ca D cX9_runsFrom RX9 6 (d + 0) (Gt ad ca D (some .int) (QI r N)) 0 [(0, vR (some x0)), (1, vI x1), (2, vI x2), (3, vI x3)] [] M
  unfold fX9_runsFrom at h
  refine J_iconst (pc := 0) (v := (0 : Int32)) (by decide) dX9_runsFrom_0 ?_
  refine J_istore (pc := 1) (by decide) (lv' := [(0, vR (some x0)), (1, vI x1), (2, vI x2), (3, vI x3), (4, vI (0 : Int32))]) rfl dX9_runsFrom_1 ?_
  refine J_iconst (pc := 3) (v := (0 : Int32)) (by decide) dX9_runsFrom_3 ?_
  refine J_istore (pc := 4) (by decide) (lv' := [(0, vR (some x0)), (1, vI x1), (2, vI x2), (3, vI x3), (4, vI (0 : Int32)), (5, vI (0 : Int32))]) rfl dX9_runsFrom_4 ?_
  exact jX9_runsFrom_L6  FU _ _ _ h
set_option maxHeartbeats 4000000 in
set_option maxRecDepth 100000 in
theorem jX9_allDone_b62 {ad : Nat → Nat} {ca : Nat → ClassId} {D : va_G} {FU d : Nat} {r : Int32} {N : Mem}  {k18 : Int32 → Mem → Option (Int32 × Mem)} {x0 : Nat} {x1 : Int32} {x2 : Int32} {x3 : Int32} {x4 : Int32} {x5 : Int32} {x6 : Int32} {M : Mem}  (hk18 : ∀ (y6 : Int32) (M : Mem), k18 y6 M = some (r, N) → J ad ca D cX9_allDone RX9 7 (d + 1) (Gt ad ca D (some .boolean) (QI r N)) 18 [(0, vR (some x0)), (1, vI x1), (2, vI x2), (3, vI x3), (4, vI x4), (5, vI x5), (6, vI y6)] [] M) (h : fX9_allDone_b62 FU  k18 x0 x1 x2 x3 x4 x5 x6 M = some (r, N)) : J ad ca D cX9_allDone RX9 7 (d + 1) (Gt ad ca D (some .boolean) (QI r N)) 62 [(0, vR (some x0)), (1, vI x1), (2, vI x2), (3, vI x3), (4, vI x4), (5, vI x5), (6, vI x6)] [] M := by
  unfold fX9_allDone_b62 at h
  refine J_iinc (pc := 62) (q := 6) rfl (v := x6 + (1 : Int32)) rfl (by decide) (lv' := [(0, vR (some x0)), (1, vI x1), (2, vI x2), (3, vI x3), (4, vI x4), (5, vI x5), (6, vI (x6 + (1 : Int32)))]) rfl dX9_allDone_62 ?_
  refine J_goto (pc := 65) (tgt := 18) (by decide) dX9_allDone_65 ?_
  exact hk18 _ _ h
set_option maxHeartbeats 4000000 in
set_option maxRecDepth 100000 in
theorem jX9_allDone_L18 {ad : Nat → Nat} {ca : Nat → ClassId} {D : va_G} {FU d : Nat} {r : Int32} {N : Mem}   {x0 : Nat} {x1 : Int32} {x2 : Int32} {x3 : Int32} {x4 : Int32} {x5 : Int32}   : ∀ (F : Nat) (x6 : Int32) (M : Mem), fX9_allDone_L18 FU  x0 x1 x2 x3 x4 x5 F x6 M = some (r, N) → J ad ca D cX9_allDone RX9 7 (d + 1) (Gt ad ca D (some .boolean) (QI r N)) 18 [(0, vR (some x0)), (1, vI x1), (2, vI x2), (3, vI x3), (4, vI x4), (5, vI x5), (6, vI x6)] [] M := by
  intro F
  induction F with
  | zero =>
    intro x6 M h
    rw [fX9_allDone_L18] at h
    cases h
  | succ F hk18 =>
    intro x6 M h
    rw [fX9_allDone_L18] at h
    refine J_iload (pc := 18) (q := 6) rfl dX9_allDone_18 ?_
    refine J_aload_n (pc := 20) (q := 0) rfl rfl dX9_allDone_20 ?_
    obtain ⟨a21, h21, g_1⟩ := bnd h
    refine J_getI (pc := 21) (i := 0) clF9 (by decide) rfl fl_RX9_149 h21 dX9_allDone_21 ?_
    refine J_icge (pc := 24) (tgt := 68) (by decide) dX9_allDone_24 (fun hc24 => ?_) (fun hc24 => ?_)
    · rw [if_pos hc24] at g_1
      refine J_aload_n (pc := 68) (q := 0) rfl rfl dX9_allDone_68 ?_
      obtain ⟨a69, h69, g_2⟩ := bnd g_1
      refine J_getR (pc := 69) (i := 14) clF9 (by decide) rfl fl_RX9_52 h69 dX9_allDone_69 ?_
      refine J_aload_n (pc := 72) (q := 0) rfl rfl dX9_allDone_72 ?_
      refine J_iload_n (pc := 73) (q := 2) rfl rfl dX9_allDone_73 ?_
      refine J_iload_n (pc := 74) (q := 3) rfl rfl dX9_allDone_74 ?_
      refine J_iload_n (pc := 75) (q := 1) rfl rfl dX9_allDone_75 ?_
      refine J_iload (pc := 76) (q := 5) rfl dX9_allDone_76 ?_
      refine J_iconst (pc := 78) (v := (-1 : Int32)) (by decide) dX9_allDone_78 ?_
      refine J_ixor (pc := 79) dX9_allDone_79 ?_
      refine J_iand (pc := 80) dX9_allDone_80 ?_
      obtain ⟨b81, hb81, g_3⟩ := bnd g_2
      obtain ⟨r81, M81, h81, g_4⟩ := bnd2 g_3
      refine J_callVI (pc := 81) (as := [vI x2, vI x3, vI (x1 &&& (x5 ^^^ (-1 : Int32)))]) (tX9_hidden (d := d)  h81) cf_X9_hidden cv_X9_hidden clF9 hb81 ml_RX9_286 (by omega) (Nat.le_of_ble_eq_true rfl) dX9_allDone_81 ?_
      obtain ⟨a84, h84, g_5⟩ := bnd g_4
      refine J_ald0 (pc := 84) h84 dX9_allDone_84 ?_
      refine J_iload (pc := 85) (q := 4) rfl dX9_allDone_85 ?_
      refine J_icge (pc := 87) (tgt := 94) (by decide) dX9_allDone_87 (fun hc87 => ?_) (fun hc87 => ?_)
      · rw [if_pos hc87] at g_5
        refine J_iconst (pc := 94) (v := (0 : Int32)) (by decide) dX9_allDone_94 ?_
        exact J_zret (pc := 95) (Or.inl rfl) (qi_of g_5) dX9_allDone_95
      · rw [if_neg hc87] at g_5
        refine J_iconst (pc := 90) (v := (1 : Int32)) (by decide) dX9_allDone_90 ?_
        refine J_goto (pc := 91) (tgt := 95) (by decide) dX9_allDone_91 ?_
        exact J_zret (pc := 95) (Or.inr rfl) (qi_of g_5) dX9_allDone_95
    · rw [if_neg hc24] at g_1
      refine J_iload_n (pc := 27) (q := 1) rfl rfl dX9_allDone_27 ?_
      refine J_iload (pc := 28) (q := 5) rfl dX9_allDone_28 ?_
      refine J_iand (pc := 30) dX9_allDone_30 ?_
      refine J_iload (pc := 31) (q := 6) rfl dX9_allDone_31 ?_
      refine J_ishr (pc := 33) dX9_allDone_33 ?_
      refine J_iconst (pc := 34) (v := (1 : Int32)) (by decide) dX9_allDone_34 ?_
      refine J_iand (pc := 35) dX9_allDone_35 ?_
      refine J_iconst (pc := 36) (v := (1 : Int32)) (by decide) dX9_allDone_36 ?_
      refine J_icne (pc := 37) (tgt := 62) (by decide) dX9_allDone_37 (fun hc37 => ?_) (fun hc37 => ?_)
      · rw [if_pos hc37] at g_1
        exact jX9_allDone_b62 hk18 g_1
      · rw [if_neg hc37] at g_1
        refine J_aload_n (pc := 40) (q := 0) rfl rfl dX9_allDone_40 ?_
        obtain ⟨a41, h41, g_6⟩ := bnd g_1
        refine J_getR (pc := 41) (i := 14) clF9 (by decide) rfl fl_RX9_52 h41 dX9_allDone_41 ?_
        refine J_aload_n (pc := 44) (q := 0) rfl rfl dX9_allDone_44 ?_
        refine J_iload_n (pc := 45) (q := 2) rfl rfl dX9_allDone_45 ?_
        refine J_iload_n (pc := 46) (q := 3) rfl rfl dX9_allDone_46 ?_
        refine J_iconst (pc := 47) (v := (1 : Int32)) (by decide) dX9_allDone_47 ?_
        refine J_iload (pc := 48) (q := 6) rfl dX9_allDone_48 ?_
        refine J_ishl (pc := 50) dX9_allDone_50 ?_
        obtain ⟨b51, hb51, g_7⟩ := bnd g_6
        obtain ⟨r51, M51, h51, g_8⟩ := bnd2 g_7
        refine J_callVI (pc := 51) (as := [vI x2, vI x3, vI ((1 : Int32) <<< (x6 &&& 31))]) (tX9_hidden (d := d)  h51) cf_X9_hidden cv_X9_hidden clF9 hb51 ml_RX9_286 (by omega) (Nat.le_of_ble_eq_true rfl) dX9_allDone_51 ?_
        obtain ⟨a54, h54, g_9⟩ := bnd g_8
        refine J_ald0 (pc := 54) h54 dX9_allDone_54 ?_
        refine J_iload (pc := 55) (q := 4) rfl dX9_allDone_55 ?_
        refine J_iclt (pc := 57) (tgt := 62) (by decide) dX9_allDone_57 (fun hc57 => ?_) (fun hc57 => ?_)
        · rw [if_pos hc57] at g_9
          exact jX9_allDone_b62 hk18 g_9
        · rw [if_neg hc57] at g_9
          refine J_iconst (pc := 60) (v := (0 : Int32)) (by decide) dX9_allDone_60 ?_
          exact J_zret (pc := 61) (Or.inl rfl) (qi_of g_9) dX9_allDone_61
set_option maxHeartbeats 4000000 in
set_option maxRecDepth 100000 in
theorem tX9_allDone {ad : Nat → Nat} {ca : Nat → ClassId} {D : va_G} {FU d : Nat} {r : Int32} {N : Mem}  {x0 : Nat} {x1 : Int32} {x2 : Int32} {x3 : Int32} {x4 : Int32} {M : Mem}  (h : fX9_allDone FU  x0 x1 x2 x3 x4 M = some (r, N)) : Ct ad ca D yX9_allDone cX9_allDone 7 (some .boolean) (d + 1) [vR (some x0), vI x1, vI x2, vI x3, vI x4] M (QI r N) := by
  refine Ct_of (by decide) (Nat.le_of_ble_eq_true rfl) ?_
  show J ad ca D cX9_allDone RX9 7 (d + 1) (Gt ad ca D (some .boolean) (QI r N)) 0 [(0, vR (some x0)), (1, vI x1), (2, vI x2), (3, vI x3), (4, vI x4)] [] M
  unfold fX9_allDone at h
  refine J_aload_n (pc := 0) (q := 0) rfl rfl dX9_allDone_0 ?_
  obtain ⟨a1, h1, g_10⟩ := bnd h
  refine J_getR (pc := 1) (i := 16) clF9 (by decide) rfl fl_RX9_58 h1 dX9_allDone_1 ?_
  refine J_iload_n (pc := 4) (q := 2) rfl rfl dX9_allDone_4 ?_
  obtain ⟨a5, h5, g_11⟩ := bnd g_10
  refine J_ald0 (pc := 5) h5 dX9_allDone_5 ?_
  refine J_aload_n (pc := 6) (q := 0) rfl rfl dX9_allDone_6 ?_
  obtain ⟨a7, h7, g_12⟩ := bnd g_11
  refine J_getR (pc := 7) (i := 16) clF9 (by decide) rfl fl_RX9_58 h7 dX9_allDone_7 ?_
  refine J_iload_n (pc := 10) (q := 3) rfl rfl dX9_allDone_10 ?_
  obtain ⟨a11, h11, g_13⟩ := bnd g_12
  refine J_ald0 (pc := 11) h11 dX9_allDone_11 ?_
  refine J_ior (pc := 12) dX9_allDone_12 ?_
  refine J_istore (pc := 13) (by decide) (lv' := [(0, vR (some x0)), (1, vI x1), (2, vI x2), (3, vI x3), (4, vI x4), (5, vI (a5 ||| a11))]) rfl dX9_allDone_13 ?_
  refine J_iconst (pc := 15) (v := (0 : Int32)) (by decide) dX9_allDone_15 ?_
  refine J_istore (pc := 16) (by decide) (lv' := [(0, vR (some x0)), (1, vI x1), (2, vI x2), (3, vI x3), (4, vI x4), (5, vI (a5 ||| a11)), (6, vI (0 : Int32))]) rfl dX9_allDone_16 ?_
  exact jX9_allDone_L18  FU _ _ g_13
set_option maxHeartbeats 4000000 in
set_option maxRecDepth 100000 in
theorem jX9_isDone_b84 {ad : Nat → Nat} {ca : Nat → ClassId} {D : va_G} {FU d : Nat} {r : Int32} {N : Mem}  {k31 : Int32 → Mem → Option (Int32 × Mem)} {x0 : Nat} {x2 : Int32} {x3 : Int32} {x4 : Int32} {x5 : Int32} {x6 : Int32} {x7 : Int32} {M : Mem}  (hk31 : ∀ (y7 : Int32) (M : Mem), k31 y7 M = some (r, N) → J ad ca D cX9_isDone RX9 8 (d + 2) (Gt ad ca D (some .boolean) (QI r N)) 31 [(0, vR (some x0)), (2, vI x2), (3, vI x3), (4, vI x4), (5, vI x5), (6, vI x6), (7, vI y7)] [] M) (h : fX9_isDone_b84 FU  k31 x0 x2 x3 x4 x5 x6 x7 M = some (r, N)) : J ad ca D cX9_isDone RX9 8 (d + 2) (Gt ad ca D (some .boolean) (QI r N)) 84 [(0, vR (some x0)), (2, vI x2), (3, vI x3), (4, vI x4), (5, vI x5), (6, vI x6), (7, vI x7)] [] M := by
  unfold fX9_isDone_b84 at h
  refine J_iinc (pc := 84) (q := 6) rfl (v := x7 + (1 : Int32)) rfl (by decide) (lv' := [(0, vR (some x0)), (2, vI x2), (3, vI x3), (4, vI x4), (5, vI x5), (6, vI x6), (7, vI (x7 + (1 : Int32)))]) rfl dX9_isDone_84 ?_
  refine J_goto (pc := 87) (tgt := 31) (by decide) dX9_isDone_87 ?_
  exact hk31 _ _ h
set_option maxHeartbeats 4000000 in
set_option maxRecDepth 100000 in
theorem jX9_isDone_L31 {ad : Nat → Nat} {ca : Nat → ClassId} {D : va_G} {FU d : Nat} {r : Int32} {N : Mem}   {x0 : Nat} {x2 : Int32} {x3 : Int32} {x4 : Int32} {x5 : Int32} {x6 : Int32}   : ∀ (F : Nat) (x7 : Int32) (M : Mem), fX9_isDone_L31 FU  x0 x2 x3 x4 x5 x6 F x7 M = some (r, N) → J ad ca D cX9_isDone RX9 8 (d + 2) (Gt ad ca D (some .boolean) (QI r N)) 31 [(0, vR (some x0)), (2, vI x2), (3, vI x3), (4, vI x4), (5, vI x5), (6, vI x6), (7, vI x7)] [] M := by
  intro F
  induction F with
  | zero =>
    intro x7 M h
    rw [fX9_isDone_L31] at h
    cases h
  | succ F hk31 =>
    intro x7 M h
    rw [fX9_isDone_L31] at h
    refine J_iload (pc := 31) (q := 6) rfl dX9_isDone_31 ?_
    refine J_aload_n (pc := 33) (q := 0) rfl rfl dX9_isDone_33 ?_
    obtain ⟨a34, h34, g_1⟩ := bnd h
    refine J_getI (pc := 34) (i := 0) clF9 (by decide) rfl fl_RX9_149 h34 dX9_isDone_34 ?_
    refine J_icge (pc := 37) (tgt := 90) (by decide) dX9_isDone_37 (fun hc37 => ?_) (fun hc37 => ?_)
    · rw [if_pos hc37] at g_1
      refine J_aload_n (pc := 90) (q := 0) rfl rfl dX9_isDone_90 ?_
      refine J_aload_n (pc := 91) (q := 0) rfl rfl dX9_isDone_91 ?_
      refine J_iload (pc := 92) (q := 4) rfl dX9_isDone_92 ?_
      refine J_iload (pc := 94) (q := 5) rfl dX9_isDone_94 ?_
      refine J_iconst (pc := 96) (v := (-1 : Int32)) (by decide) dX9_isDone_96 ?_
      refine J_ixor (pc := 97) dX9_isDone_97 ?_
      refine J_iand (pc := 98) dX9_isDone_98 ?_
      refine J_iload_n (pc := 99) (q := 1) rfl rfl dX9_isDone_99 ?_
      refine J_iload_n (pc := 100) (q := 2) rfl rfl dX9_isDone_100 ?_
      obtain ⟨b101, hb101, g_2⟩ := bnd g_1
      obtain ⟨r101, M101, h101, g_3⟩ := bnd2 g_2
      refine J_callVI (pc := 101) (as := [vI (x5 &&& (x6 ^^^ (-1 : Int32))), vI x2, vI x3]) (tX9_runsFrom (d := d)  h101) cf_X9_runsFrom cv_X9_runsFrom clF9 hb101 ml_RX9_294 (by omega) (Nat.le_of_ble_eq_true rfl) dX9_isDone_101 ?_
      refine J_iload_n (pc := 104) (q := 1) rfl rfl dX9_isDone_104 ?_
      refine J_iload_n (pc := 105) (q := 2) rfl rfl dX9_isDone_105 ?_
      refine J_iload (pc := 106) (q := 3) rfl dX9_isDone_106 ?_
      obtain ⟨b108, hb108, g_4⟩ := bnd g_3
      obtain ⟨r108, M108, h108, g_5⟩ := bnd2 g_4
      refine J_callVI (pc := 108) (as := [vI r101, vI x2, vI x3, vI x4]) (tX9_allDone (d := d)  h108) cf_X9_allDone cv_X9_allDone clF9 hb108 ml_RX9_290 (by omega) (Nat.le_of_ble_eq_true rfl) dX9_isDone_108 ?_
      obtain ⟨hz111, g_6⟩ := grd g_5
      exact J_zret (pc := 111) hz111 (qi_of g_6) dX9_isDone_111
    · rw [if_neg hc37] at g_1
      refine J_iload (pc := 40) (q := 4) rfl dX9_isDone_40 ?_
      refine J_iload (pc := 42) (q := 5) rfl dX9_isDone_42 ?_
      refine J_iand (pc := 44) dX9_isDone_44 ?_
      refine J_iload (pc := 45) (q := 6) rfl dX9_isDone_45 ?_
      refine J_ishr (pc := 47) dX9_isDone_47 ?_
      refine J_iconst (pc := 48) (v := (1 : Int32)) (by decide) dX9_isDone_48 ?_
      refine J_iand (pc := 49) dX9_isDone_49 ?_
      refine J_iconst (pc := 50) (v := (1 : Int32)) (by decide) dX9_isDone_50 ?_
      refine J_icne (pc := 51) (tgt := 84) (by decide) dX9_isDone_51 (fun hc51 => ?_) (fun hc51 => ?_)
      · rw [if_pos hc51] at g_1
        exact jX9_isDone_b84 hk31 g_1
      · rw [if_neg hc51] at g_1
        refine J_aload_n (pc := 54) (q := 0) rfl rfl dX9_isDone_54 ?_
        refine J_aload_n (pc := 55) (q := 0) rfl rfl dX9_isDone_55 ?_
        obtain ⟨a56, h56, g_7⟩ := bnd g_1
        refine J_getR (pc := 56) (i := 17) clF9 (by decide) rfl fl_RX9_61 h56 dX9_isDone_56 ?_
        refine J_bipush (pc := 59) (v := (64 : Int32)) (by decide) dX9_isDone_59 ?_
        refine J_iload_n (pc := 61) (q := 1) rfl rfl dX9_isDone_61 ?_
        refine J_imul (pc := 62) dX9_isDone_62 ?_
        refine J_bipush (pc := 63) (v := (8 : Int32)) (by decide) dX9_isDone_63 ?_
        refine J_iload_n (pc := 65) (q := 2) rfl rfl dX9_isDone_65 ?_
        refine J_imul (pc := 66) dX9_isDone_66 ?_
        refine J_iadd (pc := 67) dX9_isDone_67 ?_
        refine J_iload (pc := 68) (q := 6) rfl dX9_isDone_68 ?_
        refine J_iadd (pc := 70) dX9_isDone_70 ?_
        obtain ⟨a71, h71, g_8⟩ := bnd g_7
        refine J_ald0 (pc := 71) h71 dX9_isDone_71 ?_
        refine J_iload_n (pc := 72) (q := 1) rfl rfl dX9_isDone_72 ?_
        refine J_iload_n (pc := 73) (q := 2) rfl rfl dX9_isDone_73 ?_
        refine J_iload (pc := 74) (q := 3) rfl dX9_isDone_74 ?_
        obtain ⟨b76, hb76, g_9⟩ := bnd g_8
        obtain ⟨r76, M76, h76, g_10⟩ := bnd2 g_9
        refine J_callVI (pc := 76) (as := [vI a71, vI x2, vI x3, vI x4]) (tX9_allDone (d := d)  h76) cf_X9_allDone cv_X9_allDone clF9 hb76 ml_RX9_290 (by omega) (Nat.le_of_ble_eq_true rfl) dX9_isDone_76 ?_
        refine J_ifne (pc := 79) (tgt := 84) (by decide) dX9_isDone_79 (fun hc79 => ?_) (fun hc79 => ?_)
        · rw [if_pos hc79] at g_10
          exact jX9_isDone_b84 hk31 g_10
        · rw [if_neg hc79] at g_10
          refine J_iconst (pc := 82) (v := (0 : Int32)) (by decide) dX9_isDone_82 ?_
          exact J_zret (pc := 83) (Or.inl rfl) (qi_of g_10) dX9_isDone_83
set_option maxHeartbeats 4000000 in
set_option maxRecDepth 100000 in
theorem tX9_isDone {ad : Nat → Nat} {ca : Nat → ClassId} {D : va_G} {FU d : Nat} {r : Int32} {N : Mem}  {x0 : Nat} {x1 : Int32} {x2 : Int32} {x3 : Int32} {x4 : Int32} {M : Mem}  (h : fX9_isDone FU  x0 x1 x2 x3 x4 M = some (r, N)) : Ct ad ca D yX9_isDone cX9_isDone 8 (some .boolean) (d + 2) [vR (some x0), vI x1, vI x2, vI x3, vI x4] M (QI r N) := by
  refine Ct_of (by decide) (Nat.le_of_ble_eq_true rfl) ?_
  show J ad ca D cX9_isDone RX9 8 (d + 2) (Gt ad ca D (some .boolean) (QI r N)) 0 [(0, vR (some x0)), (1, vI x1), (2, vI x2), (3, vI x3), (4, vI x4)] [] M
  unfold fX9_isDone at h
  refine J_iload_n (pc := 0) (q := 1) rfl rfl dX9_isDone_0 ?_
  refine J_iconst (pc := 1) (v := (1 : Int32)) (by decide) dX9_isDone_1 ?_
  refine J_iload_n (pc := 2) (q := 2) rfl rfl dX9_isDone_2 ?_
  refine J_ishl (pc := 3) dX9_isDone_3 ?_
  refine J_iconst (pc := 4) (v := (1 : Int32)) (by decide) dX9_isDone_4 ?_
  refine J_iload_n (pc := 5) (q := 3) rfl rfl dX9_isDone_5 ?_
  refine J_ishl (pc := 6) dX9_isDone_6 ?_
  refine J_ior (pc := 7) dX9_isDone_7 ?_
  refine J_iconst (pc := 8) (v := (-1 : Int32)) (by decide) dX9_isDone_8 ?_
  refine J_ixor (pc := 9) dX9_isDone_9 ?_
  refine J_iand (pc := 10) dX9_isDone_10 ?_
  refine J_istore (pc := 11) (by decide) (lv' := [(0, vR (some x0)), (1, vI x1), (2, vI x2), (3, vI x3), (4, vI x4), (5, vI (x1 &&& ((((1 : Int32) <<< (x2 &&& 31)) ||| ((1 : Int32) <<< (x3 &&& 31))) ^^^ (-1 : Int32))))]) rfl dX9_isDone_11 ?_
  refine J_aload_n (pc := 13) (q := 0) rfl rfl dX9_isDone_13 ?_
  obtain ⟨a14, h14, g_11⟩ := bnd h
  refine J_getR (pc := 14) (i := 16) clF9 (by decide) rfl fl_RX9_58 h14 dX9_isDone_14 ?_
  refine J_iload_n (pc := 17) (q := 2) rfl rfl dX9_isDone_17 ?_
  obtain ⟨a18, h18, g_12⟩ := bnd g_11
  refine J_ald0 (pc := 18) h18 dX9_isDone_18 ?_
  refine J_aload_n (pc := 19) (q := 0) rfl rfl dX9_isDone_19 ?_
  obtain ⟨a20, h20, g_13⟩ := bnd g_12
  refine J_getR (pc := 20) (i := 16) clF9 (by decide) rfl fl_RX9_58 h20 dX9_isDone_20 ?_
  refine J_iload_n (pc := 23) (q := 3) rfl rfl dX9_isDone_23 ?_
  obtain ⟨a24, h24, g_14⟩ := bnd g_13
  refine J_ald0 (pc := 24) h24 dX9_isDone_24 ?_
  refine J_ior (pc := 25) dX9_isDone_25 ?_
  refine J_istore (pc := 26) (by decide) (lv' := [(0, vR (some x0)), (1, vI x1), (2, vI x2), (3, vI x3), (4, vI x4), (5, vI (x1 &&& ((((1 : Int32) <<< (x2 &&& 31)) ||| ((1 : Int32) <<< (x3 &&& 31))) ^^^ (-1 : Int32)))), (6, vI (a18 ||| a24))]) rfl dX9_isDone_26 ?_
  refine J_iconst (pc := 28) (v := (0 : Int32)) (by decide) dX9_isDone_28 ?_
  refine J_istore (pc := 29) (by decide) (lv' := [(0, vR (some x0)), (1, vI x1), (2, vI x2), (3, vI x3), (4, vI x4), (5, vI (x1 &&& ((((1 : Int32) <<< (x2 &&& 31)) ||| ((1 : Int32) <<< (x3 &&& 31))) ^^^ (-1 : Int32)))), (6, vI (a18 ||| a24)), (7, vI (0 : Int32))]) rfl dX9_isDone_29 ?_
  refine J_sub [0, 2, 3, 4, 5, 6, 7] (lv' := [(0, vR (some x0)), (2, vI x2), (3, vI x3), (4, vI x4), (5, vI (x1 &&& ((((1 : Int32) <<< (x2 &&& 31)) ||| ((1 : Int32) <<< (x3 &&& 31))) ^^^ (-1 : Int32)))), (6, vI (a18 ||| a24)), (7, vI (0 : Int32))]) rfl ?_
  exact jX9_isDone_L31  FU _ _ g_14
set_option maxHeartbeats 4000000 in
set_option maxRecDepth 100000 in
theorem jX9_huntersBehind_b15 {ad : Nat → Nat} {ca : Nat → ClassId} {D : va_G} {FU d : Nat} {r : Int32} {N : Mem}  {k3 : Int32 → Mem → Option (Int32 × Mem)} {x0 : Nat} {x1 : Int32} {x2 : Int32} {x3 : Int32} {x4 : Int32} {M : Mem}  (hk3 : ∀ (y4 : Int32) (M : Mem), k3 y4 M = some (r, N) → J ad ca D cX9_huntersBehind RX9 6 (d + 5) (Gt ad ca D (some .int) (QI r N)) 3 [(0, vR (some x0)), (1, vI x1), (2, vI x2), (3, vI x3), (4, vI y4)] [] M) (h : fX9_huntersBehind_b15 FU  k3 x0 x1 x2 x3 x4 M = some (r, N)) : J ad ca D cX9_huntersBehind RX9 6 (d + 5) (Gt ad ca D (some .int) (QI r N)) 15 [(0, vR (some x0)), (1, vI x1), (2, vI x2), (3, vI x3), (4, vI x4)] [] M := by
  unfold fX9_huntersBehind_b15 at h
  refine J_iinc (pc := 15) (q := 4) rfl (v := x4 + (1 : Int32)) rfl (by decide) (lv' := [(0, vR (some x0)), (1, vI x1), (2, vI x2), (3, vI x3), (4, vI (x4 + (1 : Int32)))]) rfl dX9_huntersBehind_15 ?_
  refine J_goto (pc := 18) (tgt := 3) (by decide) dX9_huntersBehind_18 ?_
  exact hk3 _ _ h
set_option maxHeartbeats 4000000 in
set_option maxRecDepth 100000 in
theorem jX9_huntersBehind_L3 {ad : Nat → Nat} {ca : Nat → ClassId} {D : va_G} {FU d : Nat} {r : Int32} {N : Mem}   {x0 : Nat} {x1 : Int32} {x2 : Int32} {x3 : Int32}   : ∀ (F : Nat) (x4 : Int32) (M : Mem), fX9_huntersBehind_L3 FU  x0 x1 x2 x3 F x4 M = some (r, N) → J ad ca D cX9_huntersBehind RX9 6 (d + 5) (Gt ad ca D (some .int) (QI r N)) 3 [(0, vR (some x0)), (1, vI x1), (2, vI x2), (3, vI x3), (4, vI x4)] [] M := by
  intro F
  induction F with
  | zero =>
    intro x4 M h
    rw [fX9_huntersBehind_L3] at h
    cases h
  | succ F hk3 =>
    intro x4 M h
    rw [fX9_huntersBehind_L3] at h
    refine J_iload (pc := 3) (q := 4) rfl dX9_huntersBehind_3 ?_
    refine J_iload_n (pc := 5) (q := 1) rfl rfl dX9_huntersBehind_5 ?_
    refine J_iceq (pc := 6) (tgt := 15) (by decide) dX9_huntersBehind_6 (fun hc6 => ?_) (fun hc6 => ?_)
    · rw [if_pos hc6] at h
      exact jX9_huntersBehind_b15 hk3 h
    · rw [if_neg hc6] at h
      refine J_iload (pc := 9) (q := 4) rfl dX9_huntersBehind_9 ?_
      refine J_iload_n (pc := 11) (q := 2) rfl rfl dX9_huntersBehind_11 ?_
      refine J_icne (pc := 12) (tgt := 21) (by decide) dX9_huntersBehind_12 (fun hc12 => ?_) (fun hc12 => ?_)
      · rw [if_pos hc12] at h
        refine J_aload_n (pc := 21) (q := 0) rfl rfl dX9_huntersBehind_21 ?_
        refine J_aload_n (pc := 22) (q := 0) rfl rfl dX9_huntersBehind_22 ?_
        refine J_iload_n (pc := 23) (q := 1) rfl rfl dX9_huntersBehind_23 ?_
        refine J_iload_n (pc := 24) (q := 2) rfl rfl dX9_huntersBehind_24 ?_
        refine J_iload (pc := 25) (q := 4) rfl dX9_huntersBehind_25 ?_
        refine J_iconst (pc := 27) (v := (0 : Int32)) (by decide) dX9_huntersBehind_27 ?_
        refine J_iconst (pc := 28) (v := (0 : Int32)) (by decide) dX9_huntersBehind_28 ?_
        obtain ⟨b29, hb29, g_1⟩ := bnd h
        obtain ⟨r29, M29, h29, g_2⟩ := bnd2 g_1
        refine J_callVI (pc := 29) (as := [vI x1, vI x2, vI x4, vI (0 : Int32), vI (0 : Int32)]) (tX9_standing (d := d)  h29) cf_X9_standing cv_X9_standing clF9 hb29 ml_RX9_180 (by omega) (Nat.le_of_ble_eq_true rfl) dX9_huntersBehind_29 ?_
        refine J_iload_n (pc := 32) (q := 3) rfl rfl dX9_huntersBehind_32 ?_
        obtain ⟨b33, hb33, g_3⟩ := bnd g_2
        obtain ⟨r33, M33, h33, g_4⟩ := bnd2 g_3
        refine J_callVI (pc := 33) (as := [vI r29, vI x3]) (tX9_behind (d := d)  h33) cf_X9_behind cv_X9_behind clF9 hb33 ml_RX9_220 (by omega) (Nat.le_of_ble_eq_true rfl) dX9_huntersBehind_33 ?_
        refine J_istore (pc := 36) (by decide) (lv' := [(0, vR (some x0)), (1, vI x1), (2, vI x2), (3, vI x3), (4, vI x4), (5, vI r33)]) rfl dX9_huntersBehind_36 ?_
        refine J_iload (pc := 38) (q := 5) rfl dX9_huntersBehind_38 ?_
        refine J_ifge (pc := 40) (tgt := 47) (by decide) dX9_huntersBehind_40 (fun hc40 => ?_) (fun hc40 => ?_)
        · rw [if_pos hc40] at g_4
          refine J_bipush (pc := 47) (v := (8 : Int32)) (by decide) dX9_huntersBehind_47 ?_
          refine J_aload_n (pc := 49) (q := 0) rfl rfl dX9_huntersBehind_49 ?_
          refine J_iload (pc := 50) (q := 5) rfl dX9_huntersBehind_50 ?_
          obtain ⟨b52, hb52, g_5⟩ := bnd g_4
          obtain ⟨r52, M52, h52, g_6⟩ := bnd2 g_5
          refine J_callVI (pc := 52) (as := [vI r33]) (tX9_firstOf (d := d)  h52) cf_X9_firstOf cv_X9_firstOf clF9 hb52 ml_RX9_195 (by omega) (Nat.le_of_ble_eq_true rfl) dX9_huntersBehind_52 ?_
          refine J_imul (pc := 55) dX9_huntersBehind_55 ?_
          refine J_aload_n (pc := 56) (q := 0) rfl rfl dX9_huntersBehind_56 ?_
          refine J_iload (pc := 57) (q := 5) rfl dX9_huntersBehind_57 ?_
          obtain ⟨b59, hb59, g_7⟩ := bnd g_6
          obtain ⟨r59, M59, h59, g_8⟩ := bnd2 g_7
          refine J_callVI (pc := 59) (as := [vI r33]) (tX9_secondOf (d := d)  h59) cf_X9_secondOf cv_X9_secondOf clF9 hb59 ml_RX9_198 (by omega) (Nat.le_of_ble_eq_true rfl) dX9_huntersBehind_59 ?_
          refine J_iadd (pc := 62) dX9_huntersBehind_62 ?_
          exact J_iret (pc := 63) (qi_of g_8) dX9_huntersBehind_63
        · rw [if_neg hc40] at g_4
          refine J_iconst (pc := 43) (v := (-1 : Int32)) (by decide) dX9_huntersBehind_43 ?_
          refine J_goto (pc := 44) (tgt := 63) (by decide) dX9_huntersBehind_44 ?_
          exact J_iret (pc := 63) (qi_of g_4) dX9_huntersBehind_63
      · rw [if_neg hc12] at h
        exact jX9_huntersBehind_b15 hk3 h
set_option maxHeartbeats 4000000 in
set_option maxRecDepth 100000 in
theorem tX9_huntersBehind {ad : Nat → Nat} {ca : Nat → ClassId} {D : va_G} {FU d : Nat} {r : Int32} {N : Mem}  {x0 : Nat} {x1 : Int32} {x2 : Int32} {x3 : Int32} {M : Mem}  (h : fX9_huntersBehind FU  x0 x1 x2 x3 M = some (r, N)) : Ct ad ca D yX9_huntersBehind cX9_huntersBehind 6 (some .int) (d + 5) [vR (some x0), vI x1, vI x2, vI x3] M (QI r N) := by
  refine Ct_of (by decide) (Nat.le_of_ble_eq_true rfl) ?_
  show J ad ca D cX9_huntersBehind RX9 6 (d + 5) (Gt ad ca D (some .int) (QI r N)) 0 [(0, vR (some x0)), (1, vI x1), (2, vI x2), (3, vI x3)] [] M
  unfold fX9_huntersBehind at h
  refine J_iconst (pc := 0) (v := (0 : Int32)) (by decide) dX9_huntersBehind_0 ?_
  refine J_istore (pc := 1) (by decide) (lv' := [(0, vR (some x0)), (1, vI x1), (2, vI x2), (3, vI x3), (4, vI (0 : Int32))]) rfl dX9_huntersBehind_1 ?_
  exact jX9_huntersBehind_L3  FU _ _ h
set_option maxHeartbeats 4000000 in
set_option maxRecDepth 100000 in
theorem jX9_canIn_b47 {ad : Nat → Nat} {ca : Nat → ClassId} {D : va_G} {FU d : Nat} {r : Int32} {N : Mem}  {k3 : Int32 → Mem → Option (Int32 × Mem)} {x0 : Nat} {x1 : Int32} {x2 : Int32} {x3 : Int32} {x4 : Int32} {x5 : Int32} {M : Mem}  (hk3 : ∀ (y5 : Int32) (M : Mem), k3 y5 M = some (r, N) → J ad ca D cX9_canIn RX9 7 (d + 6) (Gt ad ca D (some .boolean) (QI r N)) 3 [(0, vR (some x0)), (1, vI x1), (2, vI x2), (3, vI x3), (4, vI x4), (5, vI y5)] [] M) (h : fX9_canIn_b47 FU  k3 x0 x1 x2 x3 x4 x5 M = some (r, N)) : J ad ca D cX9_canIn RX9 7 (d + 6) (Gt ad ca D (some .boolean) (QI r N)) 47 [(0, vR (some x0)), (1, vI x1), (2, vI x2), (3, vI x3), (4, vI x4), (5, vI x5)] [] M := by
  unfold fX9_canIn_b47 at h
  refine J_iinc (pc := 47) (q := 5) rfl (v := x5 + (1 : Int32)) rfl (by decide) (lv' := [(0, vR (some x0)), (1, vI x1), (2, vI x2), (3, vI x3), (4, vI x4), (5, vI (x5 + (1 : Int32)))]) rfl dX9_canIn_47 ?_
  refine J_goto (pc := 50) (tgt := 3) (by decide) dX9_canIn_50 ?_
  exact hk3 _ _ h
set_option maxHeartbeats 4000000 in
set_option maxRecDepth 100000 in
theorem jX9_canIn_L3 {ad : Nat → Nat} {ca : Nat → ClassId} {D : va_G} {FU d : Nat} {r : Int32} {N : Mem}   {x0 : Nat} {x1 : Int32} {x2 : Int32} {x3 : Int32} {x4 : Int32}   : ∀ (F : Nat) (x5 : Int32) (M : Mem), fX9_canIn_L3 FU  x0 x1 x2 x3 x4 F x5 M = some (r, N) → J ad ca D cX9_canIn RX9 7 (d + 6) (Gt ad ca D (some .boolean) (QI r N)) 3 [(0, vR (some x0)), (1, vI x1), (2, vI x2), (3, vI x3), (4, vI x4), (5, vI x5)] [] M := by
  intro F
  induction F with
  | zero =>
    intro x5 M h
    rw [fX9_canIn_L3] at h
    cases h
  | succ F hk3 =>
    intro x5 M h
    rw [fX9_canIn_L3] at h
    refine J_iload (pc := 3) (q := 5) rfl dX9_canIn_3 ?_
    refine J_bipush (pc := 5) (v := (32 : Int32)) (by decide) dX9_canIn_5 ?_
    refine J_icgt (pc := 7) (tgt := 53) (by decide) dX9_canIn_7 (fun hc7 => ?_) (fun hc7 => ?_)
    · rw [if_pos hc7] at h
      refine J_iconst (pc := 53) (v := (0 : Int32)) (by decide) dX9_canIn_53 ?_
      exact J_zret (pc := 54) (Or.inl rfl) (qi_of h) dX9_canIn_54
    · rw [if_neg hc7] at h
      refine J_aload_n (pc := 10) (q := 0) rfl rfl dX9_canIn_10 ?_
      refine J_iload_n (pc := 11) (q := 1) rfl rfl dX9_canIn_11 ?_
      refine J_iload_n (pc := 12) (q := 2) rfl rfl dX9_canIn_12 ?_
      refine J_iload (pc := 13) (q := 5) rfl dX9_canIn_13 ?_
      obtain ⟨b15, hb15, g_1⟩ := bnd h
      obtain ⟨r15, M15, h15, g_2⟩ := bnd2 g_1
      refine J_callVI (pc := 15) (as := [vI x1, vI x2, vI x5]) (tX9_huntersBehind (d := d)  h15) cf_X9_huntersBehind cv_X9_huntersBehind clF9 hb15 ml_RX9_297 (by omega) (Nat.le_of_ble_eq_true rfl) dX9_canIn_15 ?_
      refine J_istore (pc := 18) (by decide) (lv' := [(0, vR (some x0)), (1, vI x1), (2, vI x2), (3, vI x3), (4, vI x4), (5, vI x5), (6, vI r15)]) rfl dX9_canIn_18 ?_
      refine J_iload (pc := 20) (q := 6) rfl dX9_canIn_20 ?_
      refine J_iflt (pc := 22) (tgt := 47) (by decide) dX9_canIn_22 (fun hc22 => ?_) (fun hc22 => ?_)
      · rw [if_pos hc22] at g_2
        refine J_sub [0, 1, 2, 3, 4, 5] (lv' := [(0, vR (some x0)), (1, vI x1), (2, vI x2), (3, vI x3), (4, vI x4), (5, vI x5)]) rfl ?_
        exact jX9_canIn_b47 hk3 g_2
      · rw [if_neg hc22] at g_2
        refine J_aload_n (pc := 25) (q := 0) rfl rfl dX9_canIn_25 ?_
        refine J_iload_n (pc := 26) (q := 3) rfl rfl dX9_canIn_26 ?_
        refine J_iload (pc := 27) (q := 6) rfl dX9_canIn_27 ?_
        refine J_bipush (pc := 29) (v := (8 : Int32)) (by decide) dX9_canIn_29 ?_
        refine J_idiv (pc := 31) (by decide) dX9_canIn_31 ?_
        refine J_iload (pc := 32) (q := 6) rfl dX9_canIn_32 ?_
        refine J_bipush (pc := 34) (v := (8 : Int32)) (by decide) dX9_canIn_34 ?_
        refine J_irem (pc := 36) (by decide) dX9_canIn_36 ?_
        refine J_iload (pc := 37) (q := 4) rfl dX9_canIn_37 ?_
        obtain ⟨b39, hb39, g_3⟩ := bnd g_2
        obtain ⟨r39, M39, h39, g_4⟩ := bnd2 g_3
        refine J_callVI (pc := 39) (as := [vI x3, vI (r15 / (8 : Int32)), vI (r15 - r15 / (8 : Int32) * (8 : Int32)), vI x4]) (tX9_isDone (d := d)  h39) cf_X9_isDone cv_X9_isDone clF9 hb39 ml_RX9_300 (by omega) (Nat.le_of_ble_eq_true rfl) dX9_canIn_39 ?_
        refine J_ifeq (pc := 42) (tgt := 47) (by decide) dX9_canIn_42 (fun hc42 => ?_) (fun hc42 => ?_)
        · rw [if_pos hc42] at g_4
          refine J_sub [0, 1, 2, 3, 4, 5] (lv' := [(0, vR (some x0)), (1, vI x1), (2, vI x2), (3, vI x3), (4, vI x4), (5, vI x5)]) rfl ?_
          exact jX9_canIn_b47 hk3 g_4
        · rw [if_neg hc42] at g_4
          refine J_iconst (pc := 45) (v := (1 : Int32)) (by decide) dX9_canIn_45 ?_
          exact J_zret (pc := 46) (Or.inr rfl) (qi_of g_4) dX9_canIn_46
set_option maxHeartbeats 4000000 in
set_option maxRecDepth 100000 in
theorem tX9_canIn {ad : Nat → Nat} {ca : Nat → ClassId} {D : va_G} {FU d : Nat} {r : Int32} {N : Mem}  {x0 : Nat} {x1 : Int32} {x2 : Int32} {x3 : Int32} {x4 : Int32} {M : Mem}  (h : fX9_canIn FU  x0 x1 x2 x3 x4 M = some (r, N)) : Ct ad ca D yX9_canIn cX9_canIn 7 (some .boolean) (d + 6) [vR (some x0), vI x1, vI x2, vI x3, vI x4] M (QI r N) := by
  refine Ct_of (by decide) (Nat.le_of_ble_eq_true rfl) ?_
  show J ad ca D cX9_canIn RX9 7 (d + 6) (Gt ad ca D (some .boolean) (QI r N)) 0 [(0, vR (some x0)), (1, vI x1), (2, vI x2), (3, vI x3), (4, vI x4)] [] M
  unfold fX9_canIn at h
  refine J_iconst (pc := 0) (v := (0 : Int32)) (by decide) dX9_canIn_0 ?_
  refine J_istore (pc := 1) (by decide) (lv' := [(0, vR (some x0)), (1, vI x1), (2, vI x2), (3, vI x3), (4, vI x4), (5, vI (0 : Int32))]) rfl dX9_canIn_1 ?_
  exact jX9_canIn_L3  FU _ _ h
set_option maxHeartbeats 4000000 in
set_option maxRecDepth 100000 in
theorem jX9_prepare_L49 {ad : Nat → Nat} {ca : Nat → ClassId} {D : va_G} {FU d : Nat} {N : Mem}  {k29 : Int32 → Mem → Option (Mem)} {k39 : Int32 → Mem → Option (Mem)} {x0 : Nat} {x1 : Int32} {x2 : Int32}  (hk29 : ∀ (y1 : Int32) (M : Mem), k29 y1 M = some N → J ad ca D cX9_prepare RX9 4 (d + 5) (Gt ad ca D none (QV N)) 29 [(0, vR (some x0)), (1, vI y1)] [] M) (hk39 : ∀ (y2 : Int32) (M : Mem), k39 y2 M = some N → J ad ca D cX9_prepare RX9 4 (d + 5) (Gt ad ca D none (QV N)) 39 [(0, vR (some x0)), (1, vI x1), (2, vI y2)] [] M) : ∀ (F : Nat) (x3 : Int32) (M : Mem), fX9_prepare_L49 FU  k29 k39 x0 x1 x2 F x3 M = some N → J ad ca D cX9_prepare RX9 4 (d + 5) (Gt ad ca D none (QV N)) 49 [(0, vR (some x0)), (1, vI x1), (2, vI x2), (3, vI x3)] [] M := by
  intro F
  induction F with
  | zero =>
    intro x3 M h
    rw [fX9_prepare_L49] at h
    cases h
  | succ F hk49 =>
    intro x3 M h
    rw [fX9_prepare_L49] at h
    refine J_iload_n (pc := 49) (q := 3) rfl rfl dX9_prepare_49 ?_
    refine J_aload_n (pc := 50) (q := 0) rfl rfl dX9_prepare_50 ?_
    obtain ⟨a51, h51, g_1⟩ := bnd h
    refine J_getI (pc := 51) (i := 0) clF9 (by decide) rfl fl_RX9_149 h51 dX9_prepare_51 ?_
    refine J_icge (pc := 54) (tgt := 89) (by decide) dX9_prepare_54 (fun hc54 => ?_) (fun hc54 => ?_)
    · rw [if_pos hc54] at g_1
      refine J_iinc (pc := 89) (q := 2) rfl (v := x2 + (1 : Int32)) rfl (by decide) (lv' := [(0, vR (some x0)), (1, vI x1), (3, vI x3), (2, vI (x2 + (1 : Int32)))]) rfl dX9_prepare_89 ?_
      refine J_goto (pc := 92) (tgt := 39) (by decide) dX9_prepare_92 ?_
      refine J_sub [0, 1, 3] (lv' := [(0, vR (some x0)), (1, vI x1), (2, vI (x2 + (1 : Int32)))]) rfl ?_
      exact hk39 _ _ g_1
    · rw [if_neg hc54] at g_1
      refine J_aload_n (pc := 57) (q := 0) rfl rfl dX9_prepare_57 ?_
      obtain ⟨a58, h58, g_2⟩ := bnd g_1
      refine J_getR (pc := 58) (i := 17) clF9 (by decide) rfl fl_RX9_61 h58 dX9_prepare_58 ?_
      refine J_bipush (pc := 61) (v := (64 : Int32)) (by decide) dX9_prepare_61 ?_
      refine J_iload_n (pc := 63) (q := 1) rfl rfl dX9_prepare_63 ?_
      refine J_imul (pc := 64) dX9_prepare_64 ?_
      refine J_bipush (pc := 65) (v := (8 : Int32)) (by decide) dX9_prepare_65 ?_
      refine J_iload_n (pc := 67) (q := 2) rfl rfl dX9_prepare_67 ?_
      refine J_imul (pc := 68) dX9_prepare_68 ?_
      refine J_iadd (pc := 69) dX9_prepare_69 ?_
      refine J_iload_n (pc := 70) (q := 3) rfl rfl dX9_prepare_70 ?_
      refine J_iadd (pc := 71) dX9_prepare_71 ?_
      refine J_aload_n (pc := 72) (q := 0) rfl rfl dX9_prepare_72 ?_
      refine J_iconst (pc := 73) (v := (1 : Int32)) (by decide) dX9_prepare_73 ?_
      refine J_iload_n (pc := 74) (q := 3) rfl rfl dX9_prepare_74 ?_
      refine J_ishl (pc := 75) dX9_prepare_75 ?_
      refine J_iload_n (pc := 76) (q := 1) rfl rfl dX9_prepare_76 ?_
      refine J_iload_n (pc := 77) (q := 2) rfl rfl dX9_prepare_77 ?_
      refine J_iconst (pc := 78) (v := (0 : Int32)) (by decide) dX9_prepare_78 ?_
      obtain ⟨b79, hb79, g_3⟩ := bnd g_2
      obtain ⟨r79, M79, h79, g_4⟩ := bnd2 g_3
      refine J_callVI (pc := 79) (as := [vI ((1 : Int32) <<< (x3 &&& 31)), vI x1, vI x2, vI (0 : Int32)]) (tX9_runs (d := d)  h79) cf_X9_runs cv_X9_runs clF9 hb79 ml_RX9_303 (by omega) (Nat.le_of_ble_eq_true rfl) dX9_prepare_79 ?_
      obtain ⟨M82, h82, g_5⟩ := bnd g_4
      refine J_ast0 (pc := 82) h82 dX9_prepare_82 ?_
      refine J_iinc (pc := 83) (q := 3) rfl (v := x3 + (1 : Int32)) rfl (by decide) (lv' := [(0, vR (some x0)), (1, vI x1), (2, vI x2), (3, vI (x3 + (1 : Int32)))]) rfl dX9_prepare_83 ?_
      refine J_goto (pc := 86) (tgt := 49) (by decide) dX9_prepare_86 ?_
      exact hk49 _ _ g_5
set_option maxHeartbeats 4000000 in
set_option maxRecDepth 100000 in
theorem jX9_prepare_L39 {ad : Nat → Nat} {ca : Nat → ClassId} {D : va_G} {FU d : Nat} {N : Mem}  {k29 : Int32 → Mem → Option (Mem)} {x0 : Nat} {x1 : Int32}  (hk29 : ∀ (y1 : Int32) (M : Mem), k29 y1 M = some N → J ad ca D cX9_prepare RX9 4 (d + 5) (Gt ad ca D none (QV N)) 29 [(0, vR (some x0)), (1, vI y1)] [] M) : ∀ (F : Nat) (x2 : Int32) (M : Mem), fX9_prepare_L39 FU  k29 x0 x1 F x2 M = some N → J ad ca D cX9_prepare RX9 4 (d + 5) (Gt ad ca D none (QV N)) 39 [(0, vR (some x0)), (1, vI x1), (2, vI x2)] [] M := by
  intro F
  induction F with
  | zero =>
    intro x2 M h
    rw [fX9_prepare_L39] at h
    cases h
  | succ F hk39 =>
    intro x2 M h
    rw [fX9_prepare_L39] at h
    refine J_iload_n (pc := 39) (q := 2) rfl rfl dX9_prepare_39 ?_
    refine J_aload_n (pc := 40) (q := 0) rfl rfl dX9_prepare_40 ?_
    obtain ⟨a41, h41, g_6⟩ := bnd h
    refine J_getI (pc := 41) (i := 0) clF9 (by decide) rfl fl_RX9_149 h41 dX9_prepare_41 ?_
    refine J_icge (pc := 44) (tgt := 95) (by decide) dX9_prepare_44 (fun hc44 => ?_) (fun hc44 => ?_)
    · rw [if_pos hc44] at g_6
      refine J_iinc (pc := 95) (q := 1) rfl (v := x1 + (1 : Int32)) rfl (by decide) (lv' := [(0, vR (some x0)), (2, vI x2), (1, vI (x1 + (1 : Int32)))]) rfl dX9_prepare_95 ?_
      refine J_goto (pc := 98) (tgt := 29) (by decide) dX9_prepare_98 ?_
      refine J_sub [0, 2] (lv' := [(0, vR (some x0)), (1, vI (x1 + (1 : Int32)))]) rfl ?_
      exact hk29 _ _ g_6
    · rw [if_neg hc44] at g_6
      refine J_iconst (pc := 47) (v := (0 : Int32)) (by decide) dX9_prepare_47 ?_
      refine J_istore_n (pc := 48) rfl (by decide) (lv' := [(0, vR (some x0)), (1, vI x1), (2, vI x2), (3, vI (0 : Int32))]) rfl dX9_prepare_48 ?_
      exact jX9_prepare_L49 hk29 hk39 FU _ _ g_6
set_option maxHeartbeats 4000000 in
set_option maxRecDepth 100000 in
theorem jX9_prepare_L29 {ad : Nat → Nat} {ca : Nat → ClassId} {D : va_G} {FU d : Nat} {N : Mem}   {x0 : Nat}   : ∀ (F : Nat) (x1 : Int32) (M : Mem), fX9_prepare_L29 FU  x0 F x1 M = some N → J ad ca D cX9_prepare RX9 4 (d + 5) (Gt ad ca D none (QV N)) 29 [(0, vR (some x0)), (1, vI x1)] [] M := by
  intro F
  induction F with
  | zero =>
    intro x1 M h
    rw [fX9_prepare_L29] at h
    cases h
  | succ F hk29 =>
    intro x1 M h
    rw [fX9_prepare_L29] at h
    refine J_iload_n (pc := 29) (q := 1) rfl rfl dX9_prepare_29 ?_
    refine J_aload_n (pc := 30) (q := 0) rfl rfl dX9_prepare_30 ?_
    obtain ⟨a31, h31, g_7⟩ := bnd h
    refine J_getI (pc := 31) (i := 0) clF9 (by decide) rfl fl_RX9_149 h31 dX9_prepare_31 ?_
    refine J_icge (pc := 34) (tgt := 101) (by decide) dX9_prepare_34 (fun hc34 => ?_) (fun hc34 => ?_)
    · rw [if_pos hc34] at g_7
      exact J_vret (pc := 101) (qv_of g_7) dX9_prepare_101
    · rw [if_neg hc34] at g_7
      refine J_iload_n (pc := 37) (q := 1) rfl rfl dX9_prepare_37 ?_
      refine J_istore_n (pc := 38) rfl (by decide) (lv' := [(0, vR (some x0)), (1, vI x1), (2, vI x1)]) rfl dX9_prepare_38 ?_
      exact jX9_prepare_L39 hk29 FU _ _ g_7
set_option maxHeartbeats 4000000 in
set_option maxRecDepth 100000 in
theorem jX9_prepare_L2 {ad : Nat → Nat} {ca : Nat → ClassId} {D : va_G} {FU d : Nat} {N : Mem}   {x0 : Nat}   : ∀ (F : Nat) (x1 : Int32) (M : Mem), fX9_prepare_L2 FU  x0 F x1 M = some N → J ad ca D cX9_prepare RX9 4 (d + 5) (Gt ad ca D none (QV N)) 2 [(0, vR (some x0)), (1, vI x1)] [] M := by
  intro F
  induction F with
  | zero =>
    intro x1 M h
    rw [fX9_prepare_L2] at h
    cases h
  | succ F hk2 =>
    intro x1 M h
    rw [fX9_prepare_L2] at h
    refine J_iload_n (pc := 2) (q := 1) rfl rfl dX9_prepare_2 ?_
    refine J_aload_n (pc := 3) (q := 0) rfl rfl dX9_prepare_3 ?_
    obtain ⟨a4, h4, g_8⟩ := bnd h
    refine J_getI (pc := 4) (i := 0) clF9 (by decide) rfl fl_RX9_149 h4 dX9_prepare_4 ?_
    refine J_icge (pc := 7) (tgt := 27) (by decide) dX9_prepare_7 (fun hc7 => ?_) (fun hc7 => ?_)
    · rw [if_pos hc7] at g_8
      refine J_iconst (pc := 27) (v := (0 : Int32)) (by decide) dX9_prepare_27 ?_
      refine J_istore_n (pc := 28) rfl (by decide) (lv' := [(0, vR (some x0)), (1, vI (0 : Int32))]) rfl dX9_prepare_28 ?_
      exact jX9_prepare_L29  FU _ _ g_8
    · rw [if_neg hc7] at g_8
      refine J_aload_n (pc := 10) (q := 0) rfl rfl dX9_prepare_10 ?_
      obtain ⟨a11, h11, g_9⟩ := bnd g_8
      refine J_getR (pc := 11) (i := 16) clF9 (by decide) rfl fl_RX9_58 h11 dX9_prepare_11 ?_
      refine J_iload_n (pc := 14) (q := 1) rfl rfl dX9_prepare_14 ?_
      refine J_aload_n (pc := 15) (q := 0) rfl rfl dX9_prepare_15 ?_
      refine J_iload_n (pc := 16) (q := 1) rfl rfl dX9_prepare_16 ?_
      obtain ⟨b17, hb17, g_10⟩ := bnd g_9
      obtain ⟨r17, M17, h17, g_11⟩ := bnd2 g_10
      refine J_callVI (pc := 17) (as := [vI x1]) (tX9_seesFrom (d := d)  h17) cf_X9_seesFrom cv_X9_seesFrom clF9 hb17 ml_RX9_280 (by omega) (Nat.le_of_ble_eq_true rfl) dX9_prepare_17 ?_
      obtain ⟨M20, h20, g_12⟩ := bnd g_11
      refine J_ast0 (pc := 20) h20 dX9_prepare_20 ?_
      refine J_iinc (pc := 21) (q := 1) rfl (v := x1 + (1 : Int32)) rfl (by decide) (lv' := [(0, vR (some x0)), (1, vI (x1 + (1 : Int32)))]) rfl dX9_prepare_21 ?_
      refine J_goto (pc := 24) (tgt := 2) (by decide) dX9_prepare_24 ?_
      exact hk2 _ _ g_12
set_option maxHeartbeats 4000000 in
set_option maxRecDepth 100000 in
theorem tX9_prepare {ad : Nat → Nat} {ca : Nat → ClassId} {D : va_G} {FU d : Nat} {N : Mem}  {x0 : Nat} {M : Mem}  (h : fX9_prepare FU  x0 M = some N) : Ct ad ca D yX9_prepare cX9_prepare 4 none (d + 5) [vR (some x0)] M (QV N) := by
  refine Ct_of (by decide) (Nat.le_of_ble_eq_true rfl) ?_
  show J ad ca D cX9_prepare RX9 4 (d + 5) (Gt ad ca D none (QV N)) 0 [(0, vR (some x0))] [] M
  unfold fX9_prepare at h
  refine J_iconst (pc := 0) (v := (0 : Int32)) (by decide) dX9_prepare_0 ?_
  refine J_istore_n (pc := 1) rfl (by decide) (lv' := [(0, vR (some x0)), (1, vI (0 : Int32))]) rfl dX9_prepare_1 ?_
  exact jX9_prepare_L2  FU _ _ h
set_option maxHeartbeats 4000000 in
set_option maxRecDepth 100000 in
theorem jX9_findRounds_b44 {ad : Nat → Nat} {ca : Nat → ClassId} {D : va_G} {FU d : Nat} {N : Mem}  {k19 : Int32 → Mem → Option (Mem)} {x0 : Nat} {x1 : Int32} {s0 : Option Nat} {s1 : Int32} {s2 : Int32} {M : Mem}  (hk19 : ∀ (y1 : Int32) (M : Mem), k19 y1 M = some N → J ad ca D cX9_findRounds RX9 5 (d + 7) (Gt ad ca D none (QV N)) 19 [(0, vR (some x0)), (1, vI y1)] [] M) (h : fX9_findRounds_b44 FU  k19 x0 x1 s0 s1 s2 M = some N) : J ad ca D cX9_findRounds RX9 5 (d + 7) (Gt ad ca D none (QV N)) 44 [(0, vR (some x0)), (1, vI x1)] [vI s2, vI s1, vR s0] M := by
  unfold fX9_findRounds_b44 at h
  obtain ⟨M44, h44, g_1⟩ := bnd h
  refine J_ast0 (pc := 44) h44 dX9_findRounds_44 ?_
  refine J_iinc (pc := 45) (q := 1) rfl (v := x1 + (1 : Int32)) rfl (by decide) (lv' := [(0, vR (some x0)), (1, vI (x1 + (1 : Int32)))]) rfl dX9_findRounds_45 ?_
  refine J_goto (pc := 48) (tgt := 19) (by decide) dX9_findRounds_48 ?_
  exact hk19 _ _ g_1
set_option maxHeartbeats 4000000 in
set_option maxRecDepth 100000 in
theorem jX9_findRounds_b156 {ad : Nat → Nat} {ca : Nat → ClassId} {D : va_G} {FU d : Nat} {N : Mem}  {k53 : Int32 → Mem → Option (Mem)} {k61 : Int32 → Mem → Option (Mem)} {k71 : Int32 → Mem → Option (Mem)} {k98 : Int32 → Mem → Option (Mem)} {x0 : Nat} {x1 : Int32} {x2 : Int32} {x3 : Int32} {x4 : Int32} {s0 : Option Nat} {s1 : Int32} {s2 : Int32} {M : Mem}  (hk53 : ∀ (y1 : Int32) (M : Mem), k53 y1 M = some N → J ad ca D cX9_findRounds RX9 5 (d + 7) (Gt ad ca D none (QV N)) 53 [(0, vR (some x0)), (1, vI y1)] [] M) (hk61 : ∀ (y2 : Int32) (M : Mem), k61 y2 M = some N → J ad ca D cX9_findRounds RX9 5 (d + 7) (Gt ad ca D none (QV N)) 61 [(0, vR (some x0)), (1, vI x1), (2, vI y2)] [] M) (hk71 : ∀ (y3 : Int32) (M : Mem), k71 y3 M = some N → J ad ca D cX9_findRounds RX9 5 (d + 7) (Gt ad ca D none (QV N)) 71 [(0, vR (some x0)), (1, vI x1), (2, vI x2), (3, vI y3)] [] M) (hk98 : ∀ (y4 : Int32) (M : Mem), k98 y4 M = some N → J ad ca D cX9_findRounds RX9 5 (d + 7) (Gt ad ca D none (QV N)) 98 [(0, vR (some x0)), (1, vI x1), (2, vI x2), (3, vI x3), (4, vI y4)] [] M) (h : fX9_findRounds_b156 FU  k53 k61 k71 k98 x0 x1 x2 x3 x4 s0 s1 s2 M = some N) : J ad ca D cX9_findRounds RX9 5 (d + 7) (Gt ad ca D none (QV N)) 156 [(0, vR (some x0)), (1, vI x1), (2, vI x2), (3, vI x3), (4, vI x4)] [vI s2, vI s1, vR s0] M := by
  unfold fX9_findRounds_b156 at h
  obtain ⟨M156, h156, g_2⟩ := bnd h
  refine J_ast1 (pc := 156) h156 dX9_findRounds_156 ?_
  refine J_iinc (pc := 157) (q := 4) rfl (v := x4 + (1 : Int32)) rfl (by decide) (lv' := [(0, vR (some x0)), (1, vI x1), (2, vI x2), (3, vI x3), (4, vI (x4 + (1 : Int32)))]) rfl dX9_findRounds_157 ?_
  refine J_goto (pc := 160) (tgt := 98) (by decide) dX9_findRounds_160 ?_
  exact hk98 _ _ g_2
set_option maxHeartbeats 4000000 in
set_option maxRecDepth 100000 in
theorem jX9_findRounds_b155 {ad : Nat → Nat} {ca : Nat → ClassId} {D : va_G} {FU d : Nat} {N : Mem}  {k53 : Int32 → Mem → Option (Mem)} {k61 : Int32 → Mem → Option (Mem)} {k71 : Int32 → Mem → Option (Mem)} {k98 : Int32 → Mem → Option (Mem)} {x0 : Nat} {x1 : Int32} {x2 : Int32} {x3 : Int32} {x4 : Int32} {s0 : Option Nat} {s1 : Int32} {M : Mem}  (hk53 : ∀ (y1 : Int32) (M : Mem), k53 y1 M = some N → J ad ca D cX9_findRounds RX9 5 (d + 7) (Gt ad ca D none (QV N)) 53 [(0, vR (some x0)), (1, vI y1)] [] M) (hk61 : ∀ (y2 : Int32) (M : Mem), k61 y2 M = some N → J ad ca D cX9_findRounds RX9 5 (d + 7) (Gt ad ca D none (QV N)) 61 [(0, vR (some x0)), (1, vI x1), (2, vI y2)] [] M) (hk71 : ∀ (y3 : Int32) (M : Mem), k71 y3 M = some N → J ad ca D cX9_findRounds RX9 5 (d + 7) (Gt ad ca D none (QV N)) 71 [(0, vR (some x0)), (1, vI x1), (2, vI x2), (3, vI y3)] [] M) (hk98 : ∀ (y4 : Int32) (M : Mem), k98 y4 M = some N → J ad ca D cX9_findRounds RX9 5 (d + 7) (Gt ad ca D none (QV N)) 98 [(0, vR (some x0)), (1, vI x1), (2, vI x2), (3, vI x3), (4, vI y4)] [] M) (h : fX9_findRounds_b155 FU  k53 k61 k71 k98 x0 x1 x2 x3 x4 s0 s1 M = some N) : J ad ca D cX9_findRounds RX9 5 (d + 7) (Gt ad ca D none (QV N)) 155 [(0, vR (some x0)), (1, vI x1), (2, vI x2), (3, vI x3), (4, vI x4)] [vI s1, vR s0] M := by
  unfold fX9_findRounds_b155 at h
  refine J_iconst (pc := 155) (v := (0 : Int32)) (by decide) dX9_findRounds_155 ?_
  exact jX9_findRounds_b156 hk53 hk61 hk71 hk98 h
set_option maxHeartbeats 4000000 in
set_option maxRecDepth 100000 in
theorem jX9_findRounds_b163 {ad : Nat → Nat} {ca : Nat → ClassId} {D : va_G} {FU d : Nat} {N : Mem}  {k53 : Int32 → Mem → Option (Mem)} {k61 : Int32 → Mem → Option (Mem)} {k71 : Int32 → Mem → Option (Mem)} {x0 : Nat} {x1 : Int32} {x2 : Int32} {x3 : Int32} {M : Mem}  (hk53 : ∀ (y1 : Int32) (M : Mem), k53 y1 M = some N → J ad ca D cX9_findRounds RX9 5 (d + 7) (Gt ad ca D none (QV N)) 53 [(0, vR (some x0)), (1, vI y1)] [] M) (hk61 : ∀ (y2 : Int32) (M : Mem), k61 y2 M = some N → J ad ca D cX9_findRounds RX9 5 (d + 7) (Gt ad ca D none (QV N)) 61 [(0, vR (some x0)), (1, vI x1), (2, vI y2)] [] M) (hk71 : ∀ (y3 : Int32) (M : Mem), k71 y3 M = some N → J ad ca D cX9_findRounds RX9 5 (d + 7) (Gt ad ca D none (QV N)) 71 [(0, vR (some x0)), (1, vI x1), (2, vI x2), (3, vI y3)] [] M) (h : fX9_findRounds_b163 FU  k53 k61 k71 x0 x1 x2 x3 M = some N) : J ad ca D cX9_findRounds RX9 5 (d + 7) (Gt ad ca D none (QV N)) 163 [(0, vR (some x0)), (1, vI x1), (2, vI x2), (3, vI x3)] [] M := by
  unfold fX9_findRounds_b163 at h
  refine J_iinc (pc := 163) (q := 3) rfl (v := x3 + (1 : Int32)) rfl (by decide) (lv' := [(0, vR (some x0)), (1, vI x1), (2, vI x2), (3, vI (x3 + (1 : Int32)))]) rfl dX9_findRounds_163 ?_
  refine J_goto (pc := 166) (tgt := 71) (by decide) dX9_findRounds_166 ?_
  exact hk71 _ _ h
set_option maxHeartbeats 4000000 in
set_option maxRecDepth 100000 in
theorem jX9_findRounds_L98 {ad : Nat → Nat} {ca : Nat → ClassId} {D : va_G} {FU d : Nat} {N : Mem}  {k53 : Int32 → Mem → Option (Mem)} {k61 : Int32 → Mem → Option (Mem)} {k71 : Int32 → Mem → Option (Mem)} {x0 : Nat} {x1 : Int32} {x2 : Int32} {x3 : Int32}  (hk53 : ∀ (y1 : Int32) (M : Mem), k53 y1 M = some N → J ad ca D cX9_findRounds RX9 5 (d + 7) (Gt ad ca D none (QV N)) 53 [(0, vR (some x0)), (1, vI y1)] [] M) (hk61 : ∀ (y2 : Int32) (M : Mem), k61 y2 M = some N → J ad ca D cX9_findRounds RX9 5 (d + 7) (Gt ad ca D none (QV N)) 61 [(0, vR (some x0)), (1, vI x1), (2, vI y2)] [] M) (hk71 : ∀ (y3 : Int32) (M : Mem), k71 y3 M = some N → J ad ca D cX9_findRounds RX9 5 (d + 7) (Gt ad ca D none (QV N)) 71 [(0, vR (some x0)), (1, vI x1), (2, vI x2), (3, vI y3)] [] M) : ∀ (F : Nat) (x4 : Int32) (M : Mem), fX9_findRounds_L98 FU  k53 k61 k71 x0 x1 x2 x3 F x4 M = some N → J ad ca D cX9_findRounds RX9 5 (d + 7) (Gt ad ca D none (QV N)) 98 [(0, vR (some x0)), (1, vI x1), (2, vI x2), (3, vI x3), (4, vI x4)] [] M := by
  intro F
  induction F with
  | zero =>
    intro x4 M h
    rw [fX9_findRounds_L98] at h
    cases h
  | succ F hk98 =>
    intro x4 M h
    rw [fX9_findRounds_L98] at h
    refine J_iload (pc := 98) (q := 4) rfl dX9_findRounds_98 ?_
    refine J_iconst (pc := 100) (v := (1 : Int32)) (by decide) dX9_findRounds_100 ?_
    refine J_aload_n (pc := 101) (q := 0) rfl rfl dX9_findRounds_101 ?_
    obtain ⟨a102, h102, g_3⟩ := bnd h
    refine J_getI (pc := 102) (i := 0) clF9 (by decide) rfl fl_RX9_149 h102 dX9_findRounds_102 ?_
    refine J_ishl (pc := 105) dX9_findRounds_105 ?_
    refine J_icge (pc := 106) (tgt := 163) (by decide) dX9_findRounds_106 (fun hc106 => ?_) (fun hc106 => ?_)
    · rw [if_pos hc106] at g_3
      refine J_sub [0, 1, 2, 3] (lv' := [(0, vR (some x0)), (1, vI x1), (2, vI x2), (3, vI x3)]) rfl ?_
      exact jX9_findRounds_b163 hk53 hk61 hk71 g_3
    · rw [if_neg hc106] at g_3
      refine J_aload_n (pc := 109) (q := 0) rfl rfl dX9_findRounds_109 ?_
      obtain ⟨a110, h110, g_4⟩ := bnd g_3
      refine J_getR (pc := 110) (i := 18) clF9 (by decide) rfl fl_RX9_64 h110 dX9_findRounds_110 ?_
      refine J_aload_n (pc := 113) (q := 0) rfl rfl dX9_findRounds_113 ?_
      refine J_iload_n (pc := 114) (q := 2) rfl rfl dX9_findRounds_114 ?_
      refine J_iload_n (pc := 115) (q := 3) rfl rfl dX9_findRounds_115 ?_
      refine J_iload (pc := 116) (q := 4) rfl dX9_findRounds_116 ?_
      obtain ⟨b118, hb118, g_5⟩ := bnd g_4
      obtain ⟨r118, M118, h118, g_6⟩ := bnd2 g_5
      refine J_callVI (pc := 118) (as := [vI x2, vI x3, vI x4]) (tX9_hidden (d := d)  h118) cf_X9_hidden cv_X9_hidden clF9 hb118 ml_RX9_286 (by omega) (Nat.le_of_ble_eq_true rfl) dX9_findRounds_118 ?_
      refine J_aload_n (pc := 121) (q := 0) rfl rfl dX9_findRounds_121 ?_
      obtain ⟨a122, h122, g_7⟩ := bnd g_6
      refine J_getR (pc := 122) (i := 14) clF9 (by decide) rfl fl_RX9_52 h122 dX9_findRounds_122 ?_
      refine J_aload_n (pc := 125) (q := 0) rfl rfl dX9_findRounds_125 ?_
      refine J_iload_n (pc := 126) (q := 2) rfl rfl dX9_findRounds_126 ?_
      refine J_iload_n (pc := 127) (q := 3) rfl rfl dX9_findRounds_127 ?_
      refine J_iload (pc := 128) (q := 4) rfl dX9_findRounds_128 ?_
      obtain ⟨b130, hb130, g_8⟩ := bnd g_7
      obtain ⟨r130, M130, h130, g_9⟩ := bnd2 g_8
      refine J_callVI (pc := 130) (as := [vI x2, vI x3, vI x4]) (tX9_hidden (d := d)  h130) cf_X9_hidden cv_X9_hidden clF9 hb130 ml_RX9_286 (by omega) (Nat.le_of_ble_eq_true rfl) dX9_findRounds_130 ?_
      obtain ⟨a133, h133, g_10⟩ := bnd g_9
      refine J_ald0 (pc := 133) h133 dX9_findRounds_133 ?_
      refine J_bipush (pc := 134) (v := (99 : Int32)) (by decide) dX9_findRounds_134 ?_
      refine J_icne (pc := 136) (tgt := 155) (by decide) dX9_findRounds_136 (fun hc136 => ?_) (fun hc136 => ?_)
      · rw [if_pos hc136] at g_10
        exact jX9_findRounds_b155 hk53 hk61 hk71 hk98 g_10
      · rw [if_neg hc136] at g_10
        refine J_aload_n (pc := 139) (q := 0) rfl rfl dX9_findRounds_139 ?_
        refine J_iload_n (pc := 140) (q := 2) rfl rfl dX9_findRounds_140 ?_
        refine J_iload_n (pc := 141) (q := 3) rfl rfl dX9_findRounds_141 ?_
        refine J_iload (pc := 142) (q := 4) rfl dX9_findRounds_142 ?_
        refine J_iload_n (pc := 144) (q := 1) rfl rfl dX9_findRounds_144 ?_
        obtain ⟨b145, hb145, g_11⟩ := bnd g_10
        obtain ⟨r145, M145, h145, g_12⟩ := bnd2 g_11
        refine J_callVI (pc := 145) (as := [vI x2, vI x3, vI x4, vI x1]) (tX9_canIn (d := d)  h145) cf_X9_canIn cv_X9_canIn clF9 hb145 ml_RX9_310 (by omega) (Nat.le_of_ble_eq_true rfl) dX9_findRounds_145 ?_
        refine J_ifeq (pc := 148) (tgt := 155) (by decide) dX9_findRounds_148 (fun hc148 => ?_) (fun hc148 => ?_)
        · rw [if_pos hc148] at g_12
          exact jX9_findRounds_b155 hk53 hk61 hk71 hk98 g_12
        · rw [if_neg hc148] at g_12
          refine J_iconst (pc := 151) (v := (1 : Int32)) (by decide) dX9_findRounds_151 ?_
          refine J_goto (pc := 152) (tgt := 156) (by decide) dX9_findRounds_152 ?_
          exact jX9_findRounds_b156 hk53 hk61 hk71 hk98 g_12
set_option maxHeartbeats 4000000 in
set_option maxRecDepth 100000 in
theorem jX9_findRounds_b95 {ad : Nat → Nat} {ca : Nat → ClassId} {D : va_G} {FU d : Nat} {N : Mem}  {k53 : Int32 → Mem → Option (Mem)} {k61 : Int32 → Mem → Option (Mem)} {k71 : Int32 → Mem → Option (Mem)} {x0 : Nat} {x1 : Int32} {x2 : Int32} {x3 : Int32} {M : Mem}  (hk53 : ∀ (y1 : Int32) (M : Mem), k53 y1 M = some N → J ad ca D cX9_findRounds RX9 5 (d + 7) (Gt ad ca D none (QV N)) 53 [(0, vR (some x0)), (1, vI y1)] [] M) (hk61 : ∀ (y2 : Int32) (M : Mem), k61 y2 M = some N → J ad ca D cX9_findRounds RX9 5 (d + 7) (Gt ad ca D none (QV N)) 61 [(0, vR (some x0)), (1, vI x1), (2, vI y2)] [] M) (hk71 : ∀ (y3 : Int32) (M : Mem), k71 y3 M = some N → J ad ca D cX9_findRounds RX9 5 (d + 7) (Gt ad ca D none (QV N)) 71 [(0, vR (some x0)), (1, vI x1), (2, vI x2), (3, vI y3)] [] M) (h : fX9_findRounds_b95 FU  k53 k61 k71 x0 x1 x2 x3 M = some N) : J ad ca D cX9_findRounds RX9 5 (d + 7) (Gt ad ca D none (QV N)) 95 [(0, vR (some x0)), (1, vI x1), (2, vI x2), (3, vI x3)] [] M := by
  unfold fX9_findRounds_b95 at h
  refine J_iconst (pc := 95) (v := (1 : Int32)) (by decide) dX9_findRounds_95 ?_
  refine J_istore (pc := 96) (by decide) (lv' := [(0, vR (some x0)), (1, vI x1), (2, vI x2), (3, vI x3), (4, vI (1 : Int32))]) rfl dX9_findRounds_96 ?_
  exact jX9_findRounds_L98 hk53 hk61 hk71 FU _ _ h
set_option maxHeartbeats 4000000 in
set_option maxRecDepth 100000 in
theorem jX9_findRounds_L71 {ad : Nat → Nat} {ca : Nat → ClassId} {D : va_G} {FU d : Nat} {N : Mem}  {k53 : Int32 → Mem → Option (Mem)} {k61 : Int32 → Mem → Option (Mem)} {x0 : Nat} {x1 : Int32} {x2 : Int32}  (hk53 : ∀ (y1 : Int32) (M : Mem), k53 y1 M = some N → J ad ca D cX9_findRounds RX9 5 (d + 7) (Gt ad ca D none (QV N)) 53 [(0, vR (some x0)), (1, vI y1)] [] M) (hk61 : ∀ (y2 : Int32) (M : Mem), k61 y2 M = some N → J ad ca D cX9_findRounds RX9 5 (d + 7) (Gt ad ca D none (QV N)) 61 [(0, vR (some x0)), (1, vI x1), (2, vI y2)] [] M) : ∀ (F : Nat) (x3 : Int32) (M : Mem), fX9_findRounds_L71 FU  k53 k61 x0 x1 x2 F x3 M = some N → J ad ca D cX9_findRounds RX9 5 (d + 7) (Gt ad ca D none (QV N)) 71 [(0, vR (some x0)), (1, vI x1), (2, vI x2), (3, vI x3)] [] M := by
  intro F
  induction F with
  | zero =>
    intro x3 M h
    rw [fX9_findRounds_L71] at h
    cases h
  | succ F hk71 =>
    intro x3 M h
    rw [fX9_findRounds_L71] at h
    refine J_iload_n (pc := 71) (q := 3) rfl rfl dX9_findRounds_71 ?_
    refine J_aload_n (pc := 72) (q := 0) rfl rfl dX9_findRounds_72 ?_
    obtain ⟨a73, h73, g_13⟩ := bnd h
    refine J_getI (pc := 73) (i := 0) clF9 (by decide) rfl fl_RX9_149 h73 dX9_findRounds_73 ?_
    refine J_icge (pc := 76) (tgt := 169) (by decide) dX9_findRounds_76 (fun hc76 => ?_) (fun hc76 => ?_)
    · rw [if_pos hc76] at g_13
      refine J_iinc (pc := 169) (q := 2) rfl (v := x2 + (1 : Int32)) rfl (by decide) (lv' := [(0, vR (some x0)), (1, vI x1), (3, vI x3), (2, vI (x2 + (1 : Int32)))]) rfl dX9_findRounds_169 ?_
      refine J_goto (pc := 172) (tgt := 61) (by decide) dX9_findRounds_172 ?_
      refine J_sub [0, 1, 3] (lv' := [(0, vR (some x0)), (1, vI x1), (2, vI (x2 + (1 : Int32)))]) rfl ?_
      exact hk61 _ _ g_13
    · rw [if_neg hc76] at g_13
      refine J_aload_n (pc := 79) (q := 0) rfl rfl dX9_findRounds_79 ?_
      obtain ⟨a80, h80, g_14⟩ := bnd g_13
      refine J_getI (pc := 80) (i := 2) clF9 (by decide) rfl fl_RX9_13 h80 dX9_findRounds_80 ?_
      refine J_iconst (pc := 83) (v := (1 : Int32)) (by decide) dX9_findRounds_83 ?_
      refine J_icne (pc := 84) (tgt := 95) (by decide) dX9_findRounds_84 (fun hc84 => ?_) (fun hc84 => ?_)
      · rw [if_pos hc84] at g_14
        exact jX9_findRounds_b95 hk53 hk61 hk71 g_14
      · rw [if_neg hc84] at g_14
        refine J_iload_n (pc := 87) (q := 3) rfl rfl dX9_findRounds_87 ?_
        refine J_iload_n (pc := 88) (q := 2) rfl rfl dX9_findRounds_88 ?_
        refine J_icle (pc := 89) (tgt := 95) (by decide) dX9_findRounds_89 (fun hc89 => ?_) (fun hc89 => ?_)
        · rw [if_pos hc89] at g_14
          exact jX9_findRounds_b95 hk53 hk61 hk71 g_14
        · rw [if_neg hc89] at g_14
          refine J_goto (pc := 92) (tgt := 163) (by decide) dX9_findRounds_92 ?_
          exact jX9_findRounds_b163 hk53 hk61 hk71 g_14
set_option maxHeartbeats 4000000 in
set_option maxRecDepth 100000 in
theorem jX9_findRounds_b210 {ad : Nat → Nat} {ca : Nat → ClassId} {D : va_G} {FU d : Nat} {N : Mem}  {k53 : Int32 → Mem → Option (Mem)} {k177 : Int32 → Mem → Option (Mem)} {x0 : Nat} {x1 : Int32} {x2 : Int32} {M : Mem}  (hk53 : ∀ (y1 : Int32) (M : Mem), k53 y1 M = some N → J ad ca D cX9_findRounds RX9 5 (d + 7) (Gt ad ca D none (QV N)) 53 [(0, vR (some x0)), (1, vI y1)] [] M) (hk177 : ∀ (y2 : Int32) (M : Mem), k177 y2 M = some N → J ad ca D cX9_findRounds RX9 5 (d + 7) (Gt ad ca D none (QV N)) 177 [(0, vR (some x0)), (1, vI x1), (2, vI y2)] [] M) (h : fX9_findRounds_b210 FU  k53 k177 x0 x1 x2 M = some N) : J ad ca D cX9_findRounds RX9 5 (d + 7) (Gt ad ca D none (QV N)) 210 [(0, vR (some x0)), (1, vI x1), (2, vI x2)] [] M := by
  unfold fX9_findRounds_b210 at h
  refine J_iinc (pc := 210) (q := 2) rfl (v := x2 + (1 : Int32)) rfl (by decide) (lv' := [(0, vR (some x0)), (1, vI x1), (2, vI (x2 + (1 : Int32)))]) rfl dX9_findRounds_210 ?_
  refine J_goto (pc := 213) (tgt := 177) (by decide) dX9_findRounds_213 ?_
  exact hk177 _ _ h
set_option maxHeartbeats 4000000 in
set_option maxRecDepth 100000 in
theorem jX9_findRounds_L177 {ad : Nat → Nat} {ca : Nat → ClassId} {D : va_G} {FU d : Nat} {N : Mem}  {k53 : Int32 → Mem → Option (Mem)} {x0 : Nat} {x1 : Int32}  (hk53 : ∀ (y1 : Int32) (M : Mem), k53 y1 M = some N → J ad ca D cX9_findRounds RX9 5 (d + 7) (Gt ad ca D none (QV N)) 53 [(0, vR (some x0)), (1, vI y1)] [] M) : ∀ (F : Nat) (x2 : Int32) (M : Mem), fX9_findRounds_L177 FU  k53 x0 x1 F x2 M = some N → J ad ca D cX9_findRounds RX9 5 (d + 7) (Gt ad ca D none (QV N)) 177 [(0, vR (some x0)), (1, vI x1), (2, vI x2)] [] M := by
  intro F
  induction F with
  | zero =>
    intro x2 M h
    rw [fX9_findRounds_L177] at h
    cases h
  | succ F hk177 =>
    intro x2 M h
    rw [fX9_findRounds_L177] at h
    refine J_iload_n (pc := 177) (q := 2) rfl rfl dX9_findRounds_177 ?_
    refine J_sipush (pc := 178) (v := (4096 : Int32)) (by decide) dX9_findRounds_178 ?_
    refine J_icge (pc := 181) (tgt := 216) (by decide) dX9_findRounds_181 (fun hc181 => ?_) (fun hc181 => ?_)
    · rw [if_pos hc181] at h
      refine J_iinc (pc := 216) (q := 1) rfl (v := x1 + (1 : Int32)) rfl (by decide) (lv' := [(0, vR (some x0)), (2, vI x2), (1, vI (x1 + (1 : Int32)))]) rfl dX9_findRounds_216 ?_
      refine J_goto (pc := 219) (tgt := 53) (by decide) dX9_findRounds_219 ?_
      refine J_sub [0, 2] (lv' := [(0, vR (some x0)), (1, vI (x1 + (1 : Int32)))]) rfl ?_
      exact hk53 _ _ h
    · rw [if_neg hc181] at h
      refine J_aload_n (pc := 184) (q := 0) rfl rfl dX9_findRounds_184 ?_
      obtain ⟨a185, h185, g_15⟩ := bnd h
      refine J_getR (pc := 185) (i := 18) clF9 (by decide) rfl fl_RX9_64 h185 dX9_findRounds_185 ?_
      refine J_iload_n (pc := 188) (q := 2) rfl rfl dX9_findRounds_188 ?_
      obtain ⟨a189, h189, g_16⟩ := bnd g_15
      refine J_ald1 (pc := 189) h189 dX9_findRounds_189 ?_
      refine J_ifne (pc := 190) (tgt := 196) (by decide) dX9_findRounds_190 (fun hc190 => ?_) (fun hc190 => ?_)
      · rw [if_pos hc190] at g_16
        refine J_aload_n (pc := 196) (q := 0) rfl rfl dX9_findRounds_196 ?_
        obtain ⟨a197, h197, g_17⟩ := bnd g_16
        refine J_getR (pc := 197) (i := 14) clF9 (by decide) rfl fl_RX9_52 h197 dX9_findRounds_197 ?_
        refine J_iload_n (pc := 200) (q := 2) rfl rfl dX9_findRounds_200 ?_
        refine J_iload_n (pc := 201) (q := 1) rfl rfl dX9_findRounds_201 ?_
        obtain ⟨M202, h202, g_18⟩ := bnd g_17
        refine J_ast0 (pc := 202) h202 dX9_findRounds_202 ?_
        refine J_aload_n (pc := 203) (q := 0) rfl rfl dX9_findRounds_203 ?_
        obtain ⟨a204, h204, g_19⟩ := bnd g_18
        refine J_getR (pc := 204) (i := 18) clF9 (by decide) rfl fl_RX9_64 h204 dX9_findRounds_204 ?_
        refine J_iload_n (pc := 207) (q := 2) rfl rfl dX9_findRounds_207 ?_
        refine J_iconst (pc := 208) (v := (0 : Int32)) (by decide) dX9_findRounds_208 ?_
        obtain ⟨M209, h209, g_20⟩ := bnd g_19
        refine J_ast1 (pc := 209) h209 dX9_findRounds_209 ?_
        exact jX9_findRounds_b210 hk53 hk177 g_20
      · rw [if_neg hc190] at g_16
        refine J_goto (pc := 193) (tgt := 210) (by decide) dX9_findRounds_193 ?_
        exact jX9_findRounds_b210 hk53 hk177 g_16
set_option maxHeartbeats 4000000 in
set_option maxRecDepth 100000 in
theorem jX9_findRounds_L61 {ad : Nat → Nat} {ca : Nat → ClassId} {D : va_G} {FU d : Nat} {N : Mem}  {k53 : Int32 → Mem → Option (Mem)} {x0 : Nat} {x1 : Int32}  (hk53 : ∀ (y1 : Int32) (M : Mem), k53 y1 M = some N → J ad ca D cX9_findRounds RX9 5 (d + 7) (Gt ad ca D none (QV N)) 53 [(0, vR (some x0)), (1, vI y1)] [] M) : ∀ (F : Nat) (x2 : Int32) (M : Mem), fX9_findRounds_L61 FU  k53 x0 x1 F x2 M = some N → J ad ca D cX9_findRounds RX9 5 (d + 7) (Gt ad ca D none (QV N)) 61 [(0, vR (some x0)), (1, vI x1), (2, vI x2)] [] M := by
  intro F
  induction F with
  | zero =>
    intro x2 M h
    rw [fX9_findRounds_L61] at h
    cases h
  | succ F hk61 =>
    intro x2 M h
    rw [fX9_findRounds_L61] at h
    refine J_iload_n (pc := 61) (q := 2) rfl rfl dX9_findRounds_61 ?_
    refine J_aload_n (pc := 62) (q := 0) rfl rfl dX9_findRounds_62 ?_
    obtain ⟨a63, h63, g_21⟩ := bnd h
    refine J_getI (pc := 63) (i := 0) clF9 (by decide) rfl fl_RX9_149 h63 dX9_findRounds_63 ?_
    refine J_icge (pc := 66) (tgt := 175) (by decide) dX9_findRounds_66 (fun hc66 => ?_) (fun hc66 => ?_)
    · rw [if_pos hc66] at g_21
      refine J_iconst (pc := 175) (v := (0 : Int32)) (by decide) dX9_findRounds_175 ?_
      refine J_istore_n (pc := 176) rfl (by decide) (lv' := [(0, vR (some x0)), (1, vI x1), (2, vI (0 : Int32))]) rfl dX9_findRounds_176 ?_
      exact jX9_findRounds_L177 hk53 FU _ _ g_21
    · rw [if_neg hc66] at g_21
      refine J_iload_n (pc := 69) (q := 2) rfl rfl dX9_findRounds_69 ?_
      refine J_istore_n (pc := 70) rfl (by decide) (lv' := [(0, vR (some x0)), (1, vI x1), (2, vI x2), (3, vI x2)]) rfl dX9_findRounds_70 ?_
      exact jX9_findRounds_L71 hk53 hk61 FU _ _ g_21
set_option maxHeartbeats 4000000 in
set_option maxRecDepth 100000 in
theorem jX9_findRounds_L53 {ad : Nat → Nat} {ca : Nat → ClassId} {D : va_G} {FU d : Nat} {N : Mem}   {x0 : Nat}   : ∀ (F : Nat) (x1 : Int32) (M : Mem), fX9_findRounds_L53 FU  x0 F x1 M = some N → J ad ca D cX9_findRounds RX9 5 (d + 7) (Gt ad ca D none (QV N)) 53 [(0, vR (some x0)), (1, vI x1)] [] M := by
  intro F
  induction F with
  | zero =>
    intro x1 M h
    rw [fX9_findRounds_L53] at h
    cases h
  | succ F hk53 =>
    intro x1 M h
    rw [fX9_findRounds_L53] at h
    refine J_iload_n (pc := 53) (q := 1) rfl rfl dX9_findRounds_53 ?_
    refine J_bipush (pc := 54) (v := (12 : Int32)) (by decide) dX9_findRounds_54 ?_
    refine J_icgt (pc := 56) (tgt := 222) (by decide) dX9_findRounds_56 (fun hc56 => ?_) (fun hc56 => ?_)
    · rw [if_pos hc56] at h
      exact J_vret (pc := 222) (qv_of h) dX9_findRounds_222
    · rw [if_neg hc56] at h
      refine J_iconst (pc := 59) (v := (0 : Int32)) (by decide) dX9_findRounds_59 ?_
      refine J_istore_n (pc := 60) rfl (by decide) (lv' := [(0, vR (some x0)), (1, vI x1), (2, vI (0 : Int32))]) rfl dX9_findRounds_60 ?_
      exact jX9_findRounds_L61 hk53 FU _ _ h
set_option maxHeartbeats 4000000 in
set_option maxRecDepth 100000 in
theorem jX9_findRounds_L19 {ad : Nat → Nat} {ca : Nat → ClassId} {D : va_G} {FU d : Nat} {N : Mem}   {x0 : Nat}   : ∀ (F : Nat) (x1 : Int32) (M : Mem), fX9_findRounds_L19 FU  x0 F x1 M = some N → J ad ca D cX9_findRounds RX9 5 (d + 7) (Gt ad ca D none (QV N)) 19 [(0, vR (some x0)), (1, vI x1)] [] M := by
  intro F
  induction F with
  | zero =>
    intro x1 M h
    rw [fX9_findRounds_L19] at h
    cases h
  | succ F hk19 =>
    intro x1 M h
    rw [fX9_findRounds_L19] at h
    refine J_iload_n (pc := 19) (q := 1) rfl rfl dX9_findRounds_19 ?_
    refine J_sipush (pc := 20) (v := (4096 : Int32)) (by decide) dX9_findRounds_20 ?_
    refine J_icge (pc := 23) (tgt := 51) (by decide) dX9_findRounds_23 (fun hc23 => ?_) (fun hc23 => ?_)
    · rw [if_pos hc23] at h
      refine J_iconst (pc := 51) (v := (1 : Int32)) (by decide) dX9_findRounds_51 ?_
      refine J_istore_n (pc := 52) rfl (by decide) (lv' := [(0, vR (some x0)), (1, vI (1 : Int32))]) rfl dX9_findRounds_52 ?_
      exact jX9_findRounds_L53  FU _ _ h
    · rw [if_neg hc23] at h
      refine J_aload_n (pc := 26) (q := 0) rfl rfl dX9_findRounds_26 ?_
      obtain ⟨a27, h27, g_22⟩ := bnd h
      refine J_getR (pc := 27) (i := 14) clF9 (by decide) rfl fl_RX9_52 h27 dX9_findRounds_27 ?_
      refine J_iload_n (pc := 30) (q := 1) rfl rfl dX9_findRounds_30 ?_
      refine J_iload_n (pc := 31) (q := 1) rfl rfl dX9_findRounds_31 ?_
      refine J_bipush (pc := 32) (v := (64 : Int32)) (by decide) dX9_findRounds_32 ?_
      refine J_irem (pc := 34) (by decide) dX9_findRounds_34 ?_
      refine J_ifne (pc := 35) (tgt := 42) (by decide) dX9_findRounds_35 (fun hc35 => ?_) (fun hc35 => ?_)
      · rw [if_pos hc35] at g_22
        refine J_bipush (pc := 42) (v := (99 : Int32)) (by decide) dX9_findRounds_42 ?_
        exact jX9_findRounds_b44 hk19 g_22
      · rw [if_neg hc35] at g_22
        refine J_iconst (pc := 38) (v := (0 : Int32)) (by decide) dX9_findRounds_38 ?_
        refine J_goto (pc := 39) (tgt := 44) (by decide) dX9_findRounds_39 ?_
        exact jX9_findRounds_b44 hk19 g_22
set_option maxHeartbeats 4000000 in
set_option maxRecDepth 100000 in
theorem tX9_findRounds {ad : Nat → Nat} {ca : Nat → ClassId} {D : va_G} {FU d : Nat} {N : Mem}  {x0 : Nat} {M : Mem}  (h : fX9_findRounds FU  x0 M = some N) : Ct ad ca D yX9_findRounds cX9_findRounds 5 none (d + 7) [vR (some x0)] M (QV N) := by
  refine Ct_of (by decide) (Nat.le_of_ble_eq_true rfl) ?_
  show J ad ca D cX9_findRounds RX9 5 (d + 7) (Gt ad ca D none (QV N)) 0 [(0, vR (some x0))] [] M
  unfold fX9_findRounds at h
  refine J_aload_n (pc := 0) (q := 0) rfl rfl dX9_findRounds_0 ?_
  obtain ⟨a1, h1, g_23⟩ := bnd h
  refine J_getI (pc := 1) (i := 15) clF9 (by decide) rfl fl_RX9_55 h1 dX9_findRounds_1 ?_
  refine J_ifeq (pc := 4) (tgt := 8) (by decide) dX9_findRounds_4 (fun hc4 => ?_) (fun hc4 => ?_)
  · rw [if_pos hc4] at g_23
    refine J_aload_n (pc := 8) (q := 0) rfl rfl dX9_findRounds_8 ?_
    refine J_iconst (pc := 9) (v := (1 : Int32)) (by decide) dX9_findRounds_9 ?_
    obtain ⟨M10, h10, g_24⟩ := bnd g_23
    refine J_putZ (pc := 10) (i := 15) clF9 (by decide) rfl fl_RX9_55 rfl rfl (Or.inr rfl) h10 dX9_findRounds_10 ?_
    refine J_aload_n (pc := 13) (q := 0) rfl rfl dX9_findRounds_13 ?_
    obtain ⟨b14, hb14, g_25⟩ := bnd g_24
    obtain ⟨M14, h14, g_26⟩ := bnd g_25
    refine J_callVV (pc := 14) (as := []) (tX9_prepare (d := d)  h14) cf_X9_prepare cv_X9_prepare clF9 hb14 ml_RX9_307 (by omega) (Nat.le_of_ble_eq_true rfl) dX9_findRounds_14 ?_
    refine J_iconst (pc := 17) (v := (0 : Int32)) (by decide) dX9_findRounds_17 ?_
    refine J_istore_n (pc := 18) rfl (by decide) (lv' := [(0, vR (some x0)), (1, vI (0 : Int32))]) rfl dX9_findRounds_18 ?_
    exact jX9_findRounds_L19  FU _ _ g_26
  · rw [if_neg hc4] at g_23
    exact J_vret (pc := 7) (qv_of g_23) dX9_findRounds_7
set_option maxHeartbeats 4000000 in
set_option maxRecDepth 100000 in
theorem jX9_lacksHidden_b68 {ad : Nat → Nat} {ca : Nat → ClassId} {D : va_G} {FU d : Nat} {r : Int32} {N : Mem}    {M : Mem}   (h : fX9_lacksHidden_b68 FU  M = some (r, N)) : J ad ca D cX9_lacksHidden RX9 5 (d + 2) (Gt ad ca D (some .int) (QI r N)) 68 [] [] M := by
  unfold fX9_lacksHidden_b68 at h
  refine J_bipush (pc := 68) (v := (-3 : Int32)) (by decide) dX9_lacksHidden_68 ?_
  refine J_goto (pc := 70) (tgt := 74) (by decide) dX9_lacksHidden_70 ?_
  exact J_iret (pc := 74) (qi_of h) dX9_lacksHidden_74
set_option maxHeartbeats 4000000 in
set_option maxRecDepth 100000 in
theorem jX9_lacksHidden_b13 {ad : Nat → Nat} {ca : Nat → ClassId} {D : va_G} {FU d : Nat} {r : Int32} {N : Mem}   {x0 : Nat} {x1 : Int32} {x3 : Int32} {s0 : Int32} {M : Mem}   (h : fX9_lacksHidden_b13 FU  x0 x1 x3 s0 M = some (r, N)) : J ad ca D cX9_lacksHidden RX9 5 (d + 2) (Gt ad ca D (some .int) (QI r N)) 13 [(0, vR (some x0)), (1, vI x1), (3, vI x3)] [vI s0] M := by
  unfold fX9_lacksHidden_b13 at h
  refine J_istore (pc := 13) (by decide) (lv' := [(0, vR (some x0)), (1, vI x1), (3, vI x3), (4, vI s0)]) rfl dX9_lacksHidden_13 ?_
  refine J_aload_n (pc := 15) (q := 0) rfl rfl dX9_lacksHidden_15 ?_
  refine J_iload_n (pc := 16) (q := 1) rfl rfl dX9_lacksHidden_16 ?_
  obtain ⟨b17, hb17, g_1⟩ := bnd h
  obtain ⟨r17, M17, h17, g_2⟩ := bnd2 g_1
  refine J_callVI (pc := 17) (as := [vI x1]) (tX9_isPlace (d := d)  h17) cf_X9_isPlace cv_X9_isPlace clF9 hb17 ml_RX9_163 (by omega) (Nat.le_of_ble_eq_true rfl) dX9_lacksHidden_17 ?_
  refine J_ifeq (pc := 20) (tgt := 49) (by decide) dX9_lacksHidden_20 (fun hc20 => ?_) (fun hc20 => ?_)
  · rw [if_pos hc20] at g_2
    refine J_bipush (pc := 49) (v := (-2 : Int32)) (by decide) dX9_lacksHidden_49 ?_
    exact J_iret (pc := 51) (qi_of g_2) dX9_lacksHidden_51
  · rw [if_neg hc20] at g_2
    refine J_aload_n (pc := 23) (q := 0) rfl rfl dX9_lacksHidden_23 ?_
    refine J_iload (pc := 24) (q := 3) rfl dX9_lacksHidden_24 ?_
    obtain ⟨b26, hb26, g_3⟩ := bnd g_2
    obtain ⟨r26, M26, h26, g_4⟩ := bnd2 g_3
    refine J_callVI (pc := 26) (as := [vI s0]) (tX9_isPlace (d := d)  h26) cf_X9_isPlace cv_X9_isPlace clF9 hb26 ml_RX9_163 (by omega) (Nat.le_of_ble_eq_true rfl) dX9_lacksHidden_26 ?_
    refine J_ifeq (pc := 29) (tgt := 49) (by decide) dX9_lacksHidden_29 (fun hc29 => ?_) (fun hc29 => ?_)
    · rw [if_pos hc29] at g_4
      refine J_bipush (pc := 49) (v := (-2 : Int32)) (by decide) dX9_lacksHidden_49 ?_
      exact J_iret (pc := 51) (qi_of g_4) dX9_lacksHidden_51
    · rw [if_neg hc29] at g_4
      refine J_aload_n (pc := 32) (q := 0) rfl rfl dX9_lacksHidden_32 ?_
      refine J_iload_n (pc := 33) (q := 2) rfl rfl dX9_lacksHidden_33 ?_
      refine J_iconst (pc := 34) (v := (0 : Int32)) (by decide) dX9_lacksHidden_34 ?_
      refine J_iconst (pc := 35) (v := (1 : Int32)) (by decide) dX9_lacksHidden_35 ?_
      refine J_aload_n (pc := 36) (q := 0) rfl rfl dX9_lacksHidden_36 ?_
      obtain ⟨a37, h37, g_5⟩ := bnd g_4
      refine J_getI (pc := 37) (i := 0) clF9 (by decide) rfl fl_RX9_149 h37 dX9_lacksHidden_37 ?_
      refine J_ishl (pc := 40) dX9_lacksHidden_40 ?_
      refine J_iconst (pc := 41) (v := (1 : Int32)) (by decide) dX9_lacksHidden_41 ?_
      refine J_isub (pc := 42) dX9_lacksHidden_42 ?_
      obtain ⟨b43, hb43, g_6⟩ := bnd g_5
      obtain ⟨r43, M43, h43, g_7⟩ := bnd2 g_6
      refine J_callVI (pc := 43) (as := [vI x3, vI (0 : Int32), vI (((1 : Int32) <<< (a37 &&& 31)) - (1 : Int32))]) (tX9_in (d := d)  h43) cf_X9_in cv_X9_in clF9 hb43 ml_RX9_155 (by omega) (Nat.le_of_ble_eq_true rfl) dX9_lacksHidden_43 ?_
      refine J_ifne (pc := 46) (tgt := 52) (by decide) dX9_lacksHidden_46 (fun hc46 => ?_) (fun hc46 => ?_)
      · rw [if_pos hc46] at g_7
        refine J_aload_n (pc := 52) (q := 0) rfl rfl dX9_lacksHidden_52 ?_
        obtain ⟨b53, hb53, g_8⟩ := bnd g_7
        obtain ⟨r53, M53, h53, g_9⟩ := bnd2 g_8
        refine J_callVI (pc := 53) (as := []) (tX9_shutters (d := d)  h53) cf_X9_shutters cv_X9_shutters clF9 hb53 ml_RX9_166 (by omega) (Nat.le_of_ble_eq_true rfl) dX9_lacksHidden_53 ?_
        refine J_ifgt (pc := 56) (tgt := 68) (by decide) dX9_lacksHidden_56 (fun hc56 => ?_) (fun hc56 => ?_)
        · rw [if_pos hc56] at g_9
          refine J_sub [] (lv' := []) rfl ?_
          exact jX9_lacksHidden_b68  g_9
        · rw [if_neg hc56] at g_9
          refine J_aload_n (pc := 59) (q := 0) rfl rfl dX9_lacksHidden_59 ?_
          obtain ⟨a60, h60, g_10⟩ := bnd g_9
          refine J_getI (pc := 60) (i := 0) clF9 (by decide) rfl fl_RX9_149 h60 dX9_lacksHidden_60 ?_
          refine J_bipush (pc := 63) (v := (6 : Int32)) (by decide) dX9_lacksHidden_63 ?_
          refine J_icle (pc := 65) (tgt := 73) (by decide) dX9_lacksHidden_65 (fun hc65 => ?_) (fun hc65 => ?_)
          · rw [if_pos hc65] at g_10
            refine J_iconst (pc := 73) (v := (0 : Int32)) (by decide) dX9_lacksHidden_73 ?_
            exact J_iret (pc := 74) (qi_of g_10) dX9_lacksHidden_74
          · rw [if_neg hc65] at g_10
            refine J_sub [] (lv' := []) rfl ?_
            exact jX9_lacksHidden_b68  g_10
      · rw [if_neg hc46] at g_7
        refine J_bipush (pc := 49) (v := (-2 : Int32)) (by decide) dX9_lacksHidden_49 ?_
        exact J_iret (pc := 51) (qi_of g_7) dX9_lacksHidden_51
set_option maxHeartbeats 4000000 in
set_option maxRecDepth 100000 in
theorem tX9_lacksHidden {ad : Nat → Nat} {ca : Nat → ClassId} {D : va_G} {FU d : Nat} {r : Int32} {N : Mem}  {x0 : Nat} {x1 : Int32} {x2 : Int32} {x3 : Int32} {M : Mem}  (h : fX9_lacksHidden FU  x0 x1 x2 x3 M = some (r, N)) : Ct ad ca D yX9_lacksHidden cX9_lacksHidden 5 (some .int) (d + 2) [vR (some x0), vI x1, vI x2, vI x3] M (QI r N) := by
  refine Ct_of (by decide) (Nat.le_of_ble_eq_true rfl) ?_
  show J ad ca D cX9_lacksHidden RX9 5 (d + 2) (Gt ad ca D (some .int) (QI r N)) 0 [(0, vR (some x0)), (1, vI x1), (2, vI x2), (3, vI x3)] [] M
  unfold fX9_lacksHidden at h
  refine J_aload_n (pc := 0) (q := 0) rfl rfl dX9_lacksHidden_0 ?_
  obtain ⟨a1, h1, g_11⟩ := bnd h
  refine J_getI (pc := 1) (i := 2) clF9 (by decide) rfl fl_RX9_13 h1 dX9_lacksHidden_1 ?_
  refine J_iconst (pc := 4) (v := (1 : Int32)) (by decide) dX9_lacksHidden_4 ?_
  refine J_icne (pc := 5) (tgt := 12) (by decide) dX9_lacksHidden_5 (fun hc5 => ?_) (fun hc5 => ?_)
  · rw [if_pos hc5] at g_11
    refine J_iload_n (pc := 12) (q := 2) rfl rfl dX9_lacksHidden_12 ?_
    refine J_sub [0, 1, 3] (lv' := [(0, vR (some x0)), (1, vI x1), (3, vI x3)]) rfl ?_
    exact jX9_lacksHidden_b13  g_11
  · rw [if_neg hc5] at g_11
    refine J_iload_n (pc := 8) (q := 1) rfl rfl dX9_lacksHidden_8 ?_
    refine J_goto (pc := 9) (tgt := 13) (by decide) dX9_lacksHidden_9 ?_
    refine J_sub [0, 1, 3] (lv' := [(0, vR (some x0)), (1, vI x1), (3, vI x3)]) rfl ?_
    exact jX9_lacksHidden_b13  g_11
