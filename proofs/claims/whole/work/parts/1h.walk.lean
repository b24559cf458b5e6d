set_option maxHeartbeats 4000000 in
set_option maxRecDepth 100000 in
theorem jX9_isText_L11 {ad : Nat → Nat} {ca : Nat → ClassId} {D : va_G} {FU d : Nat} {r : Int32} {N : Mem}   {x0 : Nat}   : ∀ (F : Nat) (x1 : Int32) (M : Mem), fX9_isText_L11 FU  x0 F x1 M = some (r, N) → J ad ca D cX9_isText RX9 2 (d + 4) (Gt ad ca D (some .boolean) (QI r N)) 11 [(0, vR (some x0)), (1, vI x1)] [] M := by
  intro F
  induction F with
  | zero =>
    intro x1 M h
    rw [fX9_isText_L11] at h
    cases h
  | succ F hk11 =>
    intro x1 M h
    rw [fX9_isText_L11] at h
    refine J_iload_n (pc := 11) (q := 1) rfl rfl dX9_isText_11 ?_
    refine J_iconst (pc := 12) (v := (2 : Int32)) (by decide) dX9_isText_12 ?_
    refine J_icge (pc := 13) (tgt := 61) (by decide) dX9_isText_13 (fun hc13 => ?_) (fun hc13 => ?_)
    · rw [if_pos hc13] at h
      refine J_aload_n (pc := 61) (q := 0) rfl rfl dX9_isText_61 ?_
      obtain ⟨a62, h62, g_1⟩ := bnd h
      refine J_getI (pc := 62) (i := 33) clF9 (by decide) rfl fl_RX9_110 h62 dX9_isText_62 ?_
      refine J_ifne (pc := 65) (tgt := 72) (by decide) dX9_isText_65 (fun hc65 => ?_) (fun hc65 => ?_)
      · rw [if_pos hc65] at g_1
        refine J_iconst (pc := 72) (v := (0 : Int32)) (by decide) dX9_isText_72 ?_
        exact J_zret (pc := 73) (Or.inl rfl) (qi_of g_1) dX9_isText_73
      · rw [if_neg hc65] at g_1
        refine J_iconst (pc := 68) (v := (1 : Int32)) (by decide) dX9_isText_68 ?_
        refine J_goto (pc := 69) (tgt := 73) (by decide) dX9_isText_69 ?_
        exact J_zret (pc := 73) (Or.inr rfl) (qi_of g_1) dX9_isText_73
    · rw [if_neg hc13] at h
      refine J_aload_n (pc := 16) (q := 0) rfl rfl dX9_isText_16 ?_
      refine J_iload_n (pc := 17) (q := 1) rfl rfl dX9_isText_17 ?_
      obtain ⟨b18, hb18, g_2⟩ := bnd h
      obtain ⟨r18, M18, h18, g_3⟩ := bnd2 g_2
      refine J_callVI (pc := 18) (as := [vI x1]) (tX9_isKey (d := d)  h18) cf_X9_isKey cv_X9_isKey clF9 hb18 ml_RX9_372 (by omega) (Nat.le_of_ble_eq_true rfl) dX9_isText_18 ?_
      refine J_ifne (pc := 21) (tgt := 26) (by decide) dX9_isText_21 (fun hc21 => ?_) (fun hc21 => ?_)
      · rw [if_pos hc21] at g_3
        refine J_aload_n (pc := 26) (q := 0) rfl rfl dX9_isText_26 ?_
        obtain ⟨b27, hb27, g_4⟩ := bnd g_3
        obtain ⟨M27, h27, g_5⟩ := bnd g_4
        refine J_callVV (pc := 27) (as := []) (tX9_next (d := d)  h27) cf_X9_next cv_X9_next clF9 hb27 ml_RX9_387 (by omega) (Nat.le_of_ble_eq_true rfl) dX9_isText_27 ?_
        refine J_aload_n (pc := 30) (q := 0) rfl rfl dX9_isText_30 ?_
        refine J_iconst (pc := 31) (v := (2 : Int32)) (by decide) dX9_isText_31 ?_
        refine J_aload_n (pc := 32) (q := 0) rfl rfl dX9_isText_32 ?_
        obtain ⟨a33, h33, g_6⟩ := bnd g_5
        refine J_getI (pc := 33) (i := 28) clF9 (by decide) rfl fl_RX9_95 h33 dX9_isText_33 ?_
        refine J_imul (pc := 36) dX9_isText_36 ?_
        refine J_iload_n (pc := 37) (q := 1) rfl rfl dX9_isText_37 ?_
        refine J_iadd (pc := 38) dX9_isText_38 ?_
        obtain ⟨M39, h39, g_7⟩ := bnd g_6
        refine J_putI (pc := 39) (i := 41) clF9 (by decide) rfl fl_RX9_134 rfl rfl h39 dX9_isText_39 ?_
        refine J_aload_n (pc := 42) (q := 0) rfl rfl dX9_isText_42 ?_
        obtain ⟨b43, hb43, g_8⟩ := bnd g_7
        obtain ⟨r43, M43, h43, g_9⟩ := bnd2 g_8
        refine J_callVI (pc := 43) (as := []) (tX9_part (d := d)  h43) cf_X9_part cv_X9_part clF9 hb43 ml_RX9_393 (by omega) (Nat.le_of_ble_eq_true rfl) dX9_isText_43 ?_
        refine J_ifne (pc := 46) (tgt := 51) (by decide) dX9_isText_46 (fun hc46 => ?_) (fun hc46 => ?_)
        · rw [if_pos hc46] at g_9
          refine J_aload_n (pc := 51) (q := 0) rfl rfl dX9_isText_51 ?_
          obtain ⟨b52, hb52, g_10⟩ := bnd g_9
          obtain ⟨M52, h52, g_11⟩ := bnd g_10
          refine J_callVV (pc := 52) (as := []) (tX9_next (d := d)  h52) cf_X9_next cv_X9_next clF9 hb52 ml_RX9_387 (by omega) (Nat.le_of_ble_eq_true rfl) dX9_isText_52 ?_
          refine J_iinc (pc := 55) (q := 1) rfl (v := x1 + (1 : Int32)) rfl (by decide) (lv' := [(0, vR (some x0)), (1, vI (x1 + (1 : Int32)))]) rfl dX9_isText_55 ?_
          refine J_goto (pc := 58) (tgt := 11) (by decide) dX9_isText_58 ?_
          exact hk11 _ _ g_11
        · rw [if_neg hc46] at g_9
          refine J_iconst (pc := 49) (v := (0 : Int32)) (by decide) dX9_isText_49 ?_
          exact J_zret (pc := 50) (Or.inl rfl) (qi_of g_9) dX9_isText_50
      · rw [if_neg hc21] at g_3
        refine J_iconst (pc := 24) (v := (0 : Int32)) (by decide) dX9_isText_24 ?_
        exact J_zret (pc := 25) (Or.inl rfl) (qi_of g_3) dX9_isText_25
set_option maxHeartbeats 4000000 in
set_option maxRecDepth 100000 in
theorem tX9_isText {ad : Nat → Nat} {ca : Nat → ClassId} {D : va_G} {FU d : Nat} {r : Int32} {N : Mem}  {x0 : Nat} {M : Mem}  (h : fX9_isText FU  x0 M = some (r, N)) : Ct ad ca D yX9_isText cX9_isText 2 (some .boolean) (d + 4) [vR (some x0)] M (QI r N) := by
  refine Ct_of (by decide) (Nat.le_of_ble_eq_true rfl) ?_
  show J ad ca D cX9_isText RX9 2 (d + 4) (Gt ad ca D (some .boolean) (QI r N)) 0 [(0, vR (some x0))] [] M
  unfold fX9_isText at h
  refine J_aload_n (pc := 0) (q := 0) rfl rfl dX9_isText_0 ?_
  refine J_iconst (pc := 1) (v := (0 : Int32)) (by decide) dX9_isText_1 ?_
  obtain ⟨M2, h2, g_12⟩ := bnd h
  refine J_putI (pc := 2) (i := 32) clF9 (by decide) rfl fl_RX9_107 rfl rfl h2 dX9_isText_2 ?_
  refine J_aload_n (pc := 5) (q := 0) rfl rfl dX9_isText_5 ?_
  obtain ⟨b6, hb6, g_13⟩ := bnd g_12
  obtain ⟨M6, h6, g_14⟩ := bnd g_13
  refine J_callVV (pc := 6) (as := []) (tX9_next (d := d)  h6) cf_X9_next cv_X9_next clF9 hb6 ml_RX9_387 (by omega) (Nat.le_of_ble_eq_true rfl) dX9_isText_6 ?_
  refine J_iconst (pc := 9) (v := (0 : Int32)) (by decide) dX9_isText_9 ?_
  refine J_istore_n (pc := 10) rfl (by decide) (lv' := [(0, vR (some x0)), (1, vI (0 : Int32))]) rfl dX9_isText_10 ?_
  exact jX9_isText_L11  FU _ _ g_14
set_option maxHeartbeats 4000000 in
set_option maxRecDepth 100000 in
theorem tX9_text {ad : Nat → Nat} {ca : Nat → ClassId} {D : va_G} {FU d : Nat} {r : Int32} {N : Mem}  {x0 : Nat} {M : Mem}  (h : fX9_text FU  x0 M = some (r, N)) : Ct ad ca D yX9_text cX9_text 3 (some .int) (d + 5) [vR (some x0)] M (QI r N) := by
  refine Ct_of (by decide) (Nat.le_of_ble_eq_true rfl) ?_
  show J ad ca D cX9_text RX9 3 (d + 5) (Gt ad ca D (some .int) (QI r N)) 0 [(0, vR (some x0))] [] M
  unfold fX9_text at h
  refine J_aload_n (pc := 0) (q := 0) rfl rfl dX9_text_0 ?_
  obtain ⟨a1, h1, g_1⟩ := bnd h
  refine J_getI (pc := 1) (i := 28) clF9 (by decide) rfl fl_RX9_95 h1 dX9_text_1 ?_
  refine J_bipush (pc := 4) (v := (6 : Int32)) (by decide) dX9_text_4 ?_
  refine J_icne (pc := 6) (tgt := 12) (by decide) dX9_text_6 (fun hc6 => ?_) (fun hc6 => ?_)
  · rw [if_pos hc6] at g_1
    refine J_aload_n (pc := 12) (q := 0) rfl rfl dX9_text_12 ?_
    obtain ⟨b13, hb13, g_2⟩ := bnd g_1
    obtain ⟨r13, M13, h13, g_3⟩ := bnd2 g_2
    refine J_callVI (pc := 13) (as := []) (tX9_isText (d := d)  h13) cf_X9_isText cv_X9_isText clF9 hb13 ml_RX9_397 (by omega) (Nat.le_of_ble_eq_true rfl) dX9_text_13 ?_
    refine J_istore_n (pc := 16) rfl (by decide) (lv' := [(0, vR (some x0)), (1, vI r13)]) rfl dX9_text_16 ?_
    refine J_aload_n (pc := 17) (q := 0) rfl rfl dX9_text_17 ?_
    obtain ⟨a18, h18, g_4⟩ := bnd g_3
    refine J_getI (pc := 18) (i := 35) clF9 (by decide) rfl fl_RX9_116 h18 dX9_text_18 ?_
    refine J_istore_n (pc := 21) rfl (by decide) (lv' := [(0, vR (some x0)), (1, vI r13), (2, vI a18)]) rfl dX9_text_21 ?_
    refine J_aload_n (pc := 22) (q := 0) rfl rfl dX9_text_22 ?_
    refine J_iconst (pc := 23) (v := (0 : Int32)) (by decide) dX9_text_23 ?_
    obtain ⟨M24, h24, g_5⟩ := bnd g_4
    refine J_putI (pc := 24) (i := 27) clF9 (by decide) rfl fl_RX9_92 rfl rfl h24 dX9_text_24 ?_
    refine J_iload_n (pc := 27) (q := 1) rfl rfl dX9_text_27 ?_
    refine J_ifne (pc := 28) (tgt := 36) (by decide) dX9_text_28 (fun hc28 => ?_) (fun hc28 => ?_)
    · rw [if_pos hc28] at g_5
      refine J_aload_n (pc := 36) (q := 0) rfl rfl dX9_text_36 ?_
      refine J_dup (pc := 37) rfl dX9_text_37 ?_
      obtain ⟨a38, h38, g_6⟩ := bnd g_5
      refine J_getI (pc := 38) (i := 28) clF9 (by decide) rfl fl_RX9_95 h38 dX9_text_38 ?_
      refine J_iconst (pc := 41) (v := (1 : Int32)) (by decide) dX9_text_41 ?_
      refine J_iadd (pc := 42) dX9_text_42 ?_
      obtain ⟨M43, h43, g_7⟩ := bnd g_6
      refine J_putI (pc := 43) (i := 28) clF9 (by decide) rfl fl_RX9_95 rfl rfl h43 dX9_text_43 ?_
      refine J_aload_n (pc := 46) (q := 0) rfl rfl dX9_text_46 ?_
      obtain ⟨a47, h47, g_8⟩ := bnd g_7
      refine J_getI (pc := 47) (i := 28) clF9 (by decide) rfl fl_RX9_95 h47 dX9_text_47 ?_
      refine J_iconst (pc := 50) (v := (1 : Int32)) (by decide) dX9_text_50 ?_
      refine J_isub (pc := 51) dX9_text_51 ?_
      exact J_iret (pc := 52) (qi_of g_8) dX9_text_52
    · rw [if_neg hc28] at g_5
      refine J_bipush (pc := 31) (v := (-100 : Int32)) (by decide) dX9_text_31 ?_
      refine J_iload_n (pc := 33) (q := 2) rfl rfl dX9_text_33 ?_
      refine J_isub (pc := 34) dX9_text_34 ?_
      exact J_iret (pc := 35) (qi_of g_5) dX9_text_35
  · rw [if_neg hc6] at g_1
    refine J_bipush (pc := 9) (v := (-4 : Int32)) (by decide) dX9_text_9 ?_
    exact J_iret (pc := 11) (qi_of g_1) dX9_text_11
set_option maxHeartbeats 4000000 in
set_option maxRecDepth 100000 in
theorem tX9_force {ad : Nat → Nat} {ca : Nat → ClassId} {D : va_G} {FU d : Nat} {r : Int32} {N : Mem}  {x0 : Nat} {x1 : Int32} {M : Mem}  (h : fX9_force FU  x0 x1 M = some (r, N)) : Ct ad ca D yX9_force cX9_force 3 (some .int) (d + 1) [vR (some x0), vI x1] M (QI r N) := by
  refine Ct_of (by decide) (Nat.le_of_ble_eq_true rfl) ?_
  show J ad ca D cX9_force RX9 3 (d + 1) (Gt ad ca D (some .int) (QI r N)) 0 [(0, vR (some x0)), (1, vI x1)] [] M
  unfold fX9_force at h
  refine J_aload_n (pc := 0) (q := 0) rfl rfl dX9_force_0 ?_
  refine J_iload_n (pc := 1) (q := 1) rfl rfl dX9_force_1 ?_
  refine J_iconst (pc := 2) (v := (0 : Int32)) (by decide) dX9_force_2 ?_
  refine J_aload_n (pc := 3) (q := 0) rfl rfl dX9_force_3 ?_
  obtain ⟨a4, h4, g_1⟩ := bnd h
  refine J_getI (pc := 4) (i := 28) clF9 (by decide) rfl fl_RX9_95 h4 dX9_force_4 ?_
  refine J_iconst (pc := 7) (v := (1 : Int32)) (by decide) dX9_force_7 ?_
  refine J_isub (pc := 8) dX9_force_8 ?_
  obtain ⟨b9, hb9, g_2⟩ := bnd g_1
  obtain ⟨r9, M9, h9, g_3⟩ := bnd2 g_2
  refine J_callVI (pc := 9) (as := [vI x1, vI (0 : Int32), vI (a4 - (1 : Int32))]) (tX9_in (d := d)  h9) cf_X9_in cv_X9_in clF9 hb9 ml_RX9_155 (by omega) (Nat.le_of_ble_eq_true rfl) dX9_force_9 ?_
  refine J_ifne (pc := 12) (tgt := 18) (by decide) dX9_force_12 (fun hc12 => ?_) (fun hc12 => ?_)
  · rw [if_pos hc12] at g_3
    refine J_aload_n (pc := 18) (q := 0) rfl rfl dX9_force_18 ?_
    obtain ⟨a19, h19, g_4⟩ := bnd g_3
    refine J_getI (pc := 19) (i := 29) clF9 (by decide) rfl fl_RX9_98 h19 dX9_force_19 ?_
    refine J_istore_n (pc := 22) rfl (by decide) (lv' := [(0, vR (some x0)), (1, vI x1), (2, vI a19)]) rfl dX9_force_22 ?_
    refine J_aload_n (pc := 23) (q := 0) rfl rfl dX9_force_23 ?_
    refine J_iload_n (pc := 24) (q := 1) rfl rfl dX9_force_24 ?_
    obtain ⟨M25, h25, g_5⟩ := bnd g_4
    refine J_putI (pc := 25) (i := 29) clF9 (by decide) rfl fl_RX9_98 rfl rfl h25 dX9_force_25 ?_
    refine J_iload_n (pc := 28) (q := 2) rfl rfl dX9_force_28 ?_
    exact J_iret (pc := 29) (qi_of g_5) dX9_force_29
  · rw [if_neg hc12] at g_3
    refine J_bipush (pc := 15) (v := (-2 : Int32)) (by decide) dX9_force_15 ?_
    exact J_iret (pc := 17) (qi_of g_3) dX9_force_17
set_option maxHeartbeats 4000000 in
set_option maxRecDepth 100000 in
theorem tX9_named {ad : Nat → Nat} {ca : Nat → ClassId} {D : va_G} {FU d : Nat} {r : Int32} {N : Mem}  {x0 : Nat} {x1 : Int32} {M : Mem}  (h : fX9_named FU  x0 x1 M = some (r, N)) : Ct ad ca D yX9_named cX9_named 2 (some .int) (d + 9) [vR (some x0), vI x1] M (QI r N) := by
  refine Ct_of (by decide) (Nat.le_of_ble_eq_true rfl) ?_
  show J ad ca D cX9_named RX9 2 (d + 9) (Gt ad ca D (some .int) (QI r N)) 0 [(0, vR (some x0)), (1, vI x1)] [] M
  unfold fX9_named at h
  refine J_iload_n (pc := 0) (q := 1) rfl rfl dX9_named_0 ?_
  refine J_ifne (pc := 1) (tgt := 12) (by decide) dX9_named_1 (fun hc1 => ?_) (fun hc1 => ?_)
  · rw [if_pos hc1] at h
    refine J_iload_n (pc := 12) (q := 1) rfl rfl dX9_named_12 ?_
    refine J_iconst (pc := 13) (v := (1 : Int32)) (by decide) dX9_named_13 ?_
    refine J_icne (pc := 14) (tgt := 25) (by decide) dX9_named_14 (fun hc14 => ?_) (fun hc14 => ?_)
    · rw [if_pos hc14] at h
      refine J_iload_n (pc := 25) (q := 1) rfl rfl dX9_named_25 ?_
      refine J_iconst (pc := 26) (v := (2 : Int32)) (by decide) dX9_named_26 ?_
      refine J_icne (pc := 27) (tgt := 38) (by decide) dX9_named_27 (fun hc27 => ?_) (fun hc27 => ?_)
      · rw [if_pos hc27] at h
        refine J_iload_n (pc := 38) (q := 1) rfl rfl dX9_named_38 ?_
        refine J_iconst (pc := 39) (v := (3 : Int32)) (by decide) dX9_named_39 ?_
        refine J_icne (pc := 40) (tgt := 50) (by decide) dX9_named_40 (fun hc40 => ?_) (fun hc40 => ?_)
        · rw [if_pos hc40] at h
          refine J_iload_n (pc := 50) (q := 1) rfl rfl dX9_named_50 ?_
          refine J_iconst (pc := 51) (v := (4 : Int32)) (by decide) dX9_named_51 ?_
          refine J_icne (pc := 52) (tgt := 62) (by decide) dX9_named_52 (fun hc52 => ?_) (fun hc52 => ?_)
          · rw [if_pos hc52] at h
            refine J_aload_n (pc := 62) (q := 0) rfl rfl dX9_named_62 ?_
            obtain ⟨b63, hb63, g_1⟩ := bnd h
            obtain ⟨r63, M63, h63, g_2⟩ := bnd2 g_1
            refine J_callVI (pc := 63) (as := []) (tX9_turnings (d := d)  h63) cf_X9_turnings cv_X9_turnings clF9 hb63 ml_RX9_403 (by omega) (Nat.le_of_ble_eq_true rfl) dX9_named_63 ?_
            exact J_iret (pc := 66) (qi_of g_2) dX9_named_66
          · rw [if_neg hc52] at h
            refine J_aload_n (pc := 55) (q := 0) rfl rfl dX9_named_55 ?_
            obtain ⟨a56, h56, g_3⟩ := bnd h
            refine J_getI (pc := 56) (i := 1) clF9 (by decide) rfl fl_RX9_7 h56 dX9_named_56 ?_
            refine J_goto (pc := 59) (tgt := 66) (by decide) dX9_named_59 ?_
            exact J_iret (pc := 66) (qi_of g_3) dX9_named_66
        · rw [if_neg hc40] at h
          refine J_aload_n (pc := 43) (q := 0) rfl rfl dX9_named_43 ?_
          obtain ⟨b44, hb44, g_4⟩ := bnd h
          obtain ⟨r44, M44, h44, g_5⟩ := bnd2 g_4
          refine J_callVI (pc := 44) (as := []) (tX9_puzzles (d := d)  h44) cf_X9_puzzles cv_X9_puzzles clF9 hb44 ml_RX9_400 (by omega) (Nat.le_of_ble_eq_true rfl) dX9_named_44 ?_
          refine J_goto (pc := 47) (tgt := 66) (by decide) dX9_named_47 ?_
          exact J_iret (pc := 66) (qi_of g_5) dX9_named_66
      · rw [if_neg hc27] at h
        refine J_aload_n (pc := 30) (q := 0) rfl rfl dX9_named_30 ?_
        refine J_iconst (pc := 31) (v := (2 : Int32)) (by decide) dX9_named_31 ?_
        obtain ⟨b32, hb32, g_6⟩ := bnd h
        obtain ⟨r32, M32, h32, g_7⟩ := bnd2 g_6
        refine J_callVI (pc := 32) (as := [vI (2 : Int32)]) (tX9_solvedOf (d := d)  h32) cf_X9_solvedOf cv_X9_solvedOf clF9 hb32 ml_RX9_254 (by omega) (Nat.le_of_ble_eq_true rfl) dX9_named_32 ?_
        refine J_goto (pc := 35) (tgt := 66) (by decide) dX9_named_35 ?_
        exact J_iret (pc := 66) (qi_of g_7) dX9_named_66
    · rw [if_neg hc14] at h
      refine J_aload_n (pc := 17) (q := 0) rfl rfl dX9_named_17 ?_
      refine J_iconst (pc := 18) (v := (1 : Int32)) (by decide) dX9_named_18 ?_
      obtain ⟨b19, hb19, g_8⟩ := bnd h
      obtain ⟨r19, M19, h19, g_9⟩ := bnd2 g_8
      refine J_callVI (pc := 19) (as := [vI (1 : Int32)]) (tX9_solvedOf (d := d)  h19) cf_X9_solvedOf cv_X9_solvedOf clF9 hb19 ml_RX9_254 (by omega) (Nat.le_of_ble_eq_true rfl) dX9_named_19 ?_
      refine J_goto (pc := 22) (tgt := 66) (by decide) dX9_named_22 ?_
      exact J_iret (pc := 66) (qi_of g_9) dX9_named_66
  · rw [if_neg hc1] at h
    refine J_aload_n (pc := 4) (q := 0) rfl rfl dX9_named_4 ?_
    refine J_iconst (pc := 5) (v := (0 : Int32)) (by decide) dX9_named_5 ?_
    obtain ⟨b6, hb6, g_10⟩ := bnd h
    obtain ⟨r6, M6, h6, g_11⟩ := bnd2 g_10
    refine J_callVI (pc := 6) (as := [vI (0 : Int32)]) (tX9_solvedOf (d := d)  h6) cf_X9_solvedOf cv_X9_solvedOf clF9 hb6 ml_RX9_254 (by omega) (Nat.le_of_ble_eq_true rfl) dX9_named_6 ?_
    refine J_goto (pc := 9) (tgt := 66) (by decide) dX9_named_9 ?_
    exact J_iret (pc := 66) (qi_of g_11) dX9_named_66
set_option maxHeartbeats 4000000 in
set_option maxRecDepth 100000 in
theorem jX9_both_b52 {ad : Nat → Nat} {ca : Nat → ClassId} {D : va_G} {FU d : Nat} {r : Int32} {N : Mem}    {M : Mem}   (h : fX9_both_b52 FU  M = some (r, N)) : J ad ca D cX9_both RX9 4 (d + 0) (Gt ad ca D (some .int) (QI r N)) 52 [] [] M := by
  unfold fX9_both_b52 at h
  refine J_iconst (pc := 52) (v := (1 : Int32)) (by decide) dX9_both_52 ?_
  refine J_goto (pc := 53) (tgt := 57) (by decide) dX9_both_53 ?_
  exact J_iret (pc := 57) (qi_of h) dX9_both_57
set_option maxHeartbeats 4000000 in
set_option maxRecDepth 100000 in
theorem tX9_both {ad : Nat → Nat} {ca : Nat → ClassId} {D : va_G} {FU d : Nat} {r : Int32} {N : Mem}  {x0 : Nat} {x1 : Int32} {x2 : Int32} {x3 : Int32} {M : Mem}  (h : fX9_both FU  x0 x1 x2 x3 M = some (r, N)) : Ct ad ca D yX9_both cX9_both 4 (some .int) (d + 0) [vR (some x0), vI x1, vI x2, vI x3] M (QI r N) := by
  refine Ct_of (by decide) (Nat.le_of_ble_eq_true rfl) ?_
  show J ad ca D cX9_both RX9 4 (d + 0) (Gt ad ca D (some .int) (QI r N)) 0 [(0, vR (some x0)), (1, vI x1), (2, vI x2), (3, vI x3)] [] M
  unfold fX9_both at h
  refine J_iload_n (pc := 0) (q := 1) rfl rfl dX9_both_0 ?_
  by_cases hc1_0 : x1 = (-7 : Int32)
  · rw [if_pos hc1_0] at h
    refine J_tin (pc := 1) (tgt := 98) (off := (97)) (by rw [hc1_0]; decide) (by rw [hc1_0]; decide) (by rw [hc1_0]; decide) (by decide) dX9_both_1 ?_
    refine J_iload_n (pc := 98) (q := 2) rfl rfl dX9_both_98 ?_
    refine J_iload_n (pc := 99) (q := 3) rfl rfl dX9_both_99 ?_
    refine J_isub (pc := 100) dX9_both_100 ?_
    exact J_iret (pc := 101) (qi_of h) dX9_both_101
  rw [if_neg hc1_0] at h
  by_cases hc1_1 : x1 = (-6 : Int32)
  · rw [if_pos hc1_1] at h
    refine J_tin (pc := 1) (tgt := 94) (off := (93)) (by rw [hc1_1]; decide) (by rw [hc1_1]; decide) (by rw [hc1_1]; decide) (by decide) dX9_both_1 ?_
    refine J_iload_n (pc := 94) (q := 2) rfl rfl dX9_both_94 ?_
    refine J_iload_n (pc := 95) (q := 3) rfl rfl dX9_both_95 ?_
    refine J_iadd (pc := 96) dX9_both_96 ?_
    exact J_iret (pc := 97) (qi_of h) dX9_both_97
  rw [if_neg hc1_1] at h
  by_cases hc1_2 : x1 = (-5 : Int32)
  · rw [if_pos hc1_2] at h
    refine J_tin (pc := 1) (tgt := 83) (off := (82)) (by rw [hc1_2]; decide) (by rw [hc1_2]; decide) (by rw [hc1_2]; decide) (by decide) dX9_both_1 ?_
    refine J_iload_n (pc := 83) (q := 2) rfl rfl dX9_both_83 ?_
    refine J_iload_n (pc := 84) (q := 3) rfl rfl dX9_both_84 ?_
    refine J_icne (pc := 85) (tgt := 92) (by decide) dX9_both_85 (fun hc85 => ?_) (fun hc85 => ?_)
    · rw [if_pos hc85] at h
      refine J_iconst (pc := 92) (v := (0 : Int32)) (by decide) dX9_both_92 ?_
      exact J_iret (pc := 93) (qi_of h) dX9_both_93
    · rw [if_neg hc85] at h
      refine J_iconst (pc := 88) (v := (1 : Int32)) (by decide) dX9_both_88 ?_
      refine J_goto (pc := 89) (tgt := 93) (by decide) dX9_both_89 ?_
      exact J_iret (pc := 93) (qi_of h) dX9_both_93
  rw [if_neg hc1_2] at h
  by_cases hc1_3 : x1 = (-4 : Int32)
  · rw [if_pos hc1_3] at h
    refine J_tin (pc := 1) (tgt := 72) (off := (71)) (by rw [hc1_3]; decide) (by rw [hc1_3]; decide) (by rw [hc1_3]; decide) (by decide) dX9_both_1 ?_
    refine J_iload_n (pc := 72) (q := 2) rfl rfl dX9_both_72 ?_
    refine J_iload_n (pc := 73) (q := 3) rfl rfl dX9_both_73 ?_
    refine J_icge (pc := 74) (tgt := 81) (by decide) dX9_both_74 (fun hc74 => ?_) (fun hc74 => ?_)
    · rw [if_pos hc74] at h
      refine J_iconst (pc := 81) (v := (0 : Int32)) (by decide) dX9_both_81 ?_
      exact J_iret (pc := 82) (qi_of h) dX9_both_82
    · rw [if_neg hc74] at h
      refine J_iconst (pc := 77) (v := (1 : Int32)) (by decide) dX9_both_77 ?_
      refine J_goto (pc := 78) (tgt := 82) (by decide) dX9_both_78 ?_
      exact J_iret (pc := 82) (qi_of h) dX9_both_82
  rw [if_neg hc1_3] at h
  by_cases hc1_4 : x1 = (-3 : Int32)
  · rw [if_pos hc1_4] at h
    refine J_tin (pc := 1) (tgt := 102) (off := (101)) (by rw [hc1_4]; decide) (by rw [hc1_4]; decide) (by rw [hc1_4]; decide) (by decide) dX9_both_1 ?_
    refine J_iload_n (pc := 102) (q := 2) rfl rfl dX9_both_102 ?_
    refine J_iload_n (pc := 103) (q := 3) rfl rfl dX9_both_103 ?_
    refine J_imul (pc := 104) dX9_both_104 ?_
    exact J_iret (pc := 105) (qi_of h) dX9_both_105
  rw [if_neg hc1_4] at h
  by_cases hc1_5 : x1 = (-2 : Int32)
  · rw [if_pos hc1_5] at h
    refine J_tin (pc := 1) (tgt := 58) (off := (57)) (by rw [hc1_5]; decide) (by rw [hc1_5]; decide) (by rw [hc1_5]; decide) (by decide) dX9_both_1 ?_
    refine J_iload_n (pc := 58) (q := 2) rfl rfl dX9_both_58 ?_
    refine J_ifeq (pc := 59) (tgt := 70) (by decide) dX9_both_59 (fun hc59 => ?_) (fun hc59 => ?_)
    · rw [if_pos hc59] at h
      refine J_iconst (pc := 70) (v := (0 : Int32)) (by decide) dX9_both_70 ?_
      exact J_iret (pc := 71) (qi_of h) dX9_both_71
    · rw [if_neg hc59] at h
      refine J_iload_n (pc := 62) (q := 3) rfl rfl dX9_both_62 ?_
      refine J_ifeq (pc := 63) (tgt := 70) (by decide) dX9_both_63 (fun hc63 => ?_) (fun hc63 => ?_)
      · rw [if_pos hc63] at h
        refine J_iconst (pc := 70) (v := (0 : Int32)) (by decide) dX9_both_70 ?_
        exact J_iret (pc := 71) (qi_of h) dX9_both_71
      · rw [if_neg hc63] at h
        refine J_iconst (pc := 66) (v := (1 : Int32)) (by decide) dX9_both_66 ?_
        refine J_goto (pc := 67) (tgt := 71) (by decide) dX9_both_67 ?_
        exact J_iret (pc := 71) (qi_of h) dX9_both_71
  rw [if_neg hc1_5] at h
  by_cases hc1_6 : x1 = (-1 : Int32)
  · rw [if_pos hc1_6] at h
    refine J_tin (pc := 1) (tgt := 44) (off := (43)) (by rw [hc1_6]; decide) (by rw [hc1_6]; decide) (by rw [hc1_6]; decide) (by decide) dX9_both_1 ?_
    refine J_iload_n (pc := 44) (q := 2) rfl rfl dX9_both_44 ?_
    refine J_ifne (pc := 45) (tgt := 52) (by decide) dX9_both_45 (fun hc45 => ?_) (fun hc45 => ?_)
    · rw [if_pos hc45] at h
      refine J_sub [] (lv' := []) rfl ?_
      exact jX9_both_b52  h
    · rw [if_neg hc45] at h
      refine J_iload_n (pc := 48) (q := 3) rfl rfl dX9_both_48 ?_
      refine J_ifeq (pc := 49) (tgt := 56) (by decide) dX9_both_49 (fun hc49 => ?_) (fun hc49 => ?_)
      · rw [if_pos hc49] at h
        refine J_iconst (pc := 56) (v := (0 : Int32)) (by decide) dX9_both_56 ?_
        exact J_iret (pc := 57) (qi_of h) dX9_both_57
      · rw [if_neg hc49] at h
        refine J_sub [] (lv' := []) rfl ?_
        exact jX9_both_b52  h
  rw [if_neg hc1_6] at h
  refine J_tout (pc := 1) (tgt := 102) (by decide) (by have hn0 := i32ne hc1_0 (z := -7) (by decide); have hn1 := i32ne hc1_1 (z := -6) (by decide); have hn2 := i32ne hc1_2 (z := -5) (by decide); have hn3 := i32ne hc1_3 (z := -4) (by decide); have hn4 := i32ne hc1_4 (z := -3) (by decide); have hn5 := i32ne hc1_5 (z := -2) (by decide); have hn6 := i32ne hc1_6 (z := -1) (by decide); omega) dX9_both_1 ?_
  refine J_iload_n (pc := 102) (q := 2) rfl rfl dX9_both_102 ?_
  refine J_iload_n (pc := 103) (q := 3) rfl rfl dX9_both_103 ?_
  refine J_imul (pc := 104) dX9_both_104 ?_
  exact J_iret (pc := 105) (qi_of h) dX9_both_105
set_option maxHeartbeats 4000000 in
set_option maxRecDepth 100000 in
theorem jX9_says_b184 {ad : Nat → Nat} {ca : Nat → ClassId} {D : va_G} {FU d : Nat} {r : Int64} {N : Mem}  {k28 : Int32 → Int32 → Mem → Option (Int64 × Mem)} {x0 : Nat} {x2 : Int32} {x3 : Int32} {x4 : Int32} {M : Mem}  (hk28 : ∀ (y3 : Int32) (y4 : Int32) (M : Mem), k28 y3 y4 M = some (r, N) → J ad ca D cX9_says RX9 6 (d + 10) (Gt ad ca D (some .long) (QL r N)) 28 [(0, vR (some x0)), (2, vI x2), (3, vI y3), (4, vI y4)] [] M) (h : fX9_says_b184 FU  k28 x0 x2 x3 x4 M = some (r, N)) : J ad ca D cX9_says RX9 6 (d + 10) (Gt ad ca D (some .long) (QL r N)) 184 [(0, vR (some x0)), (2, vI x2), (3, vI x3), (4, vI x4)] [] M := by
  unfold fX9_says_b184 at h
  refine J_iinc (pc := 184) (q := 3) rfl (v := x4 + (1 : Int32)) rfl (by decide) (lv' := [(0, vR (some x0)), (2, vI x2), (3, vI x3), (4, vI (x4 + (1 : Int32)))]) rfl dX9_says_184 ?_
  refine J_goto (pc := 187) (tgt := 28) (by decide) dX9_says_187 ?_
  exact hk28 _ _ _ h
set_option maxHeartbeats 4000000 in
set_option maxRecDepth 100000 in
theorem jX9_says_b86 {ad : Nat → Nat} {ca : Nat → ClassId} {D : va_G} {FU d : Nat} {r : Int64} {N : Mem}  {k28 : Int32 → Int32 → Mem → Option (Int64 × Mem)} {x0 : Nat} {x2 : Int32} {x3 : Int32} {x4 : Int32} {s0 : Option Nat} {s1 : Int32} {s2 : Int32} {M : Mem}  (hk28 : ∀ (y3 : Int32) (y4 : Int32) (M : Mem), k28 y3 y4 M = some (r, N) → J ad ca D cX9_says RX9 6 (d + 10) (Gt ad ca D (some .long) (QL r N)) 28 [(0, vR (some x0)), (2, vI x2), (3, vI y3), (4, vI y4)] [] M) (h : fX9_says_b86 FU  k28 x0 x2 x3 x4 s0 s1 s2 M = some (r, N)) : J ad ca D cX9_says RX9 6 (d + 10) (Gt ad ca D (some .long) (QL r N)) 86 [(0, vR (some x0)), (2, vI x2), (3, vI x3), (4, vI x4)] [vI s2, vI s1, vR s0] M := by
  unfold fX9_says_b86 at h
  obtain ⟨M86, h86, g_1⟩ := bnd h
  refine J_ast0 (pc := 86) h86 dX9_says_86 ?_
  refine J_iinc (pc := 87) (q := 2) rfl (v := x3 + (1 : Int32)) rfl (by decide) (lv' := [(0, vR (some x0)), (2, vI x2), (4, vI x4), (3, vI (x3 + (1 : Int32)))]) rfl dX9_says_87 ?_
  refine J_goto (pc := 90) (tgt := 184) (by decide) dX9_says_90 ?_
  refine J_sub [0, 1, 3, 2] (lv' := [(0, vR (some x0)), (2, vI x2), (3, vI (x3 + (1 : Int32))), (4, vI x4)]) rfl ?_
  exact jX9_says_b184 hk28 g_1
set_option maxHeartbeats 4000000 in
set_option maxRecDepth 100000 in
theorem jX9_says_b149 {ad : Nat → Nat} {ca : Nat → ClassId} {D : va_G} {FU d : Nat} {r : Int64} {N : Mem}  {k28 : Int32 → Int32 → Mem → Option (Int64 × Mem)} {x0 : Nat} {x2 : Int32} {x3 : Int32} {x4 : Int32} {s0 : Option Nat} {s1 : Int32} {s2 : Int32} {M : Mem}  (hk28 : ∀ (y3 : Int32) (y4 : Int32) (M : Mem), k28 y3 y4 M = some (r, N) → J ad ca D cX9_says RX9 6 (d + 10) (Gt ad ca D (some .long) (QL r N)) 28 [(0, vR (some x0)), (2, vI x2), (3, vI y3), (4, vI y4)] [] M) (h : fX9_says_b149 FU  k28 x0 x2 x3 x4 s0 s1 s2 M = some (r, N)) : J ad ca D cX9_says RX9 6 (d + 10) (Gt ad ca D (some .long) (QL r N)) 149 [(0, vR (some x0)), (2, vI x2), (3, vI x3), (4, vI x4)] [vI s2, vI s1, vR s0] M := by
  unfold fX9_says_b149 at h
  obtain ⟨M149, h149, g_2⟩ := bnd h
  refine J_ast0 (pc := 149) h149 dX9_says_149 ?_
  refine J_goto (pc := 150) (tgt := 184) (by decide) dX9_says_150 ?_
  exact jX9_says_b184 hk28 g_2
set_option maxHeartbeats 4000000 in
set_option maxRecDepth 100000 in
theorem jX9_says_b107 {ad : Nat → Nat} {ca : Nat → ClassId} {D : va_G} {FU d : Nat} {r : Int64} {N : Mem}  {k28 : Int32 → Int32 → Mem → Option (Int64 × Mem)} {x0 : Nat} {x2 : Int32} {x3 : Int32} {x4 : Int32} {x5 : Int32} {M : Mem}  (hk28 : ∀ (y3 : Int32) (y4 : Int32) (M : Mem), k28 y3 y4 M = some (r, N) → J ad ca D cX9_says RX9 6 (d + 10) (Gt ad ca D (some .long) (QL r N)) 28 [(0, vR (some x0)), (2, vI x2), (3, vI y3), (4, vI y4)] [] M) (h : fX9_says_b107 FU  k28 x0 x2 x3 x4 x5 M = some (r, N)) : J ad ca D cX9_says RX9 6 (d + 10) (Gt ad ca D (some .long) (QL r N)) 107 [(0, vR (some x0)), (2, vI x2), (3, vI x3), (4, vI x4), (5, vI x5)] [] M := by
  unfold fX9_says_b107 at h
  refine J_aload_n (pc := 107) (q := 0) rfl rfl dX9_says_107 ?_
  obtain ⟨a108, h108, g_3⟩ := bnd h
  refine J_getR (pc := 108) (i := 42) clF9 (by decide) rfl fl_RX9_137 h108 dX9_says_108 ?_
  refine J_iload_n (pc := 111) (q := 2) rfl rfl dX9_says_111 ?_
  refine J_iconst (pc := 112) (v := (1 : Int32)) (by decide) dX9_says_112 ?_
  refine J_isub (pc := 113) dX9_says_113 ?_
  refine J_iload (pc := 114) (q := 4) rfl dX9_says_114 ?_
  refine J_bipush (pc := 116) (v := (-9 : Int32)) (by decide) dX9_says_116 ?_
  refine J_icne (pc := 118) (tgt := 133) (by decide) dX9_says_118 (fun hc118 => ?_) (fun hc118 => ?_)
  · rw [if_pos hc118] at g_3
    refine J_aload_n (pc := 133) (q := 0) rfl rfl dX9_says_133 ?_
    obtain ⟨a134, h134, g_4⟩ := bnd g_3
    refine J_getR (pc := 134) (i := 42) clF9 (by decide) rfl fl_RX9_137 h134 dX9_says_134 ?_
    refine J_iload_n (pc := 137) (q := 2) rfl rfl dX9_says_137 ?_
    refine J_iconst (pc := 138) (v := (1 : Int32)) (by decide) dX9_says_138 ?_
    refine J_isub (pc := 139) dX9_says_139 ?_
    obtain ⟨a140, h140, g_5⟩ := bnd g_4
    refine J_ald0 (pc := 140) h140 dX9_says_140 ?_
    refine J_ifne (pc := 141) (tgt := 148) (by decide) dX9_says_141 (fun hc141 => ?_) (fun hc141 => ?_)
    · rw [if_pos hc141] at g_5
      refine J_iconst (pc := 148) (v := (0 : Int32)) (by decide) dX9_says_148 ?_
      refine J_sub [0, 1, 2, 3] (lv' := [(0, vR (some x0)), (2, vI x2), (3, vI x3), (4, vI x4)]) rfl ?_
      exact jX9_says_b149 hk28 g_5
    · rw [if_neg hc141] at g_5
      refine J_iconst (pc := 144) (v := (1 : Int32)) (by decide) dX9_says_144 ?_
      refine J_goto (pc := 145) (tgt := 149) (by decide) dX9_says_145 ?_
      refine J_sub [0, 1, 2, 3] (lv' := [(0, vR (some x0)), (2, vI x2), (3, vI x3), (4, vI x4)]) rfl ?_
      exact jX9_says_b149 hk28 g_5
  · rw [if_neg hc118] at g_3
    refine J_aload_n (pc := 121) (q := 0) rfl rfl dX9_says_121 ?_
    obtain ⟨a122, h122, g_6⟩ := bnd g_3
    refine J_getR (pc := 122) (i := 42) clF9 (by decide) rfl fl_RX9_137 h122 dX9_says_122 ?_
    refine J_iload_n (pc := 125) (q := 2) rfl rfl dX9_says_125 ?_
    refine J_iconst (pc := 126) (v := (1 : Int32)) (by decide) dX9_says_126 ?_
    refine J_isub (pc := 127) dX9_says_127 ?_
    obtain ⟨a128, h128, g_7⟩ := bnd g_6
    refine J_ald0 (pc := 128) h128 dX9_says_128 ?_
    refine J_ineg (pc := 129) dX9_says_129 ?_
    refine J_goto (pc := 130) (tgt := 149) (by decide) dX9_says_130 ?_
    refine J_sub [0, 1, 2, 3] (lv' := [(0, vR (some x0)), (2, vI x2), (3, vI x3), (4, vI x4)]) rfl ?_
    exact jX9_says_b149 hk28 g_7
set_option maxHeartbeats 4000000 in
set_option maxRecDepth 100000 in
theorem jX9_says_L28 {ad : Nat → Nat} {ca : Nat → ClassId} {D : va_G} {FU d : Nat} {r : Int64} {N : Mem}   {x0 : Nat} {x2 : Int32}   : ∀ (F : Nat) (x3 : Int32) (x4 : Int32) (M : Mem), fX9_says_L28 FU  x0 x2 F x3 x4 M = some (r, N) → J ad ca D cX9_says RX9 6 (d + 10) (Gt ad ca D (some .long) (QL r N)) 28 [(0, vR (some x0)), (2, vI x2), (3, vI x3), (4, vI x4)] [] M := by
  intro F
  induction F with
  | zero =>
    intro x3 x4 M h
    rw [fX9_says_L28] at h
    cases h
  | succ F hk28 =>
    intro x3 x4 M h
    rw [fX9_says_L28] at h
    refine J_iload (pc := 28) (q := 3) rfl dX9_says_28 ?_
    refine J_aload_n (pc := 30) (q := 0) rfl rfl dX9_says_30 ?_
    obtain ⟨a31, h31, g_8⟩ := bnd h
    refine J_getR (pc := 31) (i := 30) clF9 (by decide) rfl fl_RX9_101 h31 dX9_says_31 ?_
    refine J_iload_n (pc := 34) (q := 1) rfl rfl dX9_says_34 ?_
    obtain ⟨a35, h35, g_9⟩ := bnd g_8
    refine J_ald0 (pc := 35) h35 dX9_says_35 ?_
    refine J_icge (pc := 36) (tgt := 190) (by decide) dX9_says_36 (fun hc36 => ?_) (fun hc36 => ?_)
    · rw [if_pos hc36] at g_9
      refine J_aload_n (pc := 190) (q := 0) rfl rfl dX9_says_190 ?_
      obtain ⟨a191, h191, g_10⟩ := bnd g_9
      refine J_getR (pc := 191) (i := 42) clF9 (by decide) rfl fl_RX9_137 h191 dX9_says_191 ?_
      refine J_iconst (pc := 194) (v := (0 : Int32)) (by decide) dX9_says_194 ?_
      obtain ⟨a195, h195, g_11⟩ := bnd g_10
      refine J_ald0 (pc := 195) h195 dX9_says_195 ?_
      refine J_i2l (pc := 196) dX9_says_196 ?_
      exact J_lret (pc := 197) (ql_of g_11) dX9_says_197
    · rw [if_neg hc36] at g_9
      refine J_aload_n (pc := 39) (q := 0) rfl rfl dX9_says_39 ?_
      obtain ⟨a40, h40, g_12⟩ := bnd g_9
      refine J_getR (pc := 40) (i := 31) clF9 (by decide) rfl fl_RX9_104 h40 dX9_says_40 ?_
      refine J_bipush (pc := 43) (v := (120 : Int32)) (by decide) dX9_says_43 ?_
      refine J_iload_n (pc := 45) (q := 1) rfl rfl dX9_says_45 ?_
      refine J_imul (pc := 46) dX9_says_46 ?_
      refine J_iload (pc := 47) (q := 3) rfl dX9_says_47 ?_
      refine J_iadd (pc := 49) dX9_says_49 ?_
      obtain ⟨a50, h50, g_13⟩ := bnd g_12
      refine J_ald0 (pc := 50) h50 dX9_says_50 ?_
      refine J_istore (pc := 51) (by decide) (lv' := [(0, vR (some x0)), (2, vI x2), (3, vI x3), (4, vI x4), (5, vI a50)]) rfl dX9_says_51 ?_
      refine J_iload (pc := 53) (q := 4) rfl dX9_says_53 ?_
      refine J_iflt (pc := 55) (tgt := 93) (by decide) dX9_says_55 (fun hc55 => ?_) (fun hc55 => ?_)
      · rw [if_pos hc55] at g_13
        refine J_iload (pc := 93) (q := 4) rfl dX9_says_93 ?_
        refine J_bipush (pc := 95) (v := (-3 : Int32)) (by decide) dX9_says_95 ?_
        refine J_iceq (pc := 97) (tgt := 107) (by decide) dX9_says_97 (fun hc97 => ?_) (fun hc97 => ?_)
        · rw [if_pos hc97] at g_13
          exact jX9_says_b107 hk28 g_13
        · rw [if_neg hc97] at g_13
          refine J_iload (pc := 100) (q := 4) rfl dX9_says_100 ?_
          refine J_bipush (pc := 102) (v := (-9 : Int32)) (by decide) dX9_says_102 ?_
          refine J_icne (pc := 104) (tgt := 153) (by decide) dX9_says_104 (fun hc104 => ?_) (fun hc104 => ?_)
          · rw [if_pos hc104] at g_13
            refine J_iinc (pc := 153) (q := 2) rfl (v := x3 + (-1 : Int32)) (congrArg (fun z => x3 + z) (show Int32.ofInt (-1) = (-1 : Int32) by decide)) (by decide) (lv' := [(0, vR (some x0)), (2, vI x2), (4, vI x4), (5, vI a50), (3, vI (x3 + (-1 : Int32)))]) rfl dX9_says_153 ?_
            refine J_aload_n (pc := 156) (q := 0) rfl rfl dX9_says_156 ?_
            obtain ⟨a157, h157, g_14⟩ := bnd g_13
            refine J_getR (pc := 157) (i := 42) clF9 (by decide) rfl fl_RX9_137 h157 dX9_says_157 ?_
            refine J_iload_n (pc := 160) (q := 4) rfl rfl dX9_says_160 ?_
            refine J_iconst (pc := 161) (v := (1 : Int32)) (by decide) dX9_says_161 ?_
            refine J_isub (pc := 162) dX9_says_162 ?_
            refine J_aload_n (pc := 163) (q := 0) rfl rfl dX9_says_163 ?_
            refine J_iload (pc := 164) (q := 3) rfl dX9_says_164 ?_
            refine J_aload_n (pc := 166) (q := 0) rfl rfl dX9_says_166 ?_
            obtain ⟨a167, h167, g_15⟩ := bnd g_14
            refine J_getR (pc := 167) (i := 42) clF9 (by decide) rfl fl_RX9_137 h167 dX9_says_167 ?_
            refine J_iload_n (pc := 170) (q := 4) rfl rfl dX9_says_170 ?_
            refine J_iconst (pc := 171) (v := (1 : Int32)) (by decide) dX9_says_171 ?_
            refine J_isub (pc := 172) dX9_says_172 ?_
            obtain ⟨a173, h173, g_16⟩ := bnd g_15
            refine J_ald0 (pc := 173) h173 dX9_says_173 ?_
            refine J_aload_n (pc := 174) (q := 0) rfl rfl dX9_says_174 ?_
            obtain ⟨a175, h175, g_17⟩ := bnd g_16
            refine J_getR (pc := 175) (i := 42) clF9 (by decide) rfl fl_RX9_137 h175 dX9_says_175 ?_
            refine J_iload_n (pc := 178) (q := 4) rfl rfl dX9_says_178 ?_
            obtain ⟨a179, h179, g_18⟩ := bnd g_17
            refine J_ald0 (pc := 179) h179 dX9_says_179 ?_
            obtain ⟨b180, hb180, g_19⟩ := bnd g_18
            obtain ⟨r180, M180, h180, g_20⟩ := bnd2 g_19
            refine J_callVI (pc := 180) (as := [vI a50, vI a173, vI a179]) (tX9_both (d := d)  h180) cf_X9_both cv_X9_both clF9 hb180 ml_RX9_410 (by omega) (Nat.le_of_ble_eq_true rfl) dX9_says_180 ?_
            obtain ⟨M183, h183, g_21⟩ := bnd g_20
            refine J_ast0 (pc := 183) h183 dX9_says_183 ?_
            refine J_sub [0, 1, 4, 2] (lv' := [(0, vR (some x0)), (2, vI x2), (3, vI (x3 + (-1 : Int32))), (4, vI x4)]) rfl ?_
            exact jX9_says_b184 hk28 g_21
          · rw [if_neg hc104] at g_13
            exact jX9_says_b107 hk28 g_13
      · rw [if_neg hc55] at g_13
        refine J_aload_n (pc := 58) (q := 0) rfl rfl dX9_says_58 ?_
        obtain ⟨a59, h59, g_22⟩ := bnd g_13
        refine J_getR (pc := 59) (i := 42) clF9 (by decide) rfl fl_RX9_137 h59 dX9_says_59 ?_
        refine J_iload_n (pc := 62) (q := 2) rfl rfl dX9_says_62 ?_
        refine J_iload (pc := 63) (q := 4) rfl dX9_says_63 ?_
        refine J_sipush (pc := 65) (v := (10000 : Int32)) (by decide) dX9_says_65 ?_
        refine J_icge (pc := 68) (tgt := 76) (by decide) dX9_says_68 (fun hc68 => ?_) (fun hc68 => ?_)
        · rw [if_pos hc68] at g_22
          refine J_aload_n (pc := 76) (q := 0) rfl rfl dX9_says_76 ?_
          refine J_iload (pc := 77) (q := 4) rfl dX9_says_77 ?_
          refine J_sipush (pc := 79) (v := (10000 : Int32)) (by decide) dX9_says_79 ?_
          refine J_isub (pc := 82) dX9_says_82 ?_
          obtain ⟨b83, hb83, g_23⟩ := bnd g_22
          obtain ⟨r83, M83, h83, g_24⟩ := bnd2 g_23
          refine J_callVI (pc := 83) (as := [vI (a50 - (10000 : Int32))]) (tX9_named (d := d)  h83) cf_X9_named cv_X9_named clF9 hb83 ml_RX9_408 (by omega) (Nat.le_of_ble_eq_true rfl) dX9_says_83 ?_
          refine J_sub [0, 1, 2, 3] (lv' := [(0, vR (some x0)), (2, vI x2), (3, vI x3), (4, vI x4)]) rfl ?_
          exact jX9_says_b86 hk28 g_24
        · rw [if_neg hc68] at g_22
          refine J_iload (pc := 71) (q := 4) rfl dX9_says_71 ?_
          refine J_goto (pc := 73) (tgt := 86) (by decide) dX9_says_73 ?_
          refine J_sub [0, 1, 2, 3] (lv' := [(0, vR (some x0)), (2, vI x2), (3, vI x3), (4, vI x4)]) rfl ?_
          exact jX9_says_b86 hk28 g_22
set_option maxHeartbeats 4000000 in
set_option maxRecDepth 100000 in
theorem tX9_says {ad : Nat → Nat} {ca : Nat → ClassId} {D : va_G} {FU d : Nat} {r : Int64} {N : Mem}  {x0 : Nat} {x1 : Int32} {M : Mem}  (h : fX9_says FU  x0 x1 M = some (r, N)) : Ct ad ca D yX9_says cX9_says 6 (some .long) (d + 10) [vR (some x0), vI x1] M (QL r N) := by
  refine Ct_of (by decide) (Nat.le_of_ble_eq_true rfl) ?_
  show J ad ca D cX9_says RX9 6 (d + 10) (Gt ad ca D (some .long) (QL r N)) 0 [(0, vR (some x0)), (1, vI x1)] [] M
  unfold fX9_says at h
  refine J_aload_n (pc := 0) (q := 0) rfl rfl dX9_says_0 ?_
  refine J_iload_n (pc := 1) (q := 1) rfl rfl dX9_says_1 ?_
  refine J_iconst (pc := 2) (v := (0 : Int32)) (by decide) dX9_says_2 ?_
  refine J_iconst (pc := 3) (v := (1 : Int32)) (by decide) dX9_says_3 ?_
  obtain ⟨b4, hb4, g_25⟩ := bnd h
  obtain ⟨r4, M4, h4, g_26⟩ := bnd2 g_25
  refine J_callVI (pc := 4) (as := [vI x1, vI (0 : Int32), vI (1 : Int32)]) (tX9_in (d := d)  h4) cf_X9_in cv_X9_in clF9 hb4 ml_RX9_155 (by omega) (Nat.le_of_ble_eq_true rfl) dX9_says_4 ?_
  refine J_ifne (pc := 7) (tgt := 14) (by decide) dX9_says_7 (fun hc7 => ?_) (fun hc7 => ?_)
  · rw [if_pos hc7] at g_26
    refine J_iconst (pc := 14) (v := (2 : Int32)) (by decide) dX9_says_14 ?_
    refine J_aload_n (pc := 15) (q := 0) rfl rfl dX9_says_15 ?_
    obtain ⟨a16, h16, g_27⟩ := bnd g_26
    refine J_getI (pc := 16) (i := 29) clF9 (by decide) rfl fl_RX9_98 h16 dX9_says_16 ?_
    refine J_imul (pc := 19) dX9_says_19 ?_
    refine J_iload_n (pc := 20) (q := 1) rfl rfl dX9_says_20 ?_
    refine J_iadd (pc := 21) dX9_says_21 ?_
    refine J_istore_n (pc := 22) rfl (by decide) (lv' := [(0, vR (some x0)), (1, vI x1), (2, vI (((2 : Int32) * a16) + x1))]) rfl dX9_says_22 ?_
    refine J_iconst (pc := 23) (v := (0 : Int32)) (by decide) dX9_says_23 ?_
    refine J_istore_n (pc := 24) rfl (by decide) (lv' := [(0, vR (some x0)), (1, vI x1), (2, vI (((2 : Int32) * a16) + x1)), (3, vI (0 : Int32))]) rfl dX9_says_24 ?_
    refine J_iconst (pc := 25) (v := (0 : Int32)) (by decide) dX9_says_25 ?_
    refine J_istore (pc := 26) (by decide) (lv' := [(0, vR (some x0)), (1, vI x1), (2, vI (((2 : Int32) * a16) + x1)), (3, vI (0 : Int32)), (4, vI (0 : Int32))]) rfl dX9_says_26 ?_
    refine J_sub [0, 2, 3, 4] (lv' := [(0, vR (some x0)), (2, vI (((2 : Int32) * a16) + x1)), (3, vI (0 : Int32)), (4, vI (0 : Int32))]) rfl ?_
    exact jX9_says_L28  FU _ _ _ g_27
  · rw [if_neg hc7] at g_26
    refine J_ldc2 (pc := 10) cn_RX9_406 dX9_says_10 ?_
    exact J_lret (pc := 13) (ql_of g_26) dX9_says_13
set_option maxHeartbeats 4000000 in
set_option maxRecDepth 100000 in
theorem tX9_count {ad : Nat → Nat} {ca : Nat → ClassId} {D : va_G} {FU d : Nat} {r : Int32} {N : Mem}  {x0 : Nat} {x1 : Int32} {M : Mem}  (h : fX9_count FU  x0 x1 M = some (r, N)) : Ct ad ca D yX9_count cX9_count 2 (some .int) (d + 2) [vR (some x0), vI x1] M (QI r N) := by
  refine Ct_of (by decide) (Nat.le_of_ble_eq_true rfl) ?_
  show J ad ca D cX9_count RX9 2 (d + 2) (Gt ad ca D (some .int) (QI r N)) 0 [(0, vR (some x0)), (1, vI x1)] [] M
  unfold fX9_count at h
  refine J_iload_n (pc := 0) (q := 1) rfl rfl dX9_count_0 ?_
  by_cases hc1_0 : x1 = (0 : Int32)
  · rw [if_pos hc1_0] at h
    refine J_tin (pc := 1) (tgt := 52) (off := (51)) (by rw [hc1_0]; decide) (by rw [hc1_0]; decide) (by rw [hc1_0]; decide) (by decide) dX9_count_1 ?_
    refine J_aload_n (pc := 52) (q := 0) rfl rfl dX9_count_52 ?_
    obtain ⟨a53, h53, g_1⟩ := bnd h
    refine J_getI (pc := 53) (i := 0) clF9 (by decide) rfl fl_RX9_149 h53 dX9_count_53 ?_
    exact J_iret (pc := 56) (qi_of g_1) dX9_count_56
  rw [if_neg hc1_0] at h
  by_cases hc1_1 : x1 = (1 : Int32)
  · rw [if_pos hc1_1] at h
    refine J_tin (pc := 1) (tgt := 57) (off := (56)) (by rw [hc1_1]; decide) (by rw [hc1_1]; decide) (by rw [hc1_1]; decide) (by decide) dX9_count_1 ?_
    refine J_aload_n (pc := 57) (q := 0) rfl rfl dX9_count_57 ?_
    obtain ⟨a58, h58, g_2⟩ := bnd h
    refine J_getI (pc := 58) (i := 1) clF9 (by decide) rfl fl_RX9_7 h58 dX9_count_58 ?_
    exact J_iret (pc := 61) (qi_of g_2) dX9_count_61
  rw [if_neg hc1_1] at h
  by_cases hc1_2 : x1 = (2 : Int32)
  · rw [if_pos hc1_2] at h
    refine J_tin (pc := 1) (tgt := 62) (off := (61)) (by rw [hc1_2]; decide) (by rw [hc1_2]; decide) (by rw [hc1_2]; decide) (by decide) dX9_count_1 ?_
    refine J_aload_n (pc := 62) (q := 0) rfl rfl dX9_count_62 ?_
    obtain ⟨b63, hb63, g_3⟩ := bnd h
    obtain ⟨r63, M63, h63, g_4⟩ := bnd2 g_3
    refine J_callVI (pc := 63) (as := []) (tX9_shutters (d := d)  h63) cf_X9_shutters cv_X9_shutters clF9 hb63 ml_RX9_166 (by omega) (Nat.le_of_ble_eq_true rfl) dX9_count_63 ?_
    exact J_iret (pc := 66) (qi_of g_4) dX9_count_66
  rw [if_neg hc1_2] at h
  by_cases hc1_3 : x1 = (3 : Int32)
  · rw [if_pos hc1_3] at h
    refine J_tin (pc := 1) (tgt := 67) (off := (66)) (by rw [hc1_3]; decide) (by rw [hc1_3]; decide) (by rw [hc1_3]; decide) (by decide) dX9_count_1 ?_
    refine J_aload_n (pc := 67) (q := 0) rfl rfl dX9_count_67 ?_
    obtain ⟨a68, h68, g_5⟩ := bnd h
    refine J_getI (pc := 68) (i := 2) clF9 (by decide) rfl fl_RX9_13 h68 dX9_count_68 ?_
    exact J_iret (pc := 71) (qi_of g_5) dX9_count_71
  rw [if_neg hc1_3] at h
  by_cases hc1_4 : x1 = (4 : Int32)
  · rw [if_pos hc1_4] at h
    refine J_tin (pc := 1) (tgt := 72) (off := (71)) (by rw [hc1_4]; decide) (by rw [hc1_4]; decide) (by rw [hc1_4]; decide) (by decide) dX9_count_1 ?_
    refine J_aload_n (pc := 72) (q := 0) rfl rfl dX9_count_72 ?_
    obtain ⟨a73, h73, g_6⟩ := bnd h
    refine J_getI (pc := 73) (i := 3) clF9 (by decide) rfl fl_RX9_16 h73 dX9_count_73 ?_
    exact J_iret (pc := 76) (qi_of g_6) dX9_count_76
  rw [if_neg hc1_4] at h
  by_cases hc1_5 : x1 = (5 : Int32)
  · rw [if_pos hc1_5] at h
    refine J_tin (pc := 1) (tgt := 77) (off := (76)) (by rw [hc1_5]; decide) (by rw [hc1_5]; decide) (by rw [hc1_5]; decide) (by decide) dX9_count_1 ?_
    refine J_aload_n (pc := 77) (q := 0) rfl rfl dX9_count_77 ?_
    obtain ⟨a78, h78, g_7⟩ := bnd h
    refine J_getI (pc := 78) (i := 28) clF9 (by decide) rfl fl_RX9_95 h78 dX9_count_78 ?_
    exact J_iret (pc := 81) (qi_of g_7) dX9_count_81
  rw [if_neg hc1_5] at h
  by_cases hc1_6 : x1 = (6 : Int32)
  · rw [if_pos hc1_6] at h
    refine J_tin (pc := 1) (tgt := 82) (off := (81)) (by rw [hc1_6]; decide) (by rw [hc1_6]; decide) (by rw [hc1_6]; decide) (by decide) dX9_count_1 ?_
    refine J_aload_n (pc := 82) (q := 0) rfl rfl dX9_count_82 ?_
    obtain ⟨a83, h83, g_8⟩ := bnd h
    refine J_getI (pc := 83) (i := 27) clF9 (by decide) rfl fl_RX9_92 h83 dX9_count_83 ?_
    exact J_iret (pc := 86) (qi_of g_8) dX9_count_86
  rw [if_neg hc1_6] at h
  by_cases hc1_7 : x1 = (7 : Int32)
  · rw [if_pos hc1_7] at h
    refine J_tin (pc := 1) (tgt := 87) (off := (86)) (by rw [hc1_7]; decide) (by rw [hc1_7]; decide) (by rw [hc1_7]; decide) (by decide) dX9_count_1 ?_
    refine J_aload_n (pc := 87) (q := 0) rfl rfl dX9_count_87 ?_
    obtain ⟨a88, h88, g_9⟩ := bnd h
    refine J_getI (pc := 88) (i := 29) clF9 (by decide) rfl fl_RX9_98 h88 dX9_count_88 ?_
    exact J_iret (pc := 91) (qi_of g_9) dX9_count_91
  rw [if_neg hc1_7] at h
  by_cases hc1_8 : x1 = (8 : Int32)
  · rw [if_pos hc1_8] at h
    refine J_tin (pc := 1) (tgt := 92) (off := (91)) (by rw [hc1_8]; decide) (by rw [hc1_8]; decide) (by rw [hc1_8]; decide) (by decide) dX9_count_1 ?_
    refine J_aload_n (pc := 92) (q := 0) rfl rfl dX9_count_92 ?_
    obtain ⟨a93, h93, g_10⟩ := bnd h
    refine J_getI (pc := 93) (i := 19) clF9 (by decide) rfl fl_RX9_67 h93 dX9_count_93 ?_
    refine J_ifeq (pc := 96) (tgt := 103) (by decide) dX9_count_96 (fun hc96 => ?_) (fun hc96 => ?_)
    · rw [if_pos hc96] at g_10
      refine J_iconst (pc := 103) (v := (0 : Int32)) (by decide) dX9_count_103 ?_
      exact J_iret (pc := 104) (qi_of g_10) dX9_count_104
    · rw [if_neg hc96] at g_10
      refine J_iconst (pc := 99) (v := (1 : Int32)) (by decide) dX9_count_99 ?_
      refine J_goto (pc := 100) (tgt := 104) (by decide) dX9_count_100 ?_
      exact J_iret (pc := 104) (qi_of g_10) dX9_count_104
  rw [if_neg hc1_8] at h
  refine J_tout (pc := 1) (tgt := 105) (by decide) (by have hn0 := i32ne hc1_0 (z := 0) (by decide); have hn1 := i32ne hc1_1 (z := 1) (by decide); have hn2 := i32ne hc1_2 (z := 2) (by decide); have hn3 := i32ne hc1_3 (z := 3) (by decide); have hn4 := i32ne hc1_4 (z := 4) (by decide); have hn5 := i32ne hc1_5 (z := 5) (by decide); have hn6 := i32ne hc1_6 (z := 6) (by decide); have hn7 := i32ne hc1_7 (z := 7) (by decide); have hn8 := i32ne hc1_8 (z := 8) (by decide); omega) dX9_count_1 ?_
  refine J_bipush (pc := 105) (v := (-2 : Int32)) (by decide) dX9_count_105 ?_
  exact J_iret (pc := 107) (qi_of h) dX9_count_107
set_option maxHeartbeats 4000000 in
set_option maxRecDepth 100000 in
theorem tX9_isSheet {ad : Nat → Nat} {ca : Nat → ClassId} {D : va_G} {FU d : Nat} {r : Int32} {N : Mem}  {x0 : Nat} {x1 : Int32} {M : Mem}  (h : fX9_isSheet FU  x0 x1 M = some (r, N)) : Ct ad ca D yX9_isSheet cX9_isSheet 2 (some .boolean) (d + 1) [vR (some x0), vI x1] M (QI r N) := by
  refine Ct_of (by decide) (Nat.le_of_ble_eq_true rfl) ?_
  show J ad ca D cX9_isSheet RX9 2 (d + 1) (Gt ad ca D (some .boolean) (QI r N)) 0 [(0, vR (some x0)), (1, vI x1)] [] M
  unfold fX9_isSheet at h
  refine J_aload_n (pc := 0) (q := 0) rfl rfl dX9_isSheet_0 ?_
  refine J_iload_n (pc := 1) (q := 1) rfl rfl dX9_isSheet_1 ?_
  refine J_iconst (pc := 2) (v := (0 : Int32)) (by decide) dX9_isSheet_2 ?_
  refine J_iconst (pc := 3) (v := (3 : Int32)) (by decide) dX9_isSheet_3 ?_
  obtain ⟨b4, hb4, g_1⟩ := bnd h
  obtain ⟨r4, M4, h4, g_2⟩ := bnd2 g_1
  refine J_callVI (pc := 4) (as := [vI x1, vI (0 : Int32), vI (3 : Int32)]) (tX9_in (d := d)  h4) cf_X9_in cv_X9_in clF9 hb4 ml_RX9_155 (by omega) (Nat.le_of_ble_eq_true rfl) dX9_isSheet_4 ?_
  obtain ⟨hz7, g_3⟩ := grd g_2
  exact J_zret (pc := 7) hz7 (qi_of g_3) dX9_isSheet_7
set_option maxHeartbeats 4000000 in
set_option maxRecDepth 100000 in
theorem jX9_sheet_L67 {ad : Nat → Nat} {ca : Nat → ClassId} {D : va_G} {FU d : Nat} {r : Int32} {N : Mem}   {x0 : Nat} {x1 : Int32}   : ∀ (F : Nat) (x4 : Int32) (M : Mem), fX9_sheet_L67 FU  x0 x1 F x4 M = some (r, N) → J ad ca D cX9_sheet RX9 5 (d + 2) (Gt ad ca D (some .int) (QI r N)) 67 [(0, vR (some x0)), (1, vI x1), (4, vI x4)] [] M := by
  intro F
  induction F with
  | zero =>
    intro x4 M h
    rw [fX9_sheet_L67] at h
    cases h
  | succ F hk67 =>
    intro x4 M h
    rw [fX9_sheet_L67] at h
    refine J_iload (pc := 67) (q := 2) rfl dX9_sheet_67 ?_
    refine J_bipush (pc := 69) (v := (40 : Int32)) (by decide) dX9_sheet_69 ?_
    refine J_icge (pc := 71) (tgt := 93) (by decide) dX9_sheet_71 (fun hc71 => ?_) (fun hc71 => ?_)
    · rw [if_pos hc71] at h
      refine J_iconst (pc := 93) (v := (1 : Int32)) (by decide) dX9_sheet_93 ?_
      exact J_iret (pc := 94) (qi_of h) dX9_sheet_94
    · rw [if_neg hc71] at h
      refine J_aload_n (pc := 74) (q := 0) rfl rfl dX9_sheet_74 ?_
      obtain ⟨a75, h75, g_1⟩ := bnd h
      refine J_getR (pc := 75) (i := 45) clF9 (by decide) rfl fl_RX9_146 h75 dX9_sheet_75 ?_
      refine J_bipush (pc := 78) (v := (40 : Int32)) (by decide) dX9_sheet_78 ?_
      refine J_iload_n (pc := 80) (q := 1) rfl rfl dX9_sheet_80 ?_
      refine J_imul (pc := 81) dX9_sheet_81 ?_
      refine J_iload (pc := 82) (q := 2) rfl dX9_sheet_82 ?_
      refine J_iadd (pc := 84) dX9_sheet_84 ?_
      refine J_iconst (pc := 85) (v := (0 : Int32)) (by decide) dX9_sheet_85 ?_
      obtain ⟨M86, h86, g_2⟩ := bnd g_1
      refine J_ast0 (pc := 86) h86 dX9_sheet_86 ?_
      refine J_iinc (pc := 87) (q := 2) rfl (v := x4 + (1 : Int32)) rfl (by decide) (lv' := [(0, vR (some x0)), (1, vI x1), (4, vI (x4 + (1 : Int32)))]) rfl dX9_sheet_87 ?_
      refine J_goto (pc := 90) (tgt := 67) (by decide) dX9_sheet_90 ?_
      exact hk67 _ _ g_2
set_option maxHeartbeats 4000000 in
set_option maxRecDepth 100000 in
theorem jX9_sheet_b63 {ad : Nat → Nat} {ca : Nat → ClassId} {D : va_G} {FU d : Nat} {r : Int32} {N : Mem}   {x0 : Nat} {x1 : Int32} {s0 : Option Nat} {s1 : Int32} {s2 : Int32} {M : Mem}   (h : fX9_sheet_b63 FU  x0 x1 s0 s1 s2 M = some (r, N)) : J ad ca D cX9_sheet RX9 5 (d + 2) (Gt ad ca D (some .int) (QI r N)) 63 [(0, vR (some x0)), (1, vI x1)] [vI s2, vI s1, vR s0] M := by
  unfold fX9_sheet_b63 at h
  obtain ⟨M63, h63, g_3⟩ := bnd h
  refine J_ast0 (pc := 63) h63 dX9_sheet_63 ?_
  refine J_iconst (pc := 64) (v := (0 : Int32)) (by decide) dX9_sheet_64 ?_
  refine J_istore (pc := 65) (by decide) (lv' := [(0, vR (some x0)), (1, vI x1), (4, vI (0 : Int32))]) rfl dX9_sheet_65 ?_
  exact jX9_sheet_L67  FU _ _ g_3
set_option maxHeartbeats 4000000 in
set_option maxRecDepth 100000 in
theorem jX9_sheet_b42 {ad : Nat → Nat} {ca : Nat → ClassId} {D : va_G} {FU d : Nat} {r : Int32} {N : Mem}   {x0 : Nat} {x1 : Int32} {x2 : Int32} {x3 : Int32} {M : Mem}   (h : fX9_sheet_b42 FU  x0 x1 x2 x3 M = some (r, N)) : J ad ca D cX9_sheet RX9 5 (d + 2) (Gt ad ca D (some .int) (QI r N)) 42 [(0, vR (some x0)), (1, vI x1), (2, vI x2), (3, vI x3)] [] M := by
  unfold fX9_sheet_b42 at h
  refine J_aload_n (pc := 42) (q := 0) rfl rfl dX9_sheet_42 ?_
  obtain ⟨a43, h43, g_4⟩ := bnd h
  refine J_getR (pc := 43) (i := 43) clF9 (by decide) rfl fl_RX9_140 h43 dX9_sheet_43 ?_
  refine J_iload_n (pc := 46) (q := 1) rfl rfl dX9_sheet_46 ?_
  refine J_iload_n (pc := 47) (q := 2) rfl rfl dX9_sheet_47 ?_
  obtain ⟨M48, h48, g_5⟩ := bnd g_4
  refine J_ast0 (pc := 48) h48 dX9_sheet_48 ?_
  refine J_aload_n (pc := 49) (q := 0) rfl rfl dX9_sheet_49 ?_
  obtain ⟨a50, h50, g_6⟩ := bnd g_5
  refine J_getR (pc := 50) (i := 44) clF9 (by decide) rfl fl_RX9_143 h50 dX9_sheet_50 ?_
  refine J_iload_n (pc := 53) (q := 1) rfl rfl dX9_sheet_53 ?_
  refine J_iload_n (pc := 54) (q := 2) rfl rfl dX9_sheet_54 ?_
  refine J_ifge (pc := 55) (tgt := 62) (by decide) dX9_sheet_55 (fun hc55 => ?_) (fun hc55 => ?_)
  · rw [if_pos hc55] at g_6
    refine J_iload_n (pc := 62) (q := 3) rfl rfl dX9_sheet_62 ?_
    refine J_sub [0, 1] (lv' := [(0, vR (some x0)), (1, vI x1)]) rfl ?_
    exact jX9_sheet_b63  g_6
  · rw [if_neg hc55] at g_6
    refine J_iconst (pc := 58) (v := (0 : Int32)) (by decide) dX9_sheet_58 ?_
    refine J_goto (pc := 59) (tgt := 63) (by decide) dX9_sheet_59 ?_
    refine J_sub [0, 1] (lv' := [(0, vR (some x0)), (1, vI x1)]) rfl ?_
    exact jX9_sheet_b63  g_6
set_option maxHeartbeats 4000000 in
set_option maxRecDepth 100000 in
theorem jX9_sheet_b31 {ad : Nat → Nat} {ca : Nat → ClassId} {D : va_G} {FU d : Nat} {r : Int32} {N : Mem}   {x0 : Nat} {x1 : Int32} {x2 : Int32} {x3 : Int32} {M : Mem}   (h : fX9_sheet_b31 FU  x0 x1 x2 x3 M = some (r, N)) : J ad ca D cX9_sheet RX9 5 (d + 2) (Gt ad ca D (some .int) (QI r N)) 31 [(0, vR (some x0)), (1, vI x1), (2, vI x2), (3, vI x3)] [] M := by
  unfold fX9_sheet_b31 at h
  refine J_iload_n (pc := 31) (q := 2) rfl rfl dX9_sheet_31 ?_
  refine J_iflt (pc := 32) (tgt := 42) (by decide) dX9_sheet_32 (fun hc32 => ?_) (fun hc32 => ?_)
  · rw [if_pos hc32] at h
    exact jX9_sheet_b42  h
  · rw [if_neg hc32] at h
    refine J_iload_n (pc := 35) (q := 3) rfl rfl dX9_sheet_35 ?_
    refine J_ifge (pc := 36) (tgt := 42) (by decide) dX9_sheet_36 (fun hc36 => ?_) (fun hc36 => ?_)
    · rw [if_pos hc36] at h
      exact jX9_sheet_b42  h
    · rw [if_neg hc36] at h
      refine J_bipush (pc := 39) (v := (-14 : Int32)) (by decide) dX9_sheet_39 ?_
      exact J_iret (pc := 41) (qi_of h) dX9_sheet_41
set_option maxHeartbeats 4000000 in
set_option maxRecDepth 100000 in
theorem tX9_sheet {ad : Nat → Nat} {ca : Nat → ClassId} {D : va_G} {FU d : Nat} {r : Int32} {N : Mem}  {x0 : Nat} {x1 : Int32} {x2 : Int32} {x3 : Int32} {M : Mem}  (h : fX9_sheet FU  x0 x1 x2 x3 M = some (r, N)) : Ct ad ca D yX9_sheet cX9_sheet 5 (some .int) (d + 2) [vR (some x0), vI x1, vI x2, vI x3] M (QI r N) := by
  refine Ct_of (by decide) (Nat.le_of_ble_eq_true rfl) ?_
  show J ad ca D cX9_sheet RX9 5 (d + 2) (Gt ad ca D (some .int) (QI r N)) 0 [(0, vR (some x0)), (1, vI x1), (2, vI x2), (3, vI x3)] [] M
  unfold fX9_sheet at h
  refine J_aload_n (pc := 0) (q := 0) rfl rfl dX9_sheet_0 ?_
  refine J_iload_n (pc := 1) (q := 1) rfl rfl dX9_sheet_1 ?_
  obtain ⟨b2, hb2, g_7⟩ := bnd h
  obtain ⟨r2, M2, h2, g_8⟩ := bnd2 g_7
  refine J_callVI (pc := 2) (as := [vI x1]) (tX9_isSheet (d := d)  h2) cf_X9_isSheet cv_X9_isSheet clF9 hb2 ml_RX9_413 (by omega) (Nat.le_of_ble_eq_true rfl) dX9_sheet_2 ?_
  refine J_ifeq (pc := 5) (tgt := 28) (by decide) dX9_sheet_5 (fun hc5 => ?_) (fun hc5 => ?_)
  · rw [if_pos hc5] at g_8
    refine J_bipush (pc := 28) (v := (-2 : Int32)) (by decide) dX9_sheet_28 ?_
    exact J_iret (pc := 30) (qi_of g_8) dX9_sheet_30
  · rw [if_neg hc5] at g_8
    refine J_aload_n (pc := 8) (q := 0) rfl rfl dX9_sheet_8 ?_
    refine J_iload_n (pc := 9) (q := 2) rfl rfl dX9_sheet_9 ?_
    refine J_iconst (pc := 10) (v := (-1 : Int32)) (by decide) dX9_sheet_10 ?_
    refine J_iconst (pc := 11) (v := (2 : Int32)) (by decide) dX9_sheet_11 ?_
    obtain ⟨b12, hb12, g_9⟩ := bnd g_8
    obtain ⟨r12, M12, h12, g_10⟩ := bnd2 g_9
    refine J_callVI (pc := 12) (as := [vI x2, vI (-1 : Int32), vI (2 : Int32)]) (tX9_in (d := d)  h12) cf_X9_in cv_X9_in clF9 hb12 ml_RX9_155 (by omega) (Nat.le_of_ble_eq_true rfl) dX9_sheet_12 ?_
    refine J_ifeq (pc := 15) (tgt := 28) (by decide) dX9_sheet_15 (fun hc15 => ?_) (fun hc15 => ?_)
    · rw [if_pos hc15] at g_10
      refine J_bipush (pc := 28) (v := (-2 : Int32)) (by decide) dX9_sheet_28 ?_
      exact J_iret (pc := 30) (qi_of g_10) dX9_sheet_30
    · rw [if_neg hc15] at g_10
      refine J_iload_n (pc := 18) (q := 2) rfl rfl dX9_sheet_18 ?_
      refine J_iflt (pc := 19) (tgt := 31) (by decide) dX9_sheet_19 (fun hc19 => ?_) (fun hc19 => ?_)
      · rw [if_pos hc19] at g_10
        exact jX9_sheet_b31  g_10
      · rw [if_neg hc19] at g_10
        refine J_iload_n (pc := 22) (q := 3) rfl rfl dX9_sheet_22 ?_
        refine J_bipush (pc := 23) (v := (40 : Int32)) (by decide) dX9_sheet_23 ?_
        refine J_icle (pc := 25) (tgt := 31) (by decide) dX9_sheet_25 (fun hc25 => ?_) (fun hc25 => ?_)
        · rw [if_pos hc25] at g_10
          exact jX9_sheet_b31  g_10
        · rw [if_neg hc25] at g_10
          refine J_bipush (pc := 28) (v := (-2 : Int32)) (by decide) dX9_sheet_28 ?_
          exact J_iret (pc := 30) (qi_of g_10) dX9_sheet_30
set_option maxHeartbeats 4000000 in
set_option maxRecDepth 100000 in
theorem tX9_cell {ad : Nat → Nat} {ca : Nat → ClassId} {D : va_G} {FU d : Nat} {r : Int32} {N : Mem}  {x0 : Nat} {x1 : Int32} {x2 : Int32} {x3 : Int32} {M : Mem}  (h : fX9_cell FU  x0 x1 x2 x3 M = some (r, N)) : Ct ad ca D yX9_cell cX9_cell 4 (some .int) (d + 2) [vR (some x0), vI x1, vI x2, vI x3] M (QI r N) := by
  refine Ct_of (by decide) (Nat.le_of_ble_eq_true rfl) ?_
  show J ad ca D cX9_cell RX9 4 (d + 2) (Gt ad ca D (some .int) (QI r N)) 0 [(0, vR (some x0)), (1, vI x1), (2, vI x2), (3, vI x3)] [] M
  unfold fX9_cell at h
  refine J_aload_n (pc := 0) (q := 0) rfl rfl dX9_cell_0 ?_
  refine J_iload_n (pc := 1) (q := 1) rfl rfl dX9_cell_1 ?_
  obtain ⟨b2, hb2, g_1⟩ := bnd h
  obtain ⟨r2, M2, h2, g_2⟩ := bnd2 g_1
  refine J_callVI (pc := 2) (as := [vI x1]) (tX9_isSheet (d := d)  h2) cf_X9_isSheet cv_X9_isSheet clF9 hb2 ml_RX9_413 (by omega) (Nat.le_of_ble_eq_true rfl) dX9_cell_2 ?_
  refine J_ifne (pc := 5) (tgt := 11) (by decide) dX9_cell_5 (fun hc5 => ?_) (fun hc5 => ?_)
  · rw [if_pos hc5] at g_2
    refine J_aload_n (pc := 11) (q := 0) rfl rfl dX9_cell_11 ?_
    obtain ⟨a12, h12, g_3⟩ := bnd g_2
    refine J_getR (pc := 12) (i := 43) clF9 (by decide) rfl fl_RX9_140 h12 dX9_cell_12 ?_
    refine J_iload_n (pc := 15) (q := 1) rfl rfl dX9_cell_15 ?_
    obtain ⟨a16, h16, g_4⟩ := bnd g_3
    refine J_ald0 (pc := 16) h16 dX9_cell_16 ?_
    refine J_ifge (pc := 17) (tgt := 23) (by decide) dX9_cell_17 (fun hc17 => ?_) (fun hc17 => ?_)
    · rw [if_pos hc17] at g_4
      refine J_aload_n (pc := 23) (q := 0) rfl rfl dX9_cell_23 ?_
      refine J_iload_n (pc := 24) (q := 2) rfl rfl dX9_cell_24 ?_
      refine J_iconst (pc := 25) (v := (0 : Int32)) (by decide) dX9_cell_25 ?_
      refine J_aload_n (pc := 26) (q := 0) rfl rfl dX9_cell_26 ?_
      obtain ⟨a27, h27, g_5⟩ := bnd g_4
      refine J_getR (pc := 27) (i := 44) clF9 (by decide) rfl fl_RX9_143 h27 dX9_cell_27 ?_
      refine J_iload_n (pc := 30) (q := 1) rfl rfl dX9_cell_30 ?_
      obtain ⟨a31, h31, g_6⟩ := bnd g_5
      refine J_ald0 (pc := 31) h31 dX9_cell_31 ?_
      refine J_iconst (pc := 32) (v := (1 : Int32)) (by decide) dX9_cell_32 ?_
      refine J_isub (pc := 33) dX9_cell_33 ?_
      obtain ⟨b34, hb34, g_7⟩ := bnd g_6
      obtain ⟨r34, M34, h34, g_8⟩ := bnd2 g_7
      refine J_callVI (pc := 34) (as := [vI x2, vI (0 : Int32), vI (a31 - (1 : Int32))]) (tX9_in (d := d)  h34) cf_X9_in cv_X9_in clF9 hb34 ml_RX9_155 (by omega) (Nat.le_of_ble_eq_true rfl) dX9_cell_34 ?_
      refine J_ifne (pc := 37) (tgt := 43) (by decide) dX9_cell_37 (fun hc37 => ?_) (fun hc37 => ?_)
      · rw [if_pos hc37] at g_8
        refine J_aload_n (pc := 43) (q := 0) rfl rfl dX9_cell_43 ?_
        obtain ⟨a44, h44, g_9⟩ := bnd g_8
        refine J_getR (pc := 44) (i := 45) clF9 (by decide) rfl fl_RX9_146 h44 dX9_cell_44 ?_
        refine J_bipush (pc := 47) (v := (40 : Int32)) (by decide) dX9_cell_47 ?_
        refine J_iload_n (pc := 49) (q := 1) rfl rfl dX9_cell_49 ?_
        refine J_imul (pc := 50) dX9_cell_50 ?_
        refine J_iload_n (pc := 51) (q := 2) rfl rfl dX9_cell_51 ?_
        refine J_iadd (pc := 52) dX9_cell_52 ?_
        refine J_aload_n (pc := 53) (q := 0) rfl rfl dX9_cell_53 ?_
        obtain ⟨a54, h54, g_10⟩ := bnd g_9
        refine J_getR (pc := 54) (i := 43) clF9 (by decide) rfl fl_RX9_140 h54 dX9_cell_54 ?_
        refine J_iload_n (pc := 57) (q := 1) rfl rfl dX9_cell_57 ?_
        obtain ⟨a58, h58, g_11⟩ := bnd g_10
        refine J_ald0 (pc := 58) h58 dX9_cell_58 ?_
        refine J_ifne (pc := 59) (tgt := 67) (by decide) dX9_cell_59 (fun hc59 => ?_) (fun hc59 => ?_)
        · rw [if_pos hc59] at g_11
          refine J_aload_n (pc := 67) (q := 0) rfl rfl dX9_cell_67 ?_
          obtain ⟨a68, h68, g_12⟩ := bnd g_11
          refine J_getR (pc := 68) (i := 43) clF9 (by decide) rfl fl_RX9_140 h68 dX9_cell_68 ?_
          refine J_iload_n (pc := 71) (q := 1) rfl rfl dX9_cell_71 ?_
          obtain ⟨a72, h72, g_13⟩ := bnd g_12
          refine J_ald0 (pc := 72) h72 dX9_cell_72 ?_
          refine J_iconst (pc := 73) (v := (1 : Int32)) (by decide) dX9_cell_73 ?_
          refine J_icne (pc := 74) (tgt := 82) (by decide) dX9_cell_74 (fun hc74 => ?_) (fun hc74 => ?_)
          · rw [if_pos hc74] at g_13
            refine J_iload_n (pc := 82) (q := 3) rfl rfl dX9_cell_82 ?_
            obtain ⟨M83, h83, g_14⟩ := bnd g_13
            refine J_ast0 (pc := 83) h83 dX9_cell_83 ?_
            refine J_iconst (pc := 84) (v := (1 : Int32)) (by decide) dX9_cell_84 ?_
            exact J_iret (pc := 85) (qi_of g_14) dX9_cell_85
          · rw [if_neg hc74] at g_13
            refine J_iload_n (pc := 77) (q := 3) rfl rfl dX9_cell_77 ?_
            refine J_i2s (pc := 78) dX9_cell_78 ?_
            refine J_goto (pc := 79) (tgt := 83) (by decide) dX9_cell_79 ?_
            obtain ⟨M83, h83, g_15⟩ := bnd g_13
            refine J_ast0 (pc := 83) h83 dX9_cell_83 ?_
            refine J_iconst (pc := 84) (v := (1 : Int32)) (by decide) dX9_cell_84 ?_
            exact J_iret (pc := 85) (qi_of g_15) dX9_cell_85
        · rw [if_neg hc59] at g_11
          refine J_iload_n (pc := 62) (q := 3) rfl rfl dX9_cell_62 ?_
          refine J_i2b (pc := 63) dX9_cell_63 ?_
          refine J_goto (pc := 64) (tgt := 83) (by decide) dX9_cell_64 ?_
          obtain ⟨M83, h83, g_16⟩ := bnd g_11
          refine J_ast0 (pc := 83) h83 dX9_cell_83 ?_
          refine J_iconst (pc := 84) (v := (1 : Int32)) (by decide) dX9_cell_84 ?_
          exact J_iret (pc := 85) (qi_of g_16) dX9_cell_85
      · rw [if_neg hc37] at g_8
        refine J_bipush (pc := 40) (v := (-12 : Int32)) (by decide) dX9_cell_40 ?_
        exact J_iret (pc := 42) (qi_of g_8) dX9_cell_42
    · rw [if_neg hc17] at g_4
      refine J_bipush (pc := 20) (v := (-11 : Int32)) (by decide) dX9_cell_20 ?_
      exact J_iret (pc := 22) (qi_of g_4) dX9_cell_22
  · rw [if_neg hc5] at g_2
    refine J_bipush (pc := 8) (v := (-2 : Int32)) (by decide) dX9_cell_8 ?_
    exact J_iret (pc := 10) (qi_of g_2) dX9_cell_10
set_option maxHeartbeats 4000000 in
set_option maxRecDepth 100000 in
theorem jX9_ways_b156 {ad : Nat → Nat} {ca : Nat → ClassId} {D : va_G} {FU d : Nat} {r : Int32} {N : Mem}  {k73 : Int32 → Int32 → Mem → Option (Int32 × Mem)} {x0 : Nat} {x1 : Int32} {x3 : Int32} {x4 : Int32} {x6 : Int32} {s0 : Int32} {s1 : Int32} {M : Mem}  (hk73 : ∀ (y5 : Int32) (y6 : Int32) (M : Mem), k73 y5 y6 M = some (r, N) → J ad ca D cX9_ways RX9 8 (d + 3) (Gt ad ca D (some .int) (QI r N)) 73 [(0, vR (some x0)), (1, vI x1), (3, vI x3), (4, vI x4), (5, vI y5), (6, vI y6)] [] M) (h : fX9_ways_b156 FU  k73 x0 x1 x3 x4 x6 s0 s1 M = some (r, N)) : J ad ca D cX9_ways RX9 8 (d + 3) (Gt ad ca D (some .int) (QI r N)) 156 [(0, vR (some x0)), (1, vI x1), (3, vI x3), (4, vI x4), (6, vI x6)] [vI s1, vI s0] M := by
  unfold fX9_ways_b156 at h
  refine J_iadd (pc := 156) dX9_ways_156 ?_
  refine J_istore (pc := 157) (by decide) (lv' := [(0, vR (some x0)), (1, vI x1), (3, vI x3), (4, vI x4), (6, vI x6), (5, vI (s0 + s1))]) rfl dX9_ways_157 ?_
  refine J_iinc (pc := 159) (q := 4) rfl (v := x6 + (1 : Int32)) rfl (by decide) (lv' := [(0, vR (some x0)), (1, vI x1), (3, vI x3), (4, vI x4), (5, vI (s0 + s1)), (6, vI (x6 + (1 : Int32)))]) rfl dX9_ways_159 ?_
  refine J_goto (pc := 162) (tgt := 73) (by decide) dX9_ways_162 ?_
  exact hk73 _ _ _ h
set_option maxHeartbeats 4000000 in
set_option maxRecDepth 100000 in
theorem jX9_ways_L73 {ad : Nat → Nat} {ca : Nat → ClassId} {D : va_G} {FU d : Nat} {r : Int32} {N : Mem}   {x0 : Nat} {x1 : Int32} {x3 : Int32} {x4 : Int32}   : ∀ (F : Nat) (x5 : Int32) (x6 : Int32) (M : Mem), fX9_ways_L73 FU  x0 x1 x3 x4 F x5 x6 M = some (r, N) → J ad ca D cX9_ways RX9 8 (d + 3) (Gt ad ca D (some .int) (QI r N)) 73 [(0, vR (some x0)), (1, vI x1), (3, vI x3), (4, vI x4), (5, vI x5), (6, vI x6)] [] M := by
  intro F
  induction F with
  | zero =>
    intro x5 x6 M h
    rw [fX9_ways_L73] at h
    cases h
  | succ F hk73 =>
    intro x5 x6 M h
    rw [fX9_ways_L73] at h
    refine J_iload (pc := 73) (q := 5) rfl dX9_ways_73 ?_
    refine J_iload (pc := 75) (q := 3) rfl dX9_ways_75 ?_
    refine J_icge (pc := 77) (tgt := 165) (by decide) dX9_ways_77 (fun hc77 => ?_) (fun hc77 => ?_)
    · rw [if_pos hc77] at h
      refine J_iload (pc := 165) (q := 4) rfl dX9_ways_165 ?_
      exact J_iret (pc := 167) (qi_of h) dX9_ways_167
    · rw [if_neg hc77] at h
      refine J_iload_n (pc := 80) (q := 2) rfl rfl dX9_ways_80 ?_
      refine J_iflt (pc := 81) (tgt := 101) (by decide) dX9_ways_81 (fun hc81 => ?_) (fun hc81 => ?_)
      · rw [if_pos hc81] at h
        refine J_bipush (pc := 101) (v := (-12 : Int32)) (by decide) dX9_ways_101 ?_
        exact J_iret (pc := 103) (qi_of h) dX9_ways_103
      · rw [if_neg hc81] at h
        refine J_iload_n (pc := 84) (q := 2) rfl rfl dX9_ways_84 ?_
        refine J_aload_n (pc := 85) (q := 0) rfl rfl dX9_ways_85 ?_
        obtain ⟨a86, h86, g_1⟩ := bnd h
        refine J_getR (pc := 86) (i := 44) clF9 (by decide) rfl fl_RX9_143 h86 dX9_ways_86 ?_
        refine J_iload_n (pc := 89) (q := 1) rfl rfl dX9_ways_89 ?_
        obtain ⟨a90, h90, g_2⟩ := bnd g_1
        refine J_ald0 (pc := 90) h90 dX9_ways_90 ?_
        refine J_iconst (pc := 91) (v := (3 : Int32)) (by decide) dX9_ways_91 ?_
        refine J_iload (pc := 92) (q := 5) rfl dX9_ways_92 ?_
        refine J_imul (pc := 94) dX9_ways_94 ?_
        refine J_isub (pc := 95) dX9_ways_95 ?_
        refine J_iconst (pc := 96) (v := (3 : Int32)) (by decide) dX9_ways_96 ?_
        refine J_isub (pc := 97) dX9_ways_97 ?_
        refine J_icle (pc := 98) (tgt := 104) (by decide) dX9_ways_98 (fun hc98 => ?_) (fun hc98 => ?_)
        · rw [if_pos hc98] at g_2
          refine J_bipush (pc := 104) (v := (40 : Int32)) (by decide) dX9_ways_104 ?_
          refine J_iload_n (pc := 106) (q := 1) rfl rfl dX9_ways_106 ?_
          refine J_imul (pc := 107) dX9_ways_107 ?_
          refine J_iload_n (pc := 108) (q := 2) rfl rfl dX9_ways_108 ?_
          refine J_iadd (pc := 109) dX9_ways_109 ?_
          refine J_iconst (pc := 110) (v := (3 : Int32)) (by decide) dX9_ways_110 ?_
          refine J_iload (pc := 111) (q := 5) rfl dX9_ways_111 ?_
          refine J_imul (pc := 113) dX9_ways_113 ?_
          refine J_iadd (pc := 114) dX9_ways_114 ?_
          refine J_istore (pc := 115) (by decide) (lv' := [(0, vR (some x0)), (1, vI x1), (3, vI x3), (4, vI x4), (5, vI x5), (6, vI x6), (7, vI ((((40 : Int32) * x1) + x3) + ((3 : Int32) * x6)))]) rfl dX9_ways_115 ?_
          refine J_iload (pc := 117) (q := 4) rfl dX9_ways_117 ?_
          refine J_aload_n (pc := 119) (q := 0) rfl rfl dX9_ways_119 ?_
          refine J_aload_n (pc := 120) (q := 0) rfl rfl dX9_ways_120 ?_
          obtain ⟨a121, h121, g_3⟩ := bnd g_2
          refine J_getR (pc := 121) (i := 45) clF9 (by decide) rfl fl_RX9_146 h121 dX9_ways_121 ?_
          refine J_iload (pc := 124) (q := 6) rfl dX9_ways_124 ?_
          obtain ⟨a126, h126, g_4⟩ := bnd g_3
          refine J_ald0 (pc := 126) h126 dX9_ways_126 ?_
          refine J_aload_n (pc := 127) (q := 0) rfl rfl dX9_ways_127 ?_
          obtain ⟨a128, h128, g_5⟩ := bnd g_4
          refine J_getR (pc := 128) (i := 45) clF9 (by decide) rfl fl_RX9_146 h128 dX9_ways_128 ?_
          refine J_iload (pc := 131) (q := 6) rfl dX9_ways_131 ?_
          refine J_iconst (pc := 133) (v := (1 : Int32)) (by decide) dX9_ways_133 ?_
          refine J_iadd (pc := 134) dX9_ways_134 ?_
          obtain ⟨a135, h135, g_6⟩ := bnd g_5
          refine J_ald0 (pc := 135) h135 dX9_ways_135 ?_
          refine J_aload_n (pc := 136) (q := 0) rfl rfl dX9_ways_136 ?_
          obtain ⟨a137, h137, g_7⟩ := bnd g_6
          refine J_getR (pc := 137) (i := 45) clF9 (by decide) rfl fl_RX9_146 h137 dX9_ways_137 ?_
          refine J_iload (pc := 140) (q := 6) rfl dX9_ways_140 ?_
          refine J_iconst (pc := 142) (v := (2 : Int32)) (by decide) dX9_ways_142 ?_
          refine J_iadd (pc := 143) dX9_ways_143 ?_
          obtain ⟨a144, h144, g_8⟩ := bnd g_7
          refine J_ald0 (pc := 144) h144 dX9_ways_144 ?_
          obtain ⟨b145, hb145, g_9⟩ := bnd g_8
          obtain ⟨r145, M145, h145, g_10⟩ := bnd2 g_9
          refine J_callVI (pc := 145) (as := [vI a126, vI a135, vI a144]) (tX9_way (d := d)  h145) cf_X9_way cv_X9_way clF9 hb145 ml_RX9_416 (by omega) (Nat.le_of_ble_eq_true rfl) dX9_ways_145 ?_
          refine J_iflt (pc := 148) (tgt := 155) (by decide) dX9_ways_148 (fun hc148 => ?_) (fun hc148 => ?_)
          · rw [if_pos hc148] at g_10
            refine J_iconst (pc := 155) (v := (0 : Int32)) (by decide) dX9_ways_155 ?_
            refine J_sub [0, 1, 2, 3, 5] (lv' := [(0, vR (some x0)), (1, vI x1), (3, vI x3), (4, vI x4), (6, vI x6)]) rfl ?_
            exact jX9_ways_b156 hk73 g_10
          · rw [if_neg hc148] at g_10
            refine J_iconst (pc := 151) (v := (1 : Int32)) (by decide) dX9_ways_151 ?_
            refine J_goto (pc := 152) (tgt := 156) (by decide) dX9_ways_152 ?_
            refine J_sub [0, 1, 2, 3, 5] (lv' := [(0, vR (some x0)), (1, vI x1), (3, vI x3), (4, vI x4), (6, vI x6)]) rfl ?_
            exact jX9_ways_b156 hk73 g_10
        · rw [if_neg hc98] at g_2
          refine J_bipush (pc := 101) (v := (-12 : Int32)) (by decide) dX9_ways_101 ?_
          exact J_iret (pc := 103) (qi_of g_2) dX9_ways_103
set_option maxHeartbeats 4000000 in
set_option maxRecDepth 100000 in
theorem jX9_ways_b55 {ad : Nat → Nat} {ca : Nat → ClassId} {D : va_G} {FU d : Nat} {r : Int32} {N : Mem}   {x0 : Nat} {x1 : Int32} {x3 : Int32} {x4 : Int32} {M : Mem}   (h : fX9_ways_b55 FU  x0 x1 x3 x4 M = some (r, N)) : J ad ca D cX9_ways RX9 8 (d + 3) (Gt ad ca D (some .int) (QI r N)) 55 [(0, vR (some x0)), (1, vI x1), (3, vI x3), (4, vI x4)] [] M := by
  unfold fX9_ways_b55 at h
  refine J_aload_n (pc := 55) (q := 0) rfl rfl dX9_ways_55 ?_
  obtain ⟨a56, h56, g_11⟩ := bnd h
  refine J_getR (pc := 56) (i := 43) clF9 (by decide) rfl fl_RX9_140 h56 dX9_ways_56 ?_
  refine J_iload_n (pc := 59) (q := 1) rfl rfl dX9_ways_59 ?_
  obtain ⟨a60, h60, g_12⟩ := bnd g_11
  refine J_ald0 (pc := 60) h60 dX9_ways_60 ?_
  refine J_ifge (pc := 61) (tgt := 67) (by decide) dX9_ways_61 (fun hc61 => ?_) (fun hc61 => ?_)
  · rw [if_pos hc61] at g_12
    refine J_iconst (pc := 67) (v := (0 : Int32)) (by decide) dX9_ways_67 ?_
    refine J_istore (pc := 68) (by decide) (lv' := [(0, vR (some x0)), (1, vI x1), (3, vI x3), (4, vI x4), (5, vI (0 : Int32))]) rfl dX9_ways_68 ?_
    refine J_iconst (pc := 70) (v := (0 : Int32)) (by decide) dX9_ways_70 ?_
    refine J_istore (pc := 71) (by decide) (lv' := [(0, vR (some x0)), (1, vI x1), (3, vI x3), (4, vI x4), (5, vI (0 : Int32)), (6, vI (0 : Int32))]) rfl dX9_ways_71 ?_
    exact jX9_ways_L73  FU _ _ _ g_12
  · rw [if_neg hc61] at g_12
    refine J_bipush (pc := 64) (v := (-11 : Int32)) (by decide) dX9_ways_64 ?_
    exact J_iret (pc := 66) (qi_of g_12) dX9_ways_66
set_option maxHeartbeats 4000000 in
set_option maxRecDepth 100000 in
theorem tX9_ways {ad : Nat → Nat} {ca : Nat → ClassId} {D : va_G} {FU d : Nat} {r : Int32} {N : Mem}  {x0 : Nat} {x1 : Int32} {x2 : Int32} {x3 : Int32} {x4 : Int32} {M : Mem}  (h : fX9_ways FU  x0 x1 x2 x3 x4 M = some (r, N)) : Ct ad ca D yX9_ways cX9_ways 8 (some .int) (d + 3) [vR (some x0), vI x1, vI x2, vI x3, vI x4] M (QI r N) := by
  refine Ct_of (by decide) (Nat.le_of_ble_eq_true rfl) ?_
  show J ad ca D cX9_ways RX9 8 (d + 3) (Gt ad ca D (some .int) (QI r N)) 0 [(0, vR (some x0)), (1, vI x1), (2, vI x2), (3, vI x3), (4, vI x4)] [] M
  unfold fX9_ways at h
  refine J_aload_n (pc := 0) (q := 0) rfl rfl dX9_ways_0 ?_
  refine J_iload_n (pc := 1) (q := 1) rfl rfl dX9_ways_1 ?_
  obtain ⟨b2, hb2, g_13⟩ := bnd h
  obtain ⟨r2, M2, h2, g_14⟩ := bnd2 g_13
  refine J_callVI (pc := 2) (as := [vI x1]) (tX9_isSheet (d := d)  h2) cf_X9_isSheet cv_X9_isSheet clF9 hb2 ml_RX9_413 (by omega) (Nat.le_of_ble_eq_true rfl) dX9_ways_2 ?_
  refine J_ifeq (pc := 5) (tgt := 30) (by decide) dX9_ways_5 (fun hc5 => ?_) (fun hc5 => ?_)
  · rw [if_pos hc5] at g_14
    refine J_bipush (pc := 30) (v := (-2 : Int32)) (by decide) dX9_ways_30 ?_
    exact J_iret (pc := 32) (qi_of g_14) dX9_ways_32
  · rw [if_neg hc5] at g_14
    refine J_aload_n (pc := 8) (q := 0) rfl rfl dX9_ways_8 ?_
    refine J_iload_n (pc := 9) (q := 2) rfl rfl dX9_ways_9 ?_
    refine J_iconst (pc := 10) (v := (0 : Int32)) (by decide) dX9_ways_10 ?_
    refine J_iconst (pc := 11) (v := (2 : Int32)) (by decide) dX9_ways_11 ?_
    obtain ⟨b12, hb12, g_15⟩ := bnd g_14
    obtain ⟨r12, M12, h12, g_16⟩ := bnd2 g_15
    refine J_callVI (pc := 12) (as := [vI x2, vI (0 : Int32), vI (2 : Int32)]) (tX9_in (d := d)  h12) cf_X9_in cv_X9_in clF9 hb12 ml_RX9_155 (by omega) (Nat.le_of_ble_eq_true rfl) dX9_ways_12 ?_
    refine J_ifeq (pc := 15) (tgt := 30) (by decide) dX9_ways_15 (fun hc15 => ?_) (fun hc15 => ?_)
    · rw [if_pos hc15] at g_16
      refine J_bipush (pc := 30) (v := (-2 : Int32)) (by decide) dX9_ways_30 ?_
      exact J_iret (pc := 32) (qi_of g_16) dX9_ways_32
    · rw [if_neg hc15] at g_16
      refine J_aload_n (pc := 18) (q := 0) rfl rfl dX9_ways_18 ?_
      refine J_iload (pc := 19) (q := 4) rfl dX9_ways_19 ?_
      refine J_iconst (pc := 21) (v := (0 : Int32)) (by decide) dX9_ways_21 ?_
      refine J_bipush (pc := 22) (v := (13 : Int32)) (by decide) dX9_ways_22 ?_
      obtain ⟨b24, hb24, g_17⟩ := bnd g_16
      obtain ⟨r24, M24, h24, g_18⟩ := bnd2 g_17
      refine J_callVI (pc := 24) (as := [vI x4, vI (0 : Int32), vI (13 : Int32)]) (tX9_in (d := d)  h24) cf_X9_in cv_X9_in clF9 hb24 ml_RX9_155 (by omega) (Nat.le_of_ble_eq_true rfl) dX9_ways_24 ?_
      refine J_ifne (pc := 27) (tgt := 33) (by decide) dX9_ways_27 (fun hc27 => ?_) (fun hc27 => ?_)
      · rw [if_pos hc27] at g_18
        refine J_aload_n (pc := 33) (q := 0) rfl rfl dX9_ways_33 ?_
        obtain ⟨a34, h34, g_19⟩ := bnd g_18
        refine J_getR (pc := 34) (i := 43) clF9 (by decide) rfl fl_RX9_140 h34 dX9_ways_34 ?_
        refine J_iload_n (pc := 37) (q := 1) rfl rfl dX9_ways_37 ?_
        obtain ⟨a38, h38, g_20⟩ := bnd g_19
        refine J_ald0 (pc := 38) h38 dX9_ways_38 ?_
        refine J_iflt (pc := 39) (tgt := 55) (by decide) dX9_ways_39 (fun hc39 => ?_) (fun hc39 => ?_)
        · rw [if_pos hc39] at g_20
          refine J_sub [0, 1, 3, 4] (lv' := [(0, vR (some x0)), (1, vI x1), (3, vI x3), (4, vI x4)]) rfl ?_
          exact jX9_ways_b55  g_20
        · rw [if_neg hc39] at g_20
          refine J_aload_n (pc := 42) (q := 0) rfl rfl dX9_ways_42 ?_
          obtain ⟨a43, h43, g_21⟩ := bnd g_20
          refine J_getR (pc := 43) (i := 43) clF9 (by decide) rfl fl_RX9_140 h43 dX9_ways_43 ?_
          refine J_iload_n (pc := 46) (q := 1) rfl rfl dX9_ways_46 ?_
          obtain ⟨a47, h47, g_22⟩ := bnd g_21
          refine J_ald0 (pc := 47) h47 dX9_ways_47 ?_
          refine J_iload_n (pc := 48) (q := 2) rfl rfl dX9_ways_48 ?_
          refine J_iceq (pc := 49) (tgt := 55) (by decide) dX9_ways_49 (fun hc49 => ?_) (fun hc49 => ?_)
          · rw [if_pos hc49] at g_22
            refine J_sub [0, 1, 3, 4] (lv' := [(0, vR (some x0)), (1, vI x1), (3, vI x3), (4, vI x4)]) rfl ?_
            exact jX9_ways_b55  g_22
          · rw [if_neg hc49] at g_22
            refine J_bipush (pc := 52) (v := (-13 : Int32)) (by decide) dX9_ways_52 ?_
            exact J_iret (pc := 54) (qi_of g_22) dX9_ways_54
      · rw [if_neg hc27] at g_18
        refine J_bipush (pc := 30) (v := (-2 : Int32)) (by decide) dX9_ways_30 ?_
        exact J_iret (pc := 32) (qi_of g_18) dX9_ways_32
set_option maxHeartbeats 4000000 in
set_option maxRecDepth 100000 in
theorem jX9_isUnder_b32 {ad : Nat → Nat} {ca : Nat → ClassId} {D : va_G} {FU d : Nat} {r : Int32} {N : Mem}    {M : Mem}   (h : fX9_isUnder_b32 FU  M = some (r, N)) : J ad ca D cX9_isUnder RX9 3 (d + 1) (Gt ad ca D (some .boolean) (QI r N)) 32 [] [] M := by
  unfold fX9_isUnder_b32 at h
  refine J_iconst (pc := 32) (v := (1 : Int32)) (by decide) dX9_isUnder_32 ?_
  refine J_goto (pc := 33) (tgt := 37) (by decide) dX9_isUnder_33 ?_
  exact J_zret (pc := 37) (Or.inr rfl) (qi_of h) dX9_isUnder_37
set_option maxHeartbeats 4000000 in
set_option maxRecDepth 100000 in
theorem jX9_isUnder_b19 {ad : Nat → Nat} {ca : Nat → ClassId} {D : va_G} {FU d : Nat} {r : Int32} {N : Mem}   {x0 : Nat} {x1 : Int32} {x2 : Int32} {M : Mem}   (h : fX9_isUnder_b19 FU  x0 x1 x2 M = some (r, N)) : J ad ca D cX9_isUnder RX9 3 (d + 1) (Gt ad ca D (some .boolean) (QI r N)) 19 [(0, vR (some x0)), (1, vI x1), (2, vI x2)] [] M := by
  unfold fX9_isUnder_b19 at h
  refine J_iload_n (pc := 19) (q := 2) rfl rfl dX9_isUnder_19 ?_
  refine J_iconst (pc := 20) (v := (2 : Int32)) (by decide) dX9_isUnder_20 ?_
  refine J_icne (pc := 21) (tgt := 36) (by decide) dX9_isUnder_21 (fun hc21 => ?_) (fun hc21 => ?_)
  · rw [if_pos hc21] at h
    refine J_iconst (pc := 36) (v := (0 : Int32)) (by decide) dX9_isUnder_36 ?_
    exact J_zret (pc := 37) (Or.inl rfl) (qi_of h) dX9_isUnder_37
  · rw [if_neg hc21] at h
    refine J_aload_n (pc := 24) (q := 0) rfl rfl dX9_isUnder_24 ?_
    refine J_iload_n (pc := 25) (q := 1) rfl rfl dX9_isUnder_25 ?_
    obtain ⟨b26, hb26, g_1⟩ := bnd h
    obtain ⟨r26, M26, h26, g_2⟩ := bnd2 g_1
    refine J_callVI (pc := 26) (as := [vI x1]) (tX9_isShutter (d := d)  h26) cf_X9_isShutter cv_X9_isShutter clF9 hb26 ml_RX9_159 (by omega) (Nat.le_of_ble_eq_true rfl) dX9_isUnder_26 ?_
    refine J_ifeq (pc := 29) (tgt := 36) (by decide) dX9_isUnder_29 (fun hc29 => ?_) (fun hc29 => ?_)
    · rw [if_pos hc29] at g_2
      refine J_iconst (pc := 36) (v := (0 : Int32)) (by decide) dX9_isUnder_36 ?_
      exact J_zret (pc := 37) (Or.inl rfl) (qi_of g_2) dX9_isUnder_37
    · rw [if_neg hc29] at g_2
      refine J_sub [] (lv' := []) rfl ?_
      exact jX9_isUnder_b32  g_2
set_option maxHeartbeats 4000000 in
set_option maxRecDepth 100000 in
theorem tX9_isUnder {ad : Nat → Nat} {ca : Nat → ClassId} {D : va_G} {FU d : Nat} {r : Int32} {N : Mem}  {x0 : Nat} {x1 : Int32} {x2 : Int32} {M : Mem}  (h : fX9_isUnder FU  x0 x1 x2 M = some (r, N)) : Ct ad ca D yX9_isUnder cX9_isUnder 3 (some .boolean) (d + 1) [vR (some x0), vI x1, vI x2] M (QI r N) := by
  refine Ct_of (by decide) (Nat.le_of_ble_eq_true rfl) ?_
  show J ad ca D cX9_isUnder RX9 3 (d + 1) (Gt ad ca D (some .boolean) (QI r N)) 0 [(0, vR (some x0)), (1, vI x1), (2, vI x2)] [] M
  unfold fX9_isUnder at h
  refine J_iload_n (pc := 0) (q := 2) rfl rfl dX9_isUnder_0 ?_
  refine J_ifeq (pc := 1) (tgt := 32) (by decide) dX9_isUnder_1 (fun hc1 => ?_) (fun hc1 => ?_)
  · rw [if_pos hc1] at h
    refine J_sub [] (lv' := []) rfl ?_
    exact jX9_isUnder_b32  h
  · rw [if_neg hc1] at h
    refine J_iload_n (pc := 4) (q := 1) rfl rfl dX9_isUnder_4 ?_
    refine J_iload_n (pc := 5) (q := 2) rfl rfl dX9_isUnder_5 ?_
    refine J_iceq (pc := 6) (tgt := 32) (by decide) dX9_isUnder_6 (fun hc6 => ?_) (fun hc6 => ?_)
    · rw [if_pos hc6] at h
      refine J_sub [] (lv' := []) rfl ?_
      exact jX9_isUnder_b32  h
    · rw [if_neg hc6] at h
      refine J_iload_n (pc := 9) (q := 2) rfl rfl dX9_isUnder_9 ?_
      refine J_iconst (pc := 10) (v := (1 : Int32)) (by decide) dX9_isUnder_10 ?_
      refine J_icne (pc := 11) (tgt := 19) (by decide) dX9_isUnder_11 (fun hc11 => ?_) (fun hc11 => ?_)
      · rw [if_pos hc11] at h
        exact jX9_isUnder_b19  h
      · rw [if_neg hc11] at h
        refine J_iload_n (pc := 14) (q := 1) rfl rfl dX9_isUnder_14 ?_
        refine J_iconst (pc := 15) (v := (4 : Int32)) (by decide) dX9_isUnder_15 ?_
        refine J_iceq (pc := 16) (tgt := 32) (by decide) dX9_isUnder_16 (fun hc16 => ?_) (fun hc16 => ?_)
        · rw [if_pos hc16] at h
          refine J_sub [] (lv' := []) rfl ?_
          exact jX9_isUnder_b32  h
        · rw [if_neg hc16] at h
          exact jX9_isUnder_b19  h
set_option maxHeartbeats 4000000 in
set_option maxRecDepth 100000 in
theorem tX9_taken {ad : Nat → Nat} {ca : Nat → ClassId} {D : va_G} {FU d : Nat} {r : Int32} {N : Mem}  {x0 : Nat} {x1 : Int32} {x2 : Int32} {M : Mem}  (h : fX9_taken FU  x0 x1 x2 M = some (r, N)) : Ct ad ca D yX9_taken cX9_taken 3 (some .int) (d + 2) [vR (some x0), vI x1, vI x2] M (QI r N) := by
  refine Ct_of (by decide) (Nat.le_of_ble_eq_true rfl) ?_
  show J ad ca D cX9_taken RX9 3 (d + 2) (Gt ad ca D (some .int) (QI r N)) 0 [(0, vR (some x0)), (1, vI x1), (2, vI x2)] [] M
  unfold fX9_taken at h
  refine J_aload_n (pc := 0) (q := 0) rfl rfl dX9_taken_0 ?_
  refine J_iload_n (pc := 1) (q := 2) rfl rfl dX9_taken_1 ?_
  refine J_iconst (pc := 2) (v := (0 : Int32)) (by decide) dX9_taken_2 ?_
  refine J_iconst (pc := 3) (v := (5 : Int32)) (by decide) dX9_taken_3 ?_
  obtain ⟨b4, hb4, g_1⟩ := bnd h
  obtain ⟨r4, M4, h4, g_2⟩ := bnd2 g_1
  refine J_callVI (pc := 4) (as := [vI x2, vI (0 : Int32), vI (5 : Int32)]) (tX9_in (d := d)  h4) cf_X9_in cv_X9_in clF9 hb4 ml_RX9_155 (by omega) (Nat.le_of_ble_eq_true rfl) dX9_taken_4 ?_
  refine J_ifne (pc := 7) (tgt := 13) (by decide) dX9_taken_7 (fun hc7 => ?_) (fun hc7 => ?_)
  · rw [if_pos hc7] at g_2
    refine J_aload_n (pc := 13) (q := 0) rfl rfl dX9_taken_13 ?_
    refine J_iload_n (pc := 14) (q := 1) rfl rfl dX9_taken_14 ?_
    refine J_iconst (pc := 15) (v := (0 : Int32)) (by decide) dX9_taken_15 ?_
    refine J_aload_n (pc := 16) (q := 0) rfl rfl dX9_taken_16 ?_
    obtain ⟨a17, h17, g_3⟩ := bnd g_2
    refine J_getI (pc := 17) (i := 1) clF9 (by decide) rfl fl_RX9_7 h17 dX9_taken_17 ?_
    refine J_iconst (pc := 20) (v := (1 : Int32)) (by decide) dX9_taken_20 ?_
    refine J_isub (pc := 21) dX9_taken_21 ?_
    obtain ⟨b22, hb22, g_4⟩ := bnd g_3
    obtain ⟨r22, M22, h22, g_5⟩ := bnd2 g_4
    refine J_callVI (pc := 22) (as := [vI x1, vI (0 : Int32), vI (a17 - (1 : Int32))]) (tX9_in (d := d)  h22) cf_X9_in cv_X9_in clF9 hb22 ml_RX9_155 (by omega) (Nat.le_of_ble_eq_true rfl) dX9_taken_22 ?_
    refine J_ifne (pc := 25) (tgt := 31) (by decide) dX9_taken_25 (fun hc25 => ?_) (fun hc25 => ?_)
    · rw [if_pos hc25] at g_5
      refine J_aload_n (pc := 31) (q := 0) rfl rfl dX9_taken_31 ?_
      refine J_aload_n (pc := 32) (q := 0) rfl rfl dX9_taken_32 ?_
      obtain ⟨a33, h33, g_6⟩ := bnd g_5
      refine J_getR (pc := 33) (i := 4) clF9 (by decide) rfl fl_RX9_19 h33 dX9_taken_33 ?_
      refine J_iload_n (pc := 36) (q := 1) rfl rfl dX9_taken_36 ?_
      obtain ⟨a37, h37, g_7⟩ := bnd g_6
      refine J_ald0 (pc := 37) h37 dX9_taken_37 ?_
      refine J_iload_n (pc := 38) (q := 2) rfl rfl dX9_taken_38 ?_
      obtain ⟨b39, hb39, g_8⟩ := bnd g_7
      obtain ⟨r39, M39, h39, g_9⟩ := bnd2 g_8
      refine J_callVI (pc := 39) (as := [vI a37, vI x2]) (tX9_isUnder (d := d)  h39) cf_X9_isUnder cv_X9_isUnder clF9 hb39 ml_RX9_419 (by omega) (Nat.le_of_ble_eq_true rfl) dX9_taken_39 ?_
      refine J_ifeq (pc := 42) (tgt := 54) (by decide) dX9_taken_42 (fun hc42 => ?_) (fun hc42 => ?_)
      · rw [if_pos hc42] at g_9
        refine J_bipush (pc := 54) (v := (-13 : Int32)) (by decide) dX9_taken_54 ?_
        exact J_iret (pc := 56) (qi_of g_9) dX9_taken_56
      · rw [if_neg hc42] at g_9
        refine J_aload_n (pc := 45) (q := 0) rfl rfl dX9_taken_45 ?_
        obtain ⟨a46, h46, g_10⟩ := bnd g_9
        refine J_getR (pc := 46) (i := 5) clF9 (by decide) rfl fl_RX9_23 h46 dX9_taken_46 ?_
        refine J_iload_n (pc := 49) (q := 1) rfl rfl dX9_taken_49 ?_
        obtain ⟨a50, h50, g_11⟩ := bnd g_10
        refine J_ald0 (pc := 50) h50 dX9_taken_50 ?_
        refine J_goto (pc := 51) (tgt := 56) (by decide) dX9_taken_51 ?_
        exact J_iret (pc := 56) (qi_of g_11) dX9_taken_56
    · rw [if_neg hc25] at g_5
      refine J_bipush (pc := 28) (v := (-11 : Int32)) (by decide) dX9_taken_28 ?_
      exact J_iret (pc := 30) (qi_of g_5) dX9_taken_30
  · rw [if_neg hc7] at g_2
    refine J_bipush (pc := 10) (v := (-2 : Int32)) (by decide) dX9_taken_10 ?_
    exact J_iret (pc := 12) (qi_of g_2) dX9_taken_12
