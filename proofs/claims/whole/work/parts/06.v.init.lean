/-- cells that are still new: all 0, all null -/
def Zr (l : List Nat) (M : Mem) : Prop := ∀ k, k ∈ l → M.1 k = (fun _ => 0) ∧ ∀ i, M.2 k i = none
theorem Rf.grow {ks : List Nat} {M : Mem} {k : Nat} (h : Rf ks M) (hn : ∀ i, M.2 k i = none) : Rf (ks ++ [k]) M := by
  intro j hj i c hc
  rcases List.mem_append.mp hj with z | z
  · exact List.mem_append_left _ (h j z i c hc)
  · rw [List.mem_singleton.mp z, hn i] at hc
    cases hc
theorem Rf.putI {ks : List Nat} {M : Mem} {k i0 : Nat} {x : Int32} (h : Rf ks M) : Rf ks (up2 M.1 k i0 x, M.2) := h
theorem Rf.put {ks : List Nat} {M : Mem} {k i0 c0 : Nat} (h : Rf ks M) (hc0 : c0 ∈ ks) : Rf ks (M.1, up2 M.2 k i0 (some c0)) := by
  intro j hj i c hc
  by_cases e : j = k
  · subst e
    have hc : up2 M.2 j i0 (some c0) j i = some c := hc
    rw [up2_eq] at hc
    unfold va_up at hc
    split at hc
    · cases hc; exact hc0
    · exact h j hj i c hc
  · have hc : up2 M.2 k i0 (some c0) j i = some c := hc
    rw [up2_ne e] at hc
    exact h j hj i c hc
theorem Zr.putR {l : List Nat} {M : Mem} {k i0 : Nat} {x : Option Nat} (h : Zr l M) (hk : k ∉ l) : Zr l (M.1, up2 M.2 k i0 x) := by
  intro j hj
  have e : j ≠ k := fun z => hk (z ▸ hj)
  refine ⟨(h j hj).1, fun i => ?_⟩
  show up2 M.2 k i0 x j i = none
  rw [up2_ne e]
  exact (h j hj).2 i
theorem Zr.putI {l : List Nat} {M : Mem} {k i0 : Nat} {x : Int32} (h : Zr l M) (hk : k ∉ l) : Zr l (up2 M.1 k i0 x, M.2) := by
  intro j hj
  have e : j ≠ k := fun z => hk (z ▸ hj)
  refine ⟨?_, (h j hj).2⟩
  show up2 M.1 k i0 x j = _
  rw [up2_ne e]
  exact (h j hj).1
theorem ar_int : Cond.arrayClass .int ∈ lw_g := mg (i := 221) (by decide +kernel) rfl
theorem ar_boolean : Cond.arrayClass .boolean ∈ lw_g := mg (i := 222) (by decide +kernel) rfl
theorem ar_byte : Cond.arrayClass .byte ∈ lw_g := mg (i := 359) (by decide +kernel) rfl
theorem oi_1 : Cond.instanceMethod objectInit ∈ lw_g := mg (i := 148) (by decide +kernel) rfl
theorem oi_2 : Cond.code objectInit ⟨#[0xb1]⟩ 1 none ∈ lw_g := mg (i := 149) (by decide +kernel) rfl
def pKR (M : Mem) (k i : Nat) (x : Option Nat) : Mem := (M.1, up2 M.2 k i x)
def pKI (M : Mem) (k i : Nat) (x : Int32) : Mem := (up2 M.1 k i x, M.2)
abbrev ks_X6_init_17 : List Nat := [0, 17]
abbrev new_X6_init_17 : List Nat := [18, 19, 20, 21, 22, 23, 24, 25, 26, 27]
abbrev kz_X6_init_17 : List Nat := [0, 17, 18, 19, 20, 21, 22, 23, 24, 25, 26, 27]
theorem ml_RX6_3 : Cond.methodLink RX6 3 objectInit ∈ lw_g := mg (i := 155) (by decide +kernel) rfl
def nX6_init_17 (M : Mem) : Mem := (pKR (pKR (pKR (pKI (pKR (pKR (pKR (pKR (pKR (pKR (pKR (pKI M 17 1 (-1 : Int32)) 17 5 (some 18)) 17 6 (some 19)) 17 7 (some 20)) 17 9 (some 21)) 17 10 (some 22)) 17 11 (some 23)) 17 12 (some 24)) 17 14 (1 : Int32)) 17 15 (some 25)) 17 16 (some 26)) 17 17 (some 27))
set_option maxRecDepth 100000 in
theorem kX6_init_17 {ad : Nat → Nat} {ca : Nat → ClassId} {D : va_G} {d : Nat} {M : Mem} (hr : Rf ks_X6_init_17 M) (hz : Zr new_X6_init_17 M) : Ck ad ca D yX6_init cX6_init 1 (d + 1) 10 40566 ks_X6_init_17 new_X6_init_17 kz_X6_init_17 [vR (some 17)] M (nX6_init_17 M) := by
  refine Ck_of (by decide) rfl (Nat.le_of_ble_eq_true rfl) ?_
  show Jg ad ca D (wsL ad ca ks_X6_init_17) cX6_init RX6 1 (d + 1) (Gk ad ca D new_X6_init_17 kz_X6_init_17 (nX6_init_17 M) 10 40566 10 40566) 0 [(0, vR (some 17))] [] M
  have hE0 : Ext [] ad ad := Ext.rfl
  refine J_aload_n (pc := 0) (q := 0) rfl rfl dX6_init_0 ?_
  refine K_objInit (pc := 1) ml_RX6_3 oi_1 oi_2 (by omega) (Nat.le_of_ble_eq_true rfl) dX6_init_1 ?_
  refine J_aload_n (pc := 4) (q := 0) rfl rfl dX6_init_4 ?_
  refine J_iconst (pc := 5) (v := (-1 : Int32)) (by decide) dX6_init_5 ?_
  refine K_putI (pc := 6) (p0 := 1) (i := 1) rfl rfl rfl clF6 (by decide) rfl fl_RX6_9 rfl rfl dX6_init_6 ?_
  have hr := Rf.putI (k := 17) (i0 := 1) (x := (-1 : Int32)) hr
  have hz := Zr.putI (k := 17) (i0 := 1) (x := (-1 : Int32)) hz (by decide)
  refine J_aload_n (pc := 9) (q := 0) rfl rfl dX6_init_9 ?_
  refine J_sipush (pc := 10) (v := (9216 : Int32)) (by decide) dX6_init_10 ?_
  obtain ⟨hm1, hn1⟩ := hz 18 (by decide)
  refine K_newa0 (pc := 13) (k := 18) (n := 9216) (cl := 9) (sl := 31350) rfl (by decide) (by decide) (hE0 400 (by decide)).symm hm1 hn1 hr (by decide) (by decide) (by decide) rfl rfl ar_int dX6_init_13 (fun ad1 he1 => ?_)
  have hE1 := Ext.trans hE0 he1
  have hr := Rf.grow (k := 18) hr hn1
  refine K_putRF (pc := 15) (p0 := 1) (i := 5) rfl rfl rfl clF6 (by decide) rfl fl_RX6_15 rfl rfl (Or.inr ⟨_, rfl⟩) dX6_init_15 ?_
  have hr := Rf.put (k := 17) (i0 := 5) (c0 := 18) hr (by decide)
  have hz := Zr.putR (k := 17) (i0 := 5) (x := some 18) hz (by decide)
  refine J_aload_n (pc := 18) (q := 0) rfl rfl dX6_init_18 ?_
  refine J_sipush (pc := 19) (v := (9216 : Int32)) (by decide) dX6_init_19 ?_
  obtain ⟨hm2, hn2⟩ := hz 19 (by decide)
  refine K_newa0 (pc := 22) (k := 19) (n := 9216) (cl := 8) (sl := 22134) rfl (by decide) (by decide) (hE1 400 (by decide)).symm hm2 hn2 hr (by decide) (by decide) (by decide) rfl rfl ar_int dX6_init_22 (fun ad2 he2 => ?_)
  have hE2 := Ext.trans hE1 he2
  have hr := Rf.grow (k := 19) hr hn2
  refine K_putRF (pc := 24) (p0 := 1) (i := 6) rfl rfl rfl clF6 (by decide) rfl fl_RX6_19 rfl rfl (Or.inr ⟨_, rfl⟩) dX6_init_24 ?_
  have hr := Rf.put (k := 17) (i0 := 6) (c0 := 19) hr (by decide)
  have hz := Zr.putR (k := 17) (i0 := 6) (x := some 19) hz (by decide)
  refine J_aload_n (pc := 27) (q := 0) rfl rfl dX6_init_27 ?_
  refine J_sipush (pc := 28) (v := (9216 : Int32)) (by decide) dX6_init_28 ?_
  obtain ⟨hm3, hn3⟩ := hz 20 (by decide)
  refine K_newa0 (pc := 31) (k := 20) (n := 9216) (cl := 7) (sl := 12918) rfl (by decide) (by decide) (hE2 400 (by decide)).symm hm3 hn3 hr (by decide) (by decide) (by decide) rfl rfl ar_int dX6_init_31 (fun ad3 he3 => ?_)
  have hE3 := Ext.trans hE2 he3
  have hr := Rf.grow (k := 20) hr hn3
  refine K_putRF (pc := 33) (p0 := 1) (i := 7) rfl rfl rfl clF6 (by decide) rfl fl_RX6_22 rfl rfl (Or.inr ⟨_, rfl⟩) dX6_init_33 ?_
  have hr := Rf.put (k := 17) (i0 := 7) (c0 := 20) hr (by decide)
  have hz := Zr.putR (k := 17) (i0 := 7) (x := some 20) hz (by decide)
  refine J_aload_n (pc := 36) (q := 0) rfl rfl dX6_init_36 ?_
  refine J_sipush (pc := 37) (v := (1024 : Int32)) (by decide) dX6_init_37 ?_
  obtain ⟨hm4, hn4⟩ := hz 21 (by decide)
  refine K_newa0 (pc := 40) (k := 21) (n := 1024) (cl := 6) (sl := 11894) rfl (by decide) (by decide) (hE3 400 (by decide)).symm hm4 hn4 hr (by decide) (by decide) (by decide) rfl rfl ar_int dX6_init_40 (fun ad4 he4 => ?_)
  have hE4 := Ext.trans hE3 he4
  have hr := Rf.grow (k := 21) hr hn4
  refine K_putRF (pc := 42) (p0 := 1) (i := 9) rfl rfl rfl clF6 (by decide) rfl fl_RX6_25 rfl rfl (Or.inr ⟨_, rfl⟩) dX6_init_42 ?_
  have hr := Rf.put (k := 17) (i0 := 9) (c0 := 21) hr (by decide)
  have hz := Zr.putR (k := 17) (i0 := 9) (x := some 21) hz (by decide)
  refine J_aload_n (pc := 45) (q := 0) rfl rfl dX6_init_45 ?_
  refine J_sipush (pc := 46) (v := (3776 : Int32)) (by decide) dX6_init_46 ?_
  obtain ⟨hm5, hn5⟩ := hz 22 (by decide)
  refine K_newa0 (pc := 49) (k := 22) (n := 3776) (cl := 5) (sl := 8118) rfl (by decide) (by decide) (hE4 400 (by decide)).symm hm5 hn5 hr (by decide) (by decide) (by decide) rfl rfl ar_int dX6_init_49 (fun ad5 he5 => ?_)
  have hE5 := Ext.trans hE4 he5
  have hr := Rf.grow (k := 22) hr hn5
  refine K_putRF (pc := 51) (p0 := 1) (i := 10) rfl rfl rfl clF6 (by decide) rfl fl_RX6_28 rfl rfl (Or.inr ⟨_, rfl⟩) dX6_init_51 ?_
  have hr := Rf.put (k := 17) (i0 := 10) (c0 := 22) hr (by decide)
  have hz := Zr.putR (k := 17) (i0 := 10) (x := some 22) hz (by decide)
  refine J_aload_n (pc := 54) (q := 0) rfl rfl dX6_init_54 ?_
  refine J_sipush (pc := 55) (v := (3776 : Int32)) (by decide) dX6_init_55 ?_
  obtain ⟨hm6, hn6⟩ := hz 23 (by decide)
  refine K_newa0 (pc := 58) (k := 23) (n := 3776) (cl := 4) (sl := 4342) rfl (by decide) (by decide) (hE5 400 (by decide)).symm hm6 hn6 hr (by decide) (by decide) (by decide) rfl rfl ar_int dX6_init_58 (fun ad6 he6 => ?_)
  have hE6 := Ext.trans hE5 he6
  have hr := Rf.grow (k := 23) hr hn6
  refine K_putRF (pc := 60) (p0 := 1) (i := 11) rfl rfl rfl clF6 (by decide) rfl fl_RX6_31 rfl rfl (Or.inr ⟨_, rfl⟩) dX6_init_60 ?_
  have hr := Rf.put (k := 17) (i0 := 11) (c0 := 23) hr (by decide)
  have hz := Zr.putR (k := 17) (i0 := 11) (x := some 23) hz (by decide)
  refine J_aload_n (pc := 63) (q := 0) rfl rfl dX6_init_63 ?_
  refine J_sipush (pc := 64) (v := (3776 : Int32)) (by decide) dX6_init_64 ?_
  obtain ⟨hm7, hn7⟩ := hz 24 (by decide)
  refine K_newa0 (pc := 67) (k := 24) (n := 3776) (cl := 3) (sl := 566) rfl (by decide) (by decide) (hE6 400 (by decide)).symm hm7 hn7 hr (by decide) (by decide) (by decide) rfl rfl ar_int dX6_init_67 (fun ad7 he7 => ?_)
  have hE7 := Ext.trans hE6 he7
  have hr := Rf.grow (k := 24) hr hn7
  refine K_putRF (pc := 69) (p0 := 1) (i := 12) rfl rfl rfl clF6 (by decide) rfl fl_RX6_34 rfl rfl (Or.inr ⟨_, rfl⟩) dX6_init_69 ?_
  have hr := Rf.put (k := 17) (i0 := 12) (c0 := 24) hr (by decide)
  have hz := Zr.putR (k := 17) (i0 := 12) (x := some 24) hz (by decide)
  refine J_aload_n (pc := 72) (q := 0) rfl rfl dX6_init_72 ?_
  refine J_iconst (pc := 73) (v := (1 : Int32)) (by decide) dX6_init_73 ?_
  refine K_putI (pc := 74) (p0 := 1) (i := 14) rfl rfl rfl clF6 (by decide) rfl fl_RX6_37 rfl rfl dX6_init_74 ?_
  have hr := Rf.putI (k := 17) (i0 := 14) (x := (1 : Int32)) hr
  have hz := Zr.putI (k := 17) (i0 := 14) (x := (1 : Int32)) hz (by decide)
  refine J_aload_n (pc := 77) (q := 0) rfl rfl dX6_init_77 ?_
  refine J_bipush (pc := 78) (v := (27 : Int32)) (by decide) dX6_init_78 ?_
  obtain ⟨hm8, hn8⟩ := hz 25 (by decide)
  refine K_newa0 (pc := 80) (k := 25) (n := 27) (cl := 2) (sl := 539) rfl (by decide) (by decide) (hE7 400 (by decide)).symm hm8 hn8 hr (by decide) (by decide) (by decide) rfl rfl ar_int dX6_init_80 (fun ad8 he8 => ?_)
  have hE8 := Ext.trans hE7 he8
  have hr := Rf.grow (k := 25) hr hn8
  refine K_putRF (pc := 82) (p0 := 1) (i := 15) rfl rfl rfl clF6 (by decide) rfl fl_RX6_40 rfl rfl (Or.inr ⟨_, rfl⟩) dX6_init_82 ?_
  have hr := Rf.put (k := 17) (i0 := 15) (c0 := 25) hr (by decide)
  have hz := Zr.putR (k := 17) (i0 := 15) (x := some 25) hz (by decide)
  refine J_aload_n (pc := 85) (q := 0) rfl rfl dX6_init_85 ?_
  refine J_bipush (pc := 86) (v := (27 : Int32)) (by decide) dX6_init_86 ?_
  obtain ⟨hm9, hn9⟩ := hz 26 (by decide)
  refine K_newa0 (pc := 88) (k := 26) (n := 27) (cl := 1) (sl := 512) rfl (by decide) (by decide) (hE8 400 (by decide)).symm hm9 hn9 hr (by decide) (by decide) (by decide) rfl rfl ar_int dX6_init_88 (fun ad9 he9 => ?_)
  have hE9 := Ext.trans hE8 he9
  have hr := Rf.grow (k := 26) hr hn9
  refine K_putRF (pc := 90) (p0 := 1) (i := 16) rfl rfl rfl clF6 (by decide) rfl fl_RX6_43 rfl rfl (Or.inr ⟨_, rfl⟩) dX6_init_90 ?_
  have hr := Rf.put (k := 17) (i0 := 16) (c0 := 26) hr (by decide)
  have hz := Zr.putR (k := 17) (i0 := 16) (x := some 26) hz (by decide)
  refine J_aload_n (pc := 93) (q := 0) rfl rfl dX6_init_93 ?_
  refine J_sipush (pc := 94) (v := (512 : Int32)) (by decide) dX6_init_94 ?_
  obtain ⟨hm10, hn10⟩ := hz 27 (by decide)
  refine K_newa1 (pc := 97) (k := 27) (n := 512) (cl := 0) (sl := 0) rfl (by decide) (by decide) (hE9 400 (by decide)).symm hm10 hn10 hr (by decide) (by decide) (by decide) rfl rfl ar_boolean dX6_init_97 (fun ad10 he10 => ?_)
  have hE10 := Ext.trans hE9 he10
  have hr := Rf.grow (k := 27) hr hn10
  refine K_putRF (pc := 99) (p0 := 1) (i := 17) rfl rfl rfl clF6 (by decide) rfl fl_RX6_46 rfl rfl (Or.inr ⟨_, rfl⟩) dX6_init_99 ?_
  have hr := Rf.put (k := 17) (i0 := 17) (c0 := 27) hr (by decide)
  have hz := Zr.putR (k := 17) (i0 := 17) (x := some 27) hz (by decide)
  exact K_ret (pc := 102) hE10 (hE10 400 (by decide)) dX6_init_102
abbrev ks_X2_init_28 : List Nat := [0, 17, 18, 19, 20, 21, 22, 23, 24, 25, 26, 27, 28]
abbrev new_X2_init_28 : List Nat := [29, 30]
abbrev kz_X2_init_28 : List Nat := [0, 17, 18, 19, 20, 21, 22, 23, 24, 25, 26, 27, 28, 29, 30]
theorem ml_RX2_3 : Cond.methodLink RX2 3 objectInit ∈ lw_g := mg (i := 228) (by decide +kernel) rfl
def nX2_init_28 (M : Mem) : Mem := (pKR (pKR (pKI (pKI M 28 1 (-1 : Int32)) 28 2 (-1 : Int32)) 28 3 (some 29)) 28 4 (some 30))
set_option maxRecDepth 100000 in
theorem kX2_init_28 {ad : Nat → Nat} {ca : Nat → ClassId} {D : va_G} {d : Nat} {M : Mem} (hr : Rf ks_X2_init_28 M) (hz : Zr new_X2_init_28 M) : Ck ad ca D yX2_init cX2_init 1 (d + 1) 2 72 ks_X2_init_28 new_X2_init_28 kz_X2_init_28 [vR (some 28)] M (nX2_init_28 M) := by
  refine Ck_of (by decide) rfl (Nat.le_of_ble_eq_true rfl) ?_
  show Jg ad ca D (wsL ad ca ks_X2_init_28) cX2_init RX2 1 (d + 1) (Gk ad ca D new_X2_init_28 kz_X2_init_28 (nX2_init_28 M) 2 72 2 72) 0 [(0, vR (some 28))] [] M
  have hE0 : Ext [] ad ad := Ext.rfl
  refine J_aload_n (pc := 0) (q := 0) rfl rfl dX2_init_0 ?_
  refine K_objInit (pc := 1) ml_RX2_3 oi_1 oi_2 (by omega) (Nat.le_of_ble_eq_true rfl) dX2_init_1 ?_
  refine J_aload_n (pc := 4) (q := 0) rfl rfl dX2_init_4 ?_
  refine J_iconst (pc := 5) (v := (-1 : Int32)) (by decide) dX2_init_5 ?_
  refine K_putI (pc := 6) (p0 := 12) (i := 1) rfl rfl rfl clF2 (by decide) rfl fl_RX2_9 rfl rfl dX2_init_6 ?_
  have hr := Rf.putI (k := 28) (i0 := 1) (x := (-1 : Int32)) hr
  have hz := Zr.putI (k := 28) (i0 := 1) (x := (-1 : Int32)) hz (by decide)
  refine J_aload_n (pc := 9) (q := 0) rfl rfl dX2_init_9 ?_
  refine J_iconst (pc := 10) (v := (-1 : Int32)) (by decide) dX2_init_10 ?_
  refine K_putI (pc := 11) (p0 := 12) (i := 2) rfl rfl rfl clF2 (by decide) rfl fl_RX2_15 rfl rfl dX2_init_11 ?_
  have hr := Rf.putI (k := 28) (i0 := 2) (x := (-1 : Int32)) hr
  have hz := Zr.putI (k := 28) (i0 := 2) (x := (-1 : Int32)) hz (by decide)
  refine J_aload_n (pc := 14) (q := 0) rfl rfl dX2_init_14 ?_
  refine J_bipush (pc := 15) (v := (64 : Int32)) (by decide) dX2_init_15 ?_
  obtain ⟨hm1, hn1⟩ := hz 29 (by decide)
  refine K_newa0 (pc := 17) (k := 29) (n := 64) (cl := 1) (sl := 8) rfl (by decide) (by decide) (hE0 400 (by decide)).symm hm1 hn1 hr (by decide) (by decide) (by decide) rfl rfl ar_int dX2_init_17 (fun ad1 he1 => ?_)
  have hE1 := Ext.trans hE0 he1
  have hr := Rf.grow (k := 29) hr hn1
  refine K_putRF (pc := 19) (p0 := 12) (i := 3) rfl rfl rfl clF2 (by decide) rfl fl_RX2_18 rfl rfl (Or.inr ⟨_, rfl⟩) dX2_init_19 ?_
  have hr := Rf.put (k := 28) (i0 := 3) (c0 := 29) hr (by decide)
  have hz := Zr.putR (k := 28) (i0 := 3) (x := some 29) hz (by decide)
  refine J_aload_n (pc := 22) (q := 0) rfl rfl dX2_init_22 ?_
  refine J_bipush (pc := 23) (v := (8 : Int32)) (by decide) dX2_init_23 ?_
  obtain ⟨hm2, hn2⟩ := hz 30 (by decide)
  refine K_newa0 (pc := 25) (k := 30) (n := 8) (cl := 0) (sl := 0) rfl (by decide) (by decide) (hE1 400 (by decide)).symm hm2 hn2 hr (by decide) (by decide) (by decide) rfl rfl ar_int dX2_init_25 (fun ad2 he2 => ?_)
  have hE2 := Ext.trans hE1 he2
  have hr := Rf.grow (k := 30) hr hn2
  refine K_putRF (pc := 27) (p0 := 12) (i := 4) rfl rfl rfl clF2 (by decide) rfl fl_RX2_22 rfl rfl (Or.inr ⟨_, rfl⟩) dX2_init_27 ?_
  have hr := Rf.put (k := 28) (i0 := 4) (c0 := 30) hr (by decide)
  have hz := Zr.putR (k := 28) (i0 := 4) (x := some 30) hz (by decide)
  exact K_ret (pc := 30) hE2 (hE2 400 (by decide)) dX2_init_30
abbrev ks_X1_init_31 : List Nat := [0, 17, 18, 19, 20, 21, 22, 23, 24, 25, 26, 27, 28, 29, 30, 31]
abbrev new_X1_init_31 : List Nat := [32, 33, 34]
abbrev kz_X1_init_31 : List Nat := [0, 17, 18, 19, 20, 21, 22, 23, 24, 25, 26, 27, 28, 29, 30, 31, 32, 33, 34]
theorem ml_RX1_3 : Cond.methodLink RX1 3 objectInit ∈ lw_g := mg (i := 253) (by decide +kernel) rfl
def nX1_init_31 (M : Mem) : Mem := (pKR (pKR (pKR (pKI M 31 0 (-1 : Int32)) 31 2 (some 32)) 31 3 (some 33)) 31 4 (some 34))
set_option maxRecDepth 100000 in
theorem kX1_init_31 {ad : Nat → Nat} {ca : Nat → ClassId} {D : va_G} {d : Nat} {M : Mem} (hr : Rf ks_X1_init_31 M) (hz : Zr new_X1_init_31 M) : Ck ad ca D yX1_init cX1_init 1 (d + 1) 3 8256 ks_X1_init_31 new_X1_init_31 kz_X1_init_31 [vR (some 31)] M (nX1_init_31 M) := by
  refine Ck_of (by decide) rfl (Nat.le_of_ble_eq_true rfl) ?_
  show Jg ad ca D (wsL ad ca ks_X1_init_31) cX1_init RX1 1 (d + 1) (Gk ad ca D new_X1_init_31 kz_X1_init_31 (nX1_init_31 M) 3 8256 3 8256) 0 [(0, vR (some 31))] [] M
  have hE0 : Ext [] ad ad := Ext.rfl
  refine J_aload_n (pc := 0) (q := 0) rfl rfl dX1_init_0 ?_
  refine K_objInit (pc := 1) ml_RX1_3 oi_1 oi_2 (by omega) (Nat.le_of_ble_eq_true rfl) dX1_init_1 ?_
  refine J_aload_n (pc := 4) (q := 0) rfl rfl dX1_init_4 ?_
  refine J_iconst (pc := 5) (v := (-1 : Int32)) (by decide) dX1_init_5 ?_
  refine K_putI (pc := 6) (p0 := 15) (i := 0) rfl rfl rfl clF1 (by decide) rfl fl_RX1_9 rfl rfl dX1_init_6 ?_
  have hr := Rf.putI (k := 31) (i0 := 0) (x := (-1 : Int32)) hr
  have hz := Zr.putI (k := 31) (i0 := 0) (x := (-1 : Int32)) hz (by decide)
  refine J_aload_n (pc := 9) (q := 0) rfl rfl dX1_init_9 ?_
  refine J_sipush (pc := 10) (v := (4096 : Int32)) (by decide) dX1_init_10 ?_
  obtain ⟨hm1, hn1⟩ := hz 32 (by decide)
  refine K_newa0 (pc := 13) (k := 32) (n := 4096) (cl := 2) (sl := 4160) rfl (by decide) (by decide) (hE0 400 (by decide)).symm hm1 hn1 hr (by decide) (by decide) (by decide) rfl rfl ar_int dX1_init_13 (fun ad1 he1 => ?_)
  have hE1 := Ext.trans hE0 he1
  have hr := Rf.grow (k := 32) hr hn1
  refine K_putRF (pc := 15) (p0 := 15) (i := 2) rfl rfl rfl clF1 (by decide) rfl fl_RX1_15 rfl rfl (Or.inr ⟨_, rfl⟩) dX1_init_15 ?_
  have hr := Rf.put (k := 31) (i0 := 2) (c0 := 32) hr (by decide)
  have hz := Zr.putR (k := 31) (i0 := 2) (x := some 32) hz (by decide)
  refine J_aload_n (pc := 18) (q := 0) rfl rfl dX1_init_18 ?_
  refine J_sipush (pc := 19) (v := (4096 : Int32)) (by decide) dX1_init_19 ?_
  obtain ⟨hm2, hn2⟩ := hz 33 (by decide)
  refine K_newa0 (pc := 22) (k := 33) (n := 4096) (cl := 1) (sl := 64) rfl (by decide) (by decide) (hE1 400 (by decide)).symm hm2 hn2 hr (by decide) (by decide) (by decide) rfl rfl ar_int dX1_init_22 (fun ad2 he2 => ?_)
  have hE2 := Ext.trans hE1 he2
  have hr := Rf.grow (k := 33) hr hn2
  refine K_putRF (pc := 24) (p0 := 15) (i := 3) rfl rfl rfl clF1 (by decide) rfl fl_RX1_19 rfl rfl (Or.inr ⟨_, rfl⟩) dX1_init_24 ?_
  have hr := Rf.put (k := 31) (i0 := 3) (c0 := 33) hr (by decide)
  have hz := Zr.putR (k := 31) (i0 := 3) (x := some 33) hz (by decide)
  refine J_aload_n (pc := 27) (q := 0) rfl rfl dX1_init_27 ?_
  refine J_bipush (pc := 28) (v := (64 : Int32)) (by decide) dX1_init_28 ?_
  obtain ⟨hm3, hn3⟩ := hz 34 (by decide)
  refine K_newa0 (pc := 30) (k := 34) (n := 64) (cl := 0) (sl := 0) rfl (by decide) (by decide) (hE2 400 (by decide)).symm hm3 hn3 hr (by decide) (by decide) (by decide) rfl rfl ar_int dX1_init_30 (fun ad3 he3 => ?_)
  have hE3 := Ext.trans hE2 he3
  have hr := Rf.grow (k := 34) hr hn3
  refine K_putRF (pc := 32) (p0 := 15) (i := 4) rfl rfl rfl clF1 (by decide) rfl fl_RX1_22 rfl rfl (Or.inr ⟨_, rfl⟩) dX1_init_32 ?_
  have hr := Rf.put (k := 31) (i0 := 4) (c0 := 34) hr (by decide)
  have hz := Zr.putR (k := 31) (i0 := 4) (x := some 34) hz (by decide)
  exact K_ret (pc := 35) hE3 (hE3 400 (by decide)) dX1_init_35
abbrev ks_X0_init_35 : List Nat := [0, 17, 18, 19, 20, 21, 22, 23, 24, 25, 26, 27, 28, 29, 30, 31, 32, 33, 34, 35]
abbrev new_X0_init_35 : List Nat := [36, 37]
abbrev kz_X0_init_35 : List Nat := [0, 17, 18, 19, 20, 21, 22, 23, 24, 25, 26, 27, 28, 29, 30, 31, 32, 33, 34, 35, 36, 37]
theorem ml_RX0_3 : Cond.methodLink RX0 3 objectInit ∈ lw_g := mg (i := 279) (by decide +kernel) rfl
def nX0_init_35 (M : Mem) : Mem := (pKR (pKR M 35 5 (some 36)) 35 6 (some 37))
set_option maxRecDepth 100000 in
theorem kX0_init_35 {ad : Nat → Nat} {ca : Nat → ClassId} {D : va_G} {d : Nat} {M : Mem} (hr : Rf ks_X0_init_35 M) (hz : Zr new_X0_init_35 M) : Ck ad ca D yX0_init cX0_init 1 (d + 1) 2 128 ks_X0_init_35 new_X0_init_35 kz_X0_init_35 [vR (some 35)] M (nX0_init_35 M) := by
  refine Ck_of (by decide) rfl (Nat.le_of_ble_eq_true rfl) ?_
  show Jg ad ca D (wsL ad ca ks_X0_init_35) cX0_init RX0 1 (d + 1) (Gk ad ca D new_X0_init_35 kz_X0_init_35 (nX0_init_35 M) 2 128 2 128) 0 [(0, vR (some 35))] [] M
  have hE0 : Ext [] ad ad := Ext.rfl
  refine J_aload_n (pc := 0) (q := 0) rfl rfl dX0_init_0 ?_
  refine K_objInit (pc := 1) ml_RX0_3 oi_1 oi_2 (by omega) (Nat.le_of_ble_eq_true rfl) dX0_init_1 ?_
  refine J_aload_n (pc := 4) (q := 0) rfl rfl dX0_init_4 ?_
  refine J_bipush (pc := 5) (v := (64 : Int32)) (by decide) dX0_init_5 ?_
  obtain ⟨hm1, hn1⟩ := hz 36 (by decide)
  refine K_newa0 (pc := 7) (k := 36) (n := 64) (cl := 1) (sl := 64) rfl (by decide) (by decide) (hE0 400 (by decide)).symm hm1 hn1 hr (by decide) (by decide) (by decide) rfl rfl ar_int dX0_init_7 (fun ad1 he1 => ?_)
  have hE1 := Ext.trans hE0 he1
  have hr := Rf.grow (k := 36) hr hn1
  refine K_putRF (pc := 9) (p0 := 19) (i := 5) rfl rfl rfl clF0 (by decide) rfl fl_RX0_9 rfl rfl (Or.inr ⟨_, rfl⟩) dX0_init_9 ?_
  have hr := Rf.put (k := 35) (i0 := 5) (c0 := 36) hr (by decide)
  have hz := Zr.putR (k := 35) (i0 := 5) (x := some 36) hz (by decide)
  refine J_aload_n (pc := 12) (q := 0) rfl rfl dX0_init_12 ?_
  refine J_bipush (pc := 13) (v := (64 : Int32)) (by decide) dX0_init_13 ?_
  obtain ⟨hm2, hn2⟩ := hz 37 (by decide)
  refine K_newa0 (pc := 15) (k := 37) (n := 64) (cl := 0) (sl := 0) rfl (by decide) (by decide) (hE1 400 (by decide)).symm hm2 hn2 hr (by decide) (by decide) (by decide) rfl rfl ar_int dX0_init_15 (fun ad2 he2 => ?_)
  have hE2 := Ext.trans hE1 he2
  have hr := Rf.grow (k := 37) hr hn2
  refine K_putRF (pc := 17) (p0 := 19) (i := 6) rfl rfl rfl clF0 (by decide) rfl fl_RX0_15 rfl rfl (Or.inr ⟨_, rfl⟩) dX0_init_17 ?_
  have hr := Rf.put (k := 35) (i0 := 6) (c0 := 37) hr (by decide)
  have hz := Zr.putR (k := 35) (i0 := 6) (x := some 37) hz (by decide)
  exact K_ret (pc := 20) hE2 (hE2 400 (by decide)) dX0_init_20
abbrev ks_X4_init_48 : List Nat := [0, 17, 18, 19, 20, 21, 22, 23, 24, 25, 26, 27, 28, 29, 30, 31, 32, 33, 34, 35, 36, 37, 38, 39, 40, 41, 42, 43, 44, 45, 46, 47, 48]
abbrev new_X4_init_48 : List Nat := [49, 50]
abbrev kz_X4_init_48 : List Nat := [0, 17, 18, 19, 20, 21, 22, 23, 24, 25, 26, 27, 28, 29, 30, 31, 32, 33, 34, 35, 36, 37, 38, 39, 40, 41, 42, 43, 44, 45, 46, 47, 48, 49, 50]
theorem ml_RX4_3 : Cond.methodLink RX4 3 objectInit ∈ lw_g := mg (i := 320) (by decide +kernel) rfl
def nX4_init_48 (M : Mem) : Mem := (pKI (pKR (pKI (pKR M 48 0 (some 49)) 48 3 (-1 : Int32)) 48 4 (some 50)) 48 7 (12 : Int32))
set_option maxRecDepth 100000 in
theorem kX4_init_48 {ad : Nat → Nat} {ca : Nat → ClassId} {D : va_G} {d : Nat} {M : Mem} (hr : Rf ks_X4_init_48 M) (hz : Zr new_X4_init_48 M) : Ck ad ca D yX4_init cX4_init 1 (d + 1) 2 6 ks_X4_init_48 new_X4_init_48 kz_X4_init_48 [vR (some 48)] M (nX4_init_48 M) := by
  refine Ck_of (by decide) rfl (Nat.le_of_ble_eq_true rfl) ?_
  show Jg ad ca D (wsL ad ca ks_X4_init_48) cX4_init RX4 1 (d + 1) (Gk ad ca D new_X4_init_48 kz_X4_init_48 (nX4_init_48 M) 2 6 2 6) 0 [(0, vR (some 48))] [] M
  have hE0 : Ext [] ad ad := Ext.rfl
  refine J_aload_n (pc := 0) (q := 0) rfl rfl dX4_init_0 ?_
  refine K_objInit (pc := 1) ml_RX4_3 oi_1 oi_2 (by omega) (Nat.le_of_ble_eq_true rfl) dX4_init_1 ?_
  refine J_aload_n (pc := 4) (q := 0) rfl rfl dX4_init_4 ?_
  refine J_bipush (pc := 5) (v := (6 : Int32)) (by decide) dX4_init_5 ?_
  obtain ⟨hm1, hn1⟩ := hz 49 (by decide)
  refine K_newa0 (pc := 7) (k := 49) (n := 6) (cl := 1) (sl := 0) rfl (by decide) (by decide) (hE0 400 (by decide)).symm hm1 hn1 hr (by decide) (by decide) (by decide) rfl rfl ar_int dX4_init_7 (fun ad1 he1 => ?_)
  have hE1 := Ext.trans hE0 he1
  have hr := Rf.grow (k := 49) hr hn1
  refine K_putRF (pc := 9) (p0 := 32) (i := 0) rfl rfl rfl clF4 (by decide) rfl fl_RX4_11 rfl rfl (Or.inr ⟨_, rfl⟩) dX4_init_9 ?_
  have hr := Rf.put (k := 48) (i0 := 0) (c0 := 49) hr (by decide)
  have hz := Zr.putR (k := 48) (i0 := 0) (x := some 49) hz (by decide)
  refine J_aload_n (pc := 12) (q := 0) rfl rfl dX4_init_12 ?_
  refine J_iconst (pc := 13) (v := (-1 : Int32)) (by decide) dX4_init_13 ?_
  refine K_putI (pc := 14) (p0 := 32) (i := 3) rfl rfl rfl clF4 (by decide) rfl fl_RX4_15 rfl rfl dX4_init_14 ?_
  have hr := Rf.putI (k := 48) (i0 := 3) (x := (-1 : Int32)) hr
  have hz := Zr.putI (k := 48) (i0 := 3) (x := (-1 : Int32)) hz (by decide)
  refine J_aload_n (pc := 17) (q := 0) rfl rfl dX4_init_17 ?_
  refine J_iconst (pc := 18) (v := (0 : Int32)) (by decide) dX4_init_18 ?_
  obtain ⟨hm2, hn2⟩ := hz 50 (by decide)
  refine K_newa2 (pc := 19) (k := 50) (n := 0) (cl := 0) (sl := 0) rfl (by decide) (by decide) (hE1 400 (by decide)).symm hm2 hn2 hr (by decide) (by decide) (by decide) rfl rfl ar_byte dX4_init_19 (fun ad2 he2 => ?_)
  have hE2 := Ext.trans hE1 he2
  have hr := Rf.grow (k := 50) hr hn2
  refine K_putR (pc := 21) (p0 := 32) (i := 4) rfl rfl rfl clF4 (by decide) rfl fl_RX4_19 rfl (Or.inr ⟨_, rfl⟩) dX4_init_21 ?_
  have hr := Rf.put (k := 48) (i0 := 4) (c0 := 50) hr (by decide)
  have hz := Zr.putR (k := 48) (i0 := 4) (x := some 50) hz (by decide)
  refine J_aload_n (pc := 24) (q := 0) rfl rfl dX4_init_24 ?_
  refine J_bipush (pc := 25) (v := (12 : Int32)) (by decide) dX4_init_25 ?_
  refine K_putI (pc := 27) (p0 := 32) (i := 7) rfl rfl rfl clF4 (by decide) rfl fl_RX4_23 rfl rfl dX4_init_27 ?_
  have hr := Rf.putI (k := 48) (i0 := 7) (x := (12 : Int32)) hr
  have hz := Zr.putI (k := 48) (i0 := 7) (x := (12 : Int32)) hz (by decide)
  exact K_ret (pc := 30) hE2 (hE2 400 (by decide)) dX4_init_30
abbrev ks_X3_init_1 : List Nat := [0, 17, 18, 19, 20, 21, 22, 23, 24, 25, 26, 27, 28, 29, 30, 31, 32, 33, 34, 35, 36, 37, 38, 39, 40, 41, 42, 43, 44, 45, 46, 47, 48, 49, 50, 51, 1]
abbrev new_X3_init_1 : List Nat := [2, 3, 4, 5, 6, 7, 8]
abbrev kz_X3_init_1 : List Nat := [0, 17, 18, 19, 20, 21, 22, 23, 24, 25, 26, 27, 28, 29, 30, 31, 32, 33, 34, 35, 36, 37, 38, 39, 40, 41, 42, 43, 44, 45, 46, 47, 48, 49, 50, 51, 1, 2, 3, 4, 5, 6, 7, 8]
theorem ml_RX3_3 : Cond.methodLink RX3 3 objectInit ∈ lw_g := mg (i := 450) (by decide +kernel) rfl
def nX3_init_1 (x1 : Int32) (M : Mem) : Mem := (pKI (pKI (pKI (pKR (pKR (pKR (pKR (pKR (pKR (pKR M 1 1 (some 2)) 1 2 (some 3)) 1 3 (some 4)) 1 4 (some 5)) 1 5 (some 6)) 1 6 (some 7)) 1 7 (some 8)) 1 10 (1 : Int32)) 1 11 (1 : Int32)) 1 0 x1)
set_option maxRecDepth 100000 in
theorem kX3_init_1 {ad : Nat → Nat} {ca : Nat → ClassId} {D : va_G} {d : Nat} {M : Mem} {x1 : Int32} (hr : Rf ks_X3_init_1 M) (hz : Zr new_X3_init_1 M) : Ck ad ca D yX3_init cX3_init 2 (d + 1) 7 82 ks_X3_init_1 new_X3_init_1 kz_X3_init_1 [vR (some 1), vI x1] M (nX3_init_1 x1 M) := by
  refine Ck_of (by decide) rfl (Nat.le_of_ble_eq_true rfl) ?_
  show Jg ad ca D (wsL ad ca ks_X3_init_1) cX3_init RX3 2 (d + 1) (Gk ad ca D new_X3_init_1 kz_X3_init_1 (nX3_init_1 x1 M) 7 82 7 82) 0 [(0, vR (some 1)), (1, vI x1)] [] M
  have hE0 : Ext [] ad ad := Ext.rfl
  refine J_aload_n (pc := 0) (q := 0) rfl rfl dX3_init_0 ?_
  refine K_objInit (pc := 1) ml_RX3_3 oi_1 oi_2 (by omega) (Nat.le_of_ble_eq_true rfl) dX3_init_1 ?_
  refine J_aload_n (pc := 4) (q := 0) rfl rfl dX3_init_4 ?_
  refine J_bipush (pc := 5) (v := (16 : Int32)) (by decide) dX3_init_5 ?_
  obtain ⟨hm1, hn1⟩ := hz 2 (by decide)
  refine K_newa0 (pc := 7) (k := 2) (n := 16) (cl := 6) (sl := 66) rfl (by decide) (by decide) (hE0 400 (by decide)).symm hm1 hn1 hr (by decide) (by decide) (by decide) rfl rfl ar_int dX3_init_7 (fun ad1 he1 => ?_)
  have hE1 := Ext.trans hE0 he1
  have hr := Rf.grow (k := 2) hr hn1
  refine K_putRF (pc := 9) (p0 := 36) (i := 1) rfl rfl rfl clF3 (by decide) rfl fl_RX3_9 rfl rfl (Or.inr ⟨_, rfl⟩) dX3_init_9 ?_
  have hr := Rf.put (k := 1) (i0 := 1) (c0 := 2) hr (by decide)
  have hz := Zr.putR (k := 1) (i0 := 1) (x := some 2) hz (by decide)
  refine J_aload_n (pc := 12) (q := 0) rfl rfl dX3_init_12 ?_
  refine J_bipush (pc := 13) (v := (16 : Int32)) (by decide) dX3_init_13 ?_
  obtain ⟨hm2, hn2⟩ := hz 3 (by decide)
  refine K_newa0 (pc := 15) (k := 3) (n := 16) (cl := 5) (sl := 50) rfl (by decide) (by decide) (hE1 400 (by decide)).symm hm2 hn2 hr (by decide) (by decide) (by decide) rfl rfl ar_int dX3_init_15 (fun ad2 he2 => ?_)
  have hE2 := Ext.trans hE1 he2
  have hr := Rf.grow (k := 3) hr hn2
  refine K_putRF (pc := 17) (p0 := 36) (i := 2) rfl rfl rfl clF3 (by decide) rfl fl_RX3_15 rfl rfl (Or.inr ⟨_, rfl⟩) dX3_init_17 ?_
  have hr := Rf.put (k := 1) (i0 := 2) (c0 := 3) hr (by decide)
  have hz := Zr.putR (k := 1) (i0 := 2) (x := some 3) hz (by decide)
  refine J_aload_n (pc := 20) (q := 0) rfl rfl dX3_init_20 ?_
  refine J_bipush (pc := 21) (v := (16 : Int32)) (by decide) dX3_init_21 ?_
  obtain ⟨hm3, hn3⟩ := hz 4 (by decide)
  refine K_newa0 (pc := 23) (k := 4) (n := 16) (cl := 4) (sl := 34) rfl (by decide) (by decide) (hE2 400 (by decide)).symm hm3 hn3 hr (by decide) (by decide) (by decide) rfl rfl ar_int dX3_init_23 (fun ad3 he3 => ?_)
  have hE3 := Ext.trans hE2 he3
  have hr := Rf.grow (k := 4) hr hn3
  refine K_putRF (pc := 25) (p0 := 36) (i := 3) rfl rfl rfl clF3 (by decide) rfl fl_RX3_18 rfl rfl (Or.inr ⟨_, rfl⟩) dX3_init_25 ?_
  have hr := Rf.put (k := 1) (i0 := 3) (c0 := 4) hr (by decide)
  have hz := Zr.putR (k := 1) (i0 := 3) (x := some 4) hz (by decide)
  refine J_aload_n (pc := 28) (q := 0) rfl rfl dX3_init_28 ?_
  refine J_bipush (pc := 29) (v := (16 : Int32)) (by decide) dX3_init_29 ?_
  obtain ⟨hm4, hn4⟩ := hz 5 (by decide)
  refine K_newa0 (pc := 31) (k := 5) (n := 16) (cl := 3) (sl := 18) rfl (by decide) (by decide) (hE3 400 (by decide)).symm hm4 hn4 hr (by decide) (by decide) (by decide) rfl rfl ar_int dX3_init_31 (fun ad4 he4 => ?_)
  have hE4 := Ext.trans hE3 he4
  have hr := Rf.grow (k := 5) hr hn4
  refine K_putRF (pc := 33) (p0 := 36) (i := 4) rfl rfl rfl clF3 (by decide) rfl fl_RX3_21 rfl rfl (Or.inr ⟨_, rfl⟩) dX3_init_33 ?_
  have hr := Rf.put (k := 1) (i0 := 4) (c0 := 5) hr (by decide)
  have hz := Zr.putR (k := 1) (i0 := 4) (x := some 5) hz (by decide)
  refine J_aload_n (pc := 36) (q := 0) rfl rfl dX3_init_36 ?_
  refine J_iconst (pc := 37) (v := (2 : Int32)) (by decide) dX3_init_37 ?_
  obtain ⟨hm5, hn5⟩ := hz 6 (by decide)
  refine K_newa0 (pc := 38) (k := 6) (n := 2) (cl := 2) (sl := 16) rfl (by decide) (by decide) (hE4 400 (by decide)).symm hm5 hn5 hr (by decide) (by decide) (by decide) rfl rfl ar_int dX3_init_38 (fun ad5 he5 => ?_)
  have hE5 := Ext.trans hE4 he5
  have hr := Rf.grow (k := 6) hr hn5
  refine K_putRF (pc := 40) (p0 := 36) (i := 5) rfl rfl rfl clF3 (by decide) rfl fl_RX3_24 rfl rfl (Or.inr ⟨_, rfl⟩) dX3_init_40 ?_
  have hr := Rf.put (k := 1) (i0 := 5) (c0 := 6) hr (by decide)
  have hz := Zr.putR (k := 1) (i0 := 5) (x := some 6) hz (by decide)
  refine J_aload_n (pc := 43) (q := 0) rfl rfl dX3_init_43 ?_
  refine J_bipush (pc := 44) (v := (8 : Int32)) (by decide) dX3_init_44 ?_
  obtain ⟨hm6, hn6⟩ := hz 7 (by decide)
  refine K_newa0 (pc := 46) (k := 7) (n := 8) (cl := 1) (sl := 8) rfl (by decide) (by decide) (hE5 400 (by decide)).symm hm6 hn6 hr (by decide) (by decide) (by decide) rfl rfl ar_int dX3_init_46 (fun ad6 he6 => ?_)
  have hE6 := Ext.trans hE5 he6
  have hr := Rf.grow (k := 7) hr hn6
  refine K_putRF (pc := 48) (p0 := 36) (i := 6) rfl rfl rfl clF3 (by decide) rfl fl_RX3_27 rfl rfl (Or.inr ⟨_, rfl⟩) dX3_init_48 ?_
  have hr := Rf.put (k := 1) (i0 := 6) (c0 := 7) hr (by decide)
  have hz := Zr.putR (k := 1) (i0 := 6) (x := some 7) hz (by decide)
  refine J_aload_n (pc := 51) (q := 0) rfl rfl dX3_init_51 ?_
  refine J_bipush (pc := 52) (v := (8 : Int32)) (by decide) dX3_init_52 ?_
  obtain ⟨hm7, hn7⟩ := hz 8 (by decide)
  refine K_newa0 (pc := 54) (k := 8) (n := 8) (cl := 0) (sl := 0) rfl (by decide) (by decide) (hE6 400 (by decide)).symm hm7 hn7 hr (by decide) (by decide) (by decide) rfl rfl ar_int dX3_init_54 (fun ad7 he7 => ?_)
  have hE7 := Ext.trans hE6 he7
  have hr := Rf.grow (k := 8) hr hn7
  refine K_putRF (pc := 56) (p0 := 36) (i := 7) rfl rfl rfl clF3 (by decide) rfl fl_RX3_30 rfl rfl (Or.inr ⟨_, rfl⟩) dX3_init_56 ?_
  have hr := Rf.put (k := 1) (i0 := 7) (c0 := 8) hr (by decide)
  have hz := Zr.putR (k := 1) (i0 := 7) (x := some 8) hz (by decide)
  refine J_aload_n (pc := 59) (q := 0) rfl rfl dX3_init_59 ?_
  refine J_iconst (pc := 60) (v := (1 : Int32)) (by decide) dX3_init_60 ?_
  refine K_putI (pc := 61) (p0 := 36) (i := 10) rfl rfl rfl clF3 (by decide) rfl fl_RX3_33 rfl rfl dX3_init_61 ?_
  have hr := Rf.putI (k := 1) (i0 := 10) (x := (1 : Int32)) hr
  have hz := Zr.putI (k := 1) (i0 := 10) (x := (1 : Int32)) hz (by decide)
  refine J_aload_n (pc := 64) (q := 0) rfl rfl dX3_init_64 ?_
  refine J_iconst (pc := 65) (v := (1 : Int32)) (by decide) dX3_init_65 ?_
  refine K_putI (pc := 66) (p0 := 36) (i := 11) rfl rfl rfl clF3 (by decide) rfl fl_RX3_37 rfl rfl dX3_init_66 ?_
  have hr := Rf.putI (k := 1) (i0 := 11) (x := (1 : Int32)) hr
  have hz := Zr.putI (k := 1) (i0 := 11) (x := (1 : Int32)) hz (by decide)
  refine J_aload_n (pc := 69) (q := 0) rfl rfl dX3_init_69 ?_
  refine J_iload_n (pc := 70) (q := 1) rfl rfl dX3_init_70 ?_
  refine K_putIF (pc := 71) (p0 := 36) (i := 0) rfl rfl rfl clF3 (by decide) rfl fl_RX3_40 rfl rfl rfl dX3_init_71 ?_
  have hr := Rf.putI (k := 1) (i0 := 0) (x := x1) hr
  have hz := Zr.putI (k := 1) (i0 := 0) (x := x1) hz (by decide)
  exact K_ret (pc := 74) hE7 (hE7 400 (by decide)) dX3_init_74
abbrev ks_X3_init_9 : List Nat := [0, 17, 18, 19, 20, 21, 22, 23, 24, 25, 26, 27, 28, 29, 30, 31, 32, 33, 34, 35, 36, 37, 38, 39, 40, 41, 42, 43, 44, 45, 46, 47, 48, 49, 50, 51, 1, 2, 3, 4, 5, 6, 7, 8, 9]
abbrev new_X3_init_9 : List Nat := [10, 11, 12, 13, 14, 15, 16]
abbrev kz_X3_init_9 : List Nat := [0, 17, 18, 19, 20, 21, 22, 23, 24, 25, 26, 27, 28, 29, 30, 31, 32, 33, 34, 35, 36, 37, 38, 39, 40, 41, 42, 43, 44, 45, 46, 47, 48, 49, 50, 51, 1, 2, 3, 4, 5, 6, 7, 8, 9, 10, 11, 12, 13, 14, 15, 16]
def nX3_init_9 (x1 : Int32) (M : Mem) : Mem := (pKI (pKI (pKI (pKR (pKR (pKR (pKR (pKR (pKR (pKR M 9 1 (some 10)) 9 2 (some 11)) 9 3 (some 12)) 9 4 (some 13)) 9 5 (some 14)) 9 6 (some 15)) 9 7 (some 16)) 9 10 (1 : Int32)) 9 11 (1 : Int32)) 9 0 x1)
set_option maxRecDepth 100000 in
theorem kX3_init_9 {ad : Nat → Nat} {ca : Nat → ClassId} {D : va_G} {d : Nat} {M : Mem} {x1 : Int32} (hr : Rf ks_X3_init_9 M) (hz : Zr new_X3_init_9 M) : Ck ad ca D yX3_init cX3_init 2 (d + 1) 7 82 ks_X3_init_9 new_X3_init_9 kz_X3_init_9 [vR (some 9), vI x1] M (nX3_init_9 x1 M) := by
  refine Ck_of (by decide) rfl (Nat.le_of_ble_eq_true rfl) ?_
  show Jg ad ca D (wsL ad ca ks_X3_init_9) cX3_init RX3 2 (d + 1) (Gk ad ca D new_X3_init_9 kz_X3_init_9 (nX3_init_9 x1 M) 7 82 7 82) 0 [(0, vR (some 9)), (1, vI x1)] [] M
  have hE0 : Ext [] ad ad := Ext.rfl
  refine J_aload_n (pc := 0) (q := 0) rfl rfl dX3_init_0 ?_
  refine K_objInit (pc := 1) ml_RX3_3 oi_1 oi_2 (by omega) (Nat.le_of_ble_eq_true rfl) dX3_init_1 ?_
  refine J_aload_n (pc := 4) (q := 0) rfl rfl dX3_init_4 ?_
  refine J_bipush (pc := 5) (v := (16 : Int32)) (by decide) dX3_init_5 ?_
  obtain ⟨hm1, hn1⟩ := hz 10 (by decide)
  refine K_newa0 (pc := 7) (k := 10) (n := 16) (cl := 6) (sl := 66) rfl (by decide) (by decide) (hE0 400 (by decide)).symm hm1 hn1 hr (by decide) (by decide) (by decide) rfl rfl ar_int dX3_init_7 (fun ad1 he1 => ?_)
  have hE1 := Ext.trans hE0 he1
  have hr := Rf.grow (k := 10) hr hn1
  refine K_putRF (pc := 9) (p0 := 44) (i := 1) rfl rfl rfl clF3 (by decide) rfl fl_RX3_9 rfl rfl (Or.inr ⟨_, rfl⟩) dX3_init_9 ?_
  have hr := Rf.put (k := 9) (i0 := 1) (c0 := 10) hr (by decide)
  have hz := Zr.putR (k := 9) (i0 := 1) (x := some 10) hz (by decide)
  refine J_aload_n (pc := 12) (q := 0) rfl rfl dX3_init_12 ?_
  refine J_bipush (pc := 13) (v := (16 : Int32)) (by decide) dX3_init_13 ?_
  obtain ⟨hm2, hn2⟩ := hz 11 (by decide)
  refine K_newa0 (pc := 15) (k := 11) (n := 16) (cl := 5) (sl := 50) rfl (by decide) (by decide) (hE1 400 (by decide)).symm hm2 hn2 hr (by decide) (by decide) (by decide) rfl rfl ar_int dX3_init_15 (fun ad2 he2 => ?_)
  have hE2 := Ext.trans hE1 he2
  have hr := Rf.grow (k := 11) hr hn2
  refine K_putRF (pc := 17) (p0 := 44) (i := 2) rfl rfl rfl clF3 (by decide) rfl fl_RX3_15 rfl rfl (Or.inr ⟨_, rfl⟩) dX3_init_17 ?_
  have hr := Rf.put (k := 9) (i0 := 2) (c0 := 11) hr (by decide)
  have hz := Zr.putR (k := 9) (i0 := 2) (x := some 11) hz (by decide)
  refine J_aload_n (pc := 20) (q := 0) rfl rfl dX3_init_20 ?_
  refine J_bipush (pc := 21) (v := (16 : Int32)) (by decide) dX3_init_21 ?_
  obtain ⟨hm3, hn3⟩ := hz 12 (by decide)
  refine K_newa0 (pc := 23) (k := 12) (n := 16) (cl := 4) (sl := 34) rfl (by decide) (by decide) (hE2 400 (by decide)).symm hm3 hn3 hr (by decide) (by decide) (by decide) rfl rfl ar_int dX3_init_23 (fun ad3 he3 => ?_)
  have hE3 := Ext.trans hE2 he3
  have hr := Rf.grow (k := 12) hr hn3
  refine K_putRF (pc := 25) (p0 := 44) (i := 3) rfl rfl rfl clF3 (by decide) rfl fl_RX3_18 rfl rfl (Or.inr ⟨_, rfl⟩) dX3_init_25 ?_
  have hr := Rf.put (k := 9) (i0 := 3) (c0 := 12) hr (by decide)
  have hz := Zr.putR (k := 9) (i0 := 3) (x := some 12) hz (by decide)
  refine J_aload_n (pc := 28) (q := 0) rfl rfl dX3_init_28 ?_
  refine J_bipush (pc := 29) (v := (16 : Int32)) (by decide) dX3_init_29 ?_
  obtain ⟨hm4, hn4⟩ := hz 13 (by decide)
  refine K_newa0 (pc := 31) (k := 13) (n := 16) (cl := 3) (sl := 18) rfl (by decide) (by decide) (hE3 400 (by decide)).symm hm4 hn4 hr (by decide) (by decide) (by decide) rfl rfl ar_int dX3_init_31 (fun ad4 he4 => ?_)
  have hE4 := Ext.trans hE3 he4
  have hr := Rf.grow (k := 13) hr hn4
  refine K_putRF (pc := 33) (p0 := 44) (i := 4) rfl rfl rfl clF3 (by decide) rfl fl_RX3_21 rfl rfl (Or.inr ⟨_, rfl⟩) dX3_init_33 ?_
  have hr := Rf.put (k := 9) (i0 := 4) (c0 := 13) hr (by decide)
  have hz := Zr.putR (k := 9) (i0 := 4) (x := some 13) hz (by decide)
  refine J_aload_n (pc := 36) (q := 0) rfl rfl dX3_init_36 ?_
  refine J_iconst (pc := 37) (v := (2 : Int32)) (by decide) dX3_init_37 ?_
  obtain ⟨hm5, hn5⟩ := hz 14 (by decide)
  refine K_newa0 (pc := 38) (k := 14) (n := 2) (cl := 2) (sl := 16) rfl (by decide) (by decide) (hE4 400 (by decide)).symm hm5 hn5 hr (by decide) (by decide) (by decide) rfl rfl ar_int dX3_init_38 (fun ad5 he5 => ?_)
  have hE5 := Ext.trans hE4 he5
  have hr := Rf.grow (k := 14) hr hn5
  refine K_putRF (pc := 40) (p0 := 44) (i := 5) rfl rfl rfl clF3 (by decide) rfl fl_RX3_24 rfl rfl (Or.inr ⟨_, rfl⟩) dX3_init_40 ?_
  have hr := Rf.put (k := 9) (i0 := 5) (c0 := 14) hr (by decide)
  have hz := Zr.putR (k := 9) (i0 := 5) (x := some 14) hz (by decide)
  refine J_aload_n (pc := 43) (q := 0) rfl rfl dX3_init_43 ?_
  refine J_bipush (pc := 44) (v := (8 : Int32)) (by decide) dX3_init_44 ?_
  obtain ⟨hm6, hn6⟩ := hz 15 (by decide)
  refine K_newa0 (pc := 46) (k := 15) (n := 8) (cl := 1) (sl := 8) rfl (by decide) (by decide) (hE5 400 (by decide)).symm hm6 hn6 hr (by decide) (by decide) (by decide) rfl rfl ar_int dX3_init_46 (fun ad6 he6 => ?_)
  have hE6 := Ext.trans hE5 he6
  have hr := Rf.grow (k := 15) hr hn6
  refine K_putRF (pc := 48) (p0 := 44) (i := 6) rfl rfl rfl clF3 (by decide) rfl fl_RX3_27 rfl rfl (Or.inr ⟨_, rfl⟩) dX3_init_48 ?_
  have hr := Rf.put (k := 9) (i0 := 6) (c0 := 15) hr (by decide)
  have hz := Zr.putR (k := 9) (i0 := 6) (x := some 15) hz (by decide)
  refine J_aload_n (pc := 51) (q := 0) rfl rfl dX3_init_51 ?_
  refine J_bipush (pc := 52) (v := (8 : Int32)) (by decide) dX3_init_52 ?_
  obtain ⟨hm7, hn7⟩ := hz 16 (by decide)
  refine K_newa0 (pc := 54) (k := 16) (n := 8) (cl := 0) (sl := 0) rfl (by decide) (by decide) (hE6 400 (by decide)).symm hm7 hn7 hr (by decide) (by decide) (by decide) rfl rfl ar_int dX3_init_54 (fun ad7 he7 => ?_)
  have hE7 := Ext.trans hE6 he7
  have hr := Rf.grow (k := 16) hr hn7
  refine K_putRF (pc := 56) (p0 := 44) (i := 7) rfl rfl rfl clF3 (by decide) rfl fl_RX3_30 rfl rfl (Or.inr ⟨_, rfl⟩) dX3_init_56 ?_
  have hr := Rf.put (k := 9) (i0 := 7) (c0 := 16) hr (by decide)
  have hz := Zr.putR (k := 9) (i0 := 7) (x := some 16) hz (by decide)
  refine J_aload_n (pc := 59) (q := 0) rfl rfl dX3_init_59 ?_
  refine J_iconst (pc := 60) (v := (1 : Int32)) (by decide) dX3_init_60 ?_
  refine K_putI (pc := 61) (p0 := 44) (i := 10) rfl rfl rfl clF3 (by decide) rfl fl_RX3_33 rfl rfl dX3_init_61 ?_
  have hr := Rf.putI (k := 9) (i0 := 10) (x := (1 : Int32)) hr
  have hz := Zr.putI (k := 9) (i0 := 10) (x := (1 : Int32)) hz (by decide)
  refine J_aload_n (pc := 64) (q := 0) rfl rfl dX3_init_64 ?_
  refine J_iconst (pc := 65) (v := (1 : Int32)) (by decide) dX3_init_65 ?_
  refine K_putI (pc := 66) (p0 := 44) (i := 11) rfl rfl rfl clF3 (by decide) rfl fl_RX3_37 rfl rfl dX3_init_66 ?_
  have hr := Rf.putI (k := 9) (i0 := 11) (x := (1 : Int32)) hr
  have hz := Zr.putI (k := 9) (i0 := 11) (x := (1 : Int32)) hz (by decide)
  refine J_aload_n (pc := 69) (q := 0) rfl rfl dX3_init_69 ?_
  refine J_iload_n (pc := 70) (q := 1) rfl rfl dX3_init_70 ?_
  refine K_putIF (pc := 71) (p0 := 44) (i := 0) rfl rfl rfl clF3 (by decide) rfl fl_RX3_40 rfl rfl rfl dX3_init_71 ?_
  have hr := Rf.putI (k := 9) (i0 := 0) (x := x1) hr
  have hz := Zr.putI (k := 9) (i0 := 0) (x := x1) hz (by decide)
  exact K_ret (pc := 74) hE7 (hE7 400 (by decide)) dX3_init_74
abbrev ks_X5_init_52 : List Nat := [0, 17, 18, 19, 20, 21, 22, 23, 24, 25, 26, 27, 28, 29, 30, 31, 32, 33, 34, 35, 36, 37, 38, 39, 40, 41, 42, 43, 44, 45, 46, 47, 48, 49, 50, 51, 1, 2, 3, 4, 5, 6, 7, 8, 9, 10, 11, 12, 13, 14, 15, 16, 52]
abbrev new_X5_init_52 : List Nat := [53]
abbrev kz_X5_init_52 : List Nat := [0, 17, 18, 19, 20, 21, 22, 23, 24, 25, 26, 27, 28, 29, 30, 31, 32, 33, 34, 35, 36, 37, 38, 39, 40, 41, 42, 43, 44, 45, 46, 47, 48, 49, 50, 51, 1, 2, 3, 4, 5, 6, 7, 8, 9, 10, 11, 12, 13, 14, 15, 16, 52, 53]
theorem ml_RX5_3 : Cond.methodLink RX5 3 objectInit ∈ lw_g := mg (i := 522) (by decide +kernel) rfl
def nX5_init_52 (M : Mem) : Mem := (pKR (pKI M 52 0 (-1 : Int32)) 52 2 (some 53))
set_option maxRecDepth 100000 in
theorem kX5_init_52 {ad : Nat → Nat} {ca : Nat → ClassId} {D : va_G} {d : Nat} {M : Mem} (hr : Rf ks_X5_init_52 M) (hz : Zr new_X5_init_52 M) : Ck ad ca D yX5_init cX5_init 1 (d + 1) 1 40 ks_X5_init_52 new_X5_init_52 kz_X5_init_52 [vR (some 52)] M (nX5_init_52 M) := by
  refine Ck_of (by decide) rfl (Nat.le_of_ble_eq_true rfl) ?_
  show Jg ad ca D (wsL ad ca ks_X5_init_52) cX5_init RX5 1 (d + 1) (Gk ad ca D new_X5_init_52 kz_X5_init_52 (nX5_init_52 M) 1 40 1 40) 0 [(0, vR (some 52))] [] M
  have hE0 : Ext [] ad ad := Ext.rfl
  refine J_aload_n (pc := 0) (q := 0) rfl rfl dX5_init_0 ?_
  refine K_objInit (pc := 1) ml_RX5_3 oi_1 oi_2 (by omega) (Nat.le_of_ble_eq_true rfl) dX5_init_1 ?_
  refine J_aload_n (pc := 4) (q := 0) rfl rfl dX5_init_4 ?_
  refine J_iconst (pc := 5) (v := (-1 : Int32)) (by decide) dX5_init_5 ?_
  refine K_putI (pc := 6) (p0 := 52) (i := 0) rfl rfl rfl clF5 (by decide) rfl fl_RX5_9 rfl rfl dX5_init_6 ?_
  have hr := Rf.putI (k := 52) (i0 := 0) (x := (-1 : Int32)) hr
  have hz := Zr.putI (k := 52) (i0 := 0) (x := (-1 : Int32)) hz (by decide)
  refine J_aload_n (pc := 9) (q := 0) rfl rfl dX5_init_9 ?_
  refine J_bipush (pc := 10) (v := (40 : Int32)) (by decide) dX5_init_10 ?_
  obtain ⟨hm1, hn1⟩ := hz 53 (by decide)
  refine K_newa0 (pc := 12) (k := 53) (n := 40) (cl := 0) (sl := 0) rfl (by decide) (by decide) (hE0 400 (by decide)).symm hm1 hn1 hr (by decide) (by decide) (by decide) rfl rfl ar_int dX5_init_12 (fun ad1 he1 => ?_)
  have hE1 := Ext.trans hE0 he1
  have hr := Rf.grow (k := 53) hr hn1
  refine K_putRF (pc := 14) (p0 := 52) (i := 2) rfl rfl rfl clF5 (by decide) rfl fl_RX5_15 rfl rfl (Or.inr ⟨_, rfl⟩) dX5_init_14 ?_
  have hr := Rf.put (k := 52) (i0 := 2) (c0 := 53) hr (by decide)
  have hz := Zr.putR (k := 52) (i0 := 2) (x := some 53) hz (by decide)
  exact K_ret (pc := 17) hE1 (hE1 400 (by decide)) dX5_init_17
abbrev ks_X5_init_54 : List Nat := [0, 17, 18, 19, 20, 21, 22, 23, 24, 25, 26, 27, 28, 29, 30, 31, 32, 33, 34, 35, 36, 37, 38, 39, 40, 41, 42, 43, 44, 45, 46, 47, 48, 49, 50, 51, 1, 2, 3, 4, 5, 6, 7, 8, 9, 10, 11, 12, 13, 14, 15, 16, 52, 53, 54]
abbrev new_X5_init_54 : List Nat := [55]
abbrev kz_X5_init_54 : List Nat := [0, 17, 18, 19, 20, 21, 22, 23, 24, 25, 26, 27, 28, 29, 30, 31, 32, 33, 34, 35, 36, 37, 38, 39, 40, 41, 42, 43, 44, 45, 46, 47, 48, 49, 50, 51, 1, 2, 3, 4, 5, 6, 7, 8, 9, 10, 11, 12, 13, 14, 15, 16, 52, 53, 54, 55]
def nX5_init_54 (M : Mem) : Mem := (pKR (pKI M 54 0 (-1 : Int32)) 54 2 (some 55))
set_option maxRecDepth 100000 in
theorem kX5_init_54 {ad : Nat → Nat} {ca : Nat → ClassId} {D : va_G} {d : Nat} {M : Mem} (hr : Rf ks_X5_init_54 M) (hz : Zr new_X5_init_54 M) : Ck ad ca D yX5_init cX5_init 1 (d + 1) 1 40 ks_X5_init_54 new_X5_init_54 kz_X5_init_54 [vR (some 54)] M (nX5_init_54 M) := by
  refine Ck_of (by decide) rfl (Nat.le_of_ble_eq_true rfl) ?_
  show Jg ad ca D (wsL ad ca ks_X5_init_54) cX5_init RX5 1 (d + 1) (Gk ad ca D new_X5_init_54 kz_X5_init_54 (nX5_init_54 M) 1 40 1 40) 0 [(0, vR (some 54))] [] M
  have hE0 : Ext [] ad ad := Ext.rfl
  refine J_aload_n (pc := 0) (q := 0) rfl rfl dX5_init_0 ?_
  refine K_objInit (pc := 1) ml_RX5_3 oi_1 oi_2 (by omega) (Nat.le_of_ble_eq_true rfl) dX5_init_1 ?_
  refine J_aload_n (pc := 4) (q := 0) rfl rfl dX5_init_4 ?_
  refine J_iconst (pc := 5) (v := (-1 : Int32)) (by decide) dX5_init_5 ?_
  refine K_putI (pc := 6) (p0 := 54) (i := 0) rfl rfl rfl clF5 (by decide) rfl fl_RX5_9 rfl rfl dX5_init_6 ?_
  have hr := Rf.putI (k := 54) (i0 := 0) (x := (-1 : Int32)) hr
  have hz := Zr.putI (k := 54) (i0 := 0) (x := (-1 : Int32)) hz (by decide)
  refine J_aload_n (pc := 9) (q := 0) rfl rfl dX5_init_9 ?_
  refine J_bipush (pc := 10) (v := (40 : Int32)) (by decide) dX5_init_10 ?_
  obtain ⟨hm1, hn1⟩ := hz 55 (by decide)
  refine K_newa0 (pc := 12) (k := 55) (n := 40) (cl := 0) (sl := 0) rfl (by decide) (by decide) (hE0 400 (by decide)).symm hm1 hn1 hr (by decide) (by decide) (by decide) rfl rfl ar_int dX5_init_12 (fun ad1 he1 => ?_)
  have hE1 := Ext.trans hE0 he1
  have hr := Rf.grow (k := 55) hr hn1
  refine K_putRF (pc := 14) (p0 := 54) (i := 2) rfl rfl rfl clF5 (by decide) rfl fl_RX5_15 rfl rfl (Or.inr ⟨_, rfl⟩) dX5_init_14 ?_
  have hr := Rf.put (k := 54) (i0 := 2) (c0 := 55) hr (by decide)
  have hz := Zr.putR (k := 54) (i0 := 2) (x := some 55) hz (by decide)
  exact K_ret (pc := 17) hE1 (hE1 400 (by decide)) dX5_init_17
abbrev ks_X5_init_56 : List Nat := [0, 17, 18, 19, 20, 21, 22, 23, 24, 25, 26, 27, 28, 29, 30, 31, 32, 33, 34, 35, 36, 37, 38, 39, 40, 41, 42, 43, 44, 45, 46, 47, 48, 49, 50, 51, 1, 2, 3, 4, 5, 6, 7, 8, 9, 10, 11, 12, 13, 14, 15, 16, 52, 53, 54, 55, 56]
abbrev new_X5_init_56 : List Nat := [57]
abbrev kz_X5_init_56 : List Nat := [0, 17, 18, 19, 20, 21, 22, 23, 24, 25, 26, 27, 28, 29, 30, 31, 32, 33, 34, 35, 36, 37, 38, 39, 40, 41, 42, 43, 44, 45, 46, 47, 48, 49, 50, 51, 1, 2, 3, 4, 5, 6, 7, 8, 9, 10, 11, 12, 13, 14, 15, 16, 52, 53, 54, 55, 56, 57]
def nX5_init_56 (M : Mem) : Mem := (pKR (pKI M 56 0 (-1 : Int32)) 56 2 (some 57))
set_option maxRecDepth 100000 in
theorem kX5_init_56 {ad : Nat → Nat} {ca : Nat → ClassId} {D : va_G} {d : Nat} {M : Mem} (hr : Rf ks_X5_init_56 M) (hz : Zr new_X5_init_56 M) : Ck ad ca D yX5_init cX5_init 1 (d + 1) 1 40 ks_X5_init_56 new_X5_init_56 kz_X5_init_56 [vR (some 56)] M (nX5_init_56 M) := by
  refine Ck_of (by decide) rfl (Nat.le_of_ble_eq_true rfl) ?_
  show Jg ad ca D (wsL ad ca ks_X5_init_56) cX5_init RX5 1 (d + 1) (Gk ad ca D new_X5_init_56 kz_X5_init_56 (nX5_init_56 M) 1 40 1 40) 0 [(0, vR (some 56))] [] M
  have hE0 : Ext [] ad ad := Ext.rfl
  refine J_aload_n (pc := 0) (q := 0) rfl rfl dX5_init_0 ?_
  refine K_objInit (pc := 1) ml_RX5_3 oi_1 oi_2 (by omega) (Nat.le_of_ble_eq_true rfl) dX5_init_1 ?_
  refine J_aload_n (pc := 4) (q := 0) rfl rfl dX5_init_4 ?_
  refine J_iconst (pc := 5) (v := (-1 : Int32)) (by decide) dX5_init_5 ?_
  refine K_putI (pc := 6) (p0 := 56) (i := 0) rfl rfl rfl clF5 (by decide) rfl fl_RX5_9 rfl rfl dX5_init_6 ?_
  have hr := Rf.putI (k := 56) (i0 := 0) (x := (-1 : Int32)) hr
  have hz := Zr.putI (k := 56) (i0 := 0) (x := (-1 : Int32)) hz (by decide)
  refine J_aload_n (pc := 9) (q := 0) rfl rfl dX5_init_9 ?_
  refine J_bipush (pc := 10) (v := (40 : Int32)) (by decide) dX5_init_10 ?_
  obtain ⟨hm1, hn1⟩ := hz 57 (by decide)
  refine K_newa0 (pc := 12) (k := 57) (n := 40) (cl := 0) (sl := 0) rfl (by decide) (by decide) (hE0 400 (by decide)).symm hm1 hn1 hr (by decide) (by decide) (by decide) rfl rfl ar_int dX5_init_12 (fun ad1 he1 => ?_)
  have hE1 := Ext.trans hE0 he1
  have hr := Rf.grow (k := 57) hr hn1
  refine K_putRF (pc := 14) (p0 := 56) (i := 2) rfl rfl rfl clF5 (by decide) rfl fl_RX5_15 rfl rfl (Or.inr ⟨_, rfl⟩) dX5_init_14 ?_
  have hr := Rf.put (k := 56) (i0 := 2) (c0 := 57) hr (by decide)
  have hz := Zr.putR (k := 56) (i0 := 2) (x := some 57) hz (by decide)
  exact K_ret (pc := 17) hE1 (hE1 400 (by decide)) dX5_init_17
abbrev ks_X5_init_58 : List Nat := [0, 17, 18, 19, 20, 21, 22, 23, 24, 25, 26, 27, 28, 29, 30, 31, 32, 33, 34, 35, 36, 37, 38, 39, 40, 41, 42, 43, 44, 45, 46, 47, 48, 49, 50, 51, 1, 2, 3, 4, 5, 6, 7, 8, 9, 10, 11, 12, 13, 14, 15, 16, 52, 53, 54, 55, 56, 57, 58]
abbrev new_X5_init_58 : List Nat := [59]
abbrev kz_X5_init_58 : List Nat := [0, 17, 18, 19, 20, 21, 22, 23, 24, 25, 26, 27, 28, 29, 30, 31, 32, 33, 34, 35, 36, 37, 38, 39, 40, 41, 42, 43, 44, 45, 46, 47, 48, 49, 50, 51, 1, 2, 3, 4, 5, 6, 7, 8, 9, 10, 11, 12, 13, 14, 15, 16, 52, 53, 54, 55, 56, 57, 58, 59]
def nX5_init_58 (M : Mem) : Mem := (pKR (pKI M 58 0 (-1 : Int32)) 58 2 (some 59))
set_option maxRecDepth 100000 in
theorem kX5_init_58 {ad : Nat → Nat} {ca : Nat → ClassId} {D : va_G} {d : Nat} {M : Mem} (hr : Rf ks_X5_init_58 M) (hz : Zr new_X5_init_58 M) : Ck ad ca D yX5_init cX5_init 1 (d + 1) 1 40 ks_X5_init_58 new_X5_init_58 kz_X5_init_58 [vR (some 58)] M (nX5_init_58 M) := by
  refine Ck_of (by decide) rfl (Nat.le_of_ble_eq_true rfl) ?_
  show Jg ad ca D (wsL ad ca ks_X5_init_58) cX5_init RX5 1 (d + 1) (Gk ad ca D new_X5_init_58 kz_X5_init_58 (nX5_init_58 M) 1 40 1 40) 0 [(0, vR (some 58))] [] M
  have hE0 : Ext [] ad ad := Ext.rfl
  refine J_aload_n (pc := 0) (q := 0) rfl rfl dX5_init_0 ?_
  refine K_objInit (pc := 1) ml_RX5_3 oi_1 oi_2 (by omega) (Nat.le_of_ble_eq_true rfl) dX5_init_1 ?_
  refine J_aload_n (pc := 4) (q := 0) rfl rfl dX5_init_4 ?_
  refine J_iconst (pc := 5) (v := (-1 : Int32)) (by decide) dX5_init_5 ?_
  refine K_putI (pc := 6) (p0 := 58) (i := 0) rfl rfl rfl clF5 (by decide) rfl fl_RX5_9 rfl rfl dX5_init_6 ?_
  have hr := Rf.putI (k := 58) (i0 := 0) (x := (-1 : Int32)) hr
  have hz := Zr.putI (k := 58) (i0 := 0) (x := (-1 : Int32)) hz (by decide)
  refine J_aload_n (pc := 9) (q := 0) rfl rfl dX5_init_9 ?_
  refine J_bipush (pc := 10) (v := (40 : Int32)) (by decide) dX5_init_10 ?_
  obtain ⟨hm1, hn1⟩ := hz 59 (by decide)
  refine K_newa0 (pc := 12) (k := 59) (n := 40) (cl := 0) (sl := 0) rfl (by decide) (by decide) (hE0 400 (by decide)).symm hm1 hn1 hr (by decide) (by decide) (by decide) rfl rfl ar_int dX5_init_12 (fun ad1 he1 => ?_)
  have hE1 := Ext.trans hE0 he1
  have hr := Rf.grow (k := 59) hr hn1
  refine K_putRF (pc := 14) (p0 := 58) (i := 2) rfl rfl rfl clF5 (by decide) rfl fl_RX5_15 rfl rfl (Or.inr ⟨_, rfl⟩) dX5_init_14 ?_
  have hr := Rf.put (k := 58) (i0 := 2) (c0 := 59) hr (by decide)
  have hz := Zr.putR (k := 58) (i0 := 2) (x := some 59) hz (by decide)
  exact K_ret (pc := 17) hE1 (hE1 400 (by decide)) dX5_init_17
