abbrev ks_X8_init_0 : List Nat := [0]
abbrev new_X8_init_0 : List Nat := [17, 18, 19, 20, 21, 22, 23, 24, 25, 26, 27, 28, 29, 30, 31, 32, 33, 34, 35, 36, 37, 38, 39, 40, 41, 42, 43, 44, 45, 46, 47, 48, 49, 50, 51, 1, 2, 3, 4, 5, 6, 7, 8, 9, 10, 11, 12, 13, 14, 15, 16, 52, 53, 54, 55, 56, 57, 58, 59]
abbrev kz_X8_init_0 : List Nat := [0, 17, 18, 19, 20, 21, 22, 23, 24, 25, 26, 27, 28, 29, 30, 31, 32, 33, 34, 35, 36, 37, 38, 39, 40, 41, 42, 43, 44, 45, 46, 47, 48, 49, 50, 51, 1, 2, 3, 4, 5, 6, 7, 8, 9, 10, 11, 12, 13, 14, 15, 16, 52, 53, 54, 55, 56, 57, 58, 59]
abbrev zz_X8_init_0 : List Nat := [17, 18, 19, 20, 21, 22, 23, 24, 25, 26, 27, 28, 29, 30, 31, 32, 33, 34, 35, 36, 37, 38, 39, 41, 42, 43, 44, 45, 46, 47, 48, 49, 50, 51, 1, 2, 3, 4, 5, 6, 7, 8, 9, 10, 11, 12, 13, 14, 15, 16, 52, 53, 54, 55, 56, 57, 58, 59]
theorem ml_RX8_3 : Cond.methodLink RX8 3 objectInit ∈ lw_g := mg (i := 147) (by decide +kernel) rfl
theorem cl_RX8_9 : Cond.classLink RX8 9 RX6 ∈ lw_g := mg (i := 150) (by decide +kernel) rfl
theorem in_X6 : Cond.instantiable RX6 19 ∈ lw_g := mg (i := 151) (by decide +kernel) rfl
theorem iz_X6 : Cond.initialized RX6 ∈ lw_g := mg (i := 127) (by decide +kernel) rfl
theorem cf_X6_init : CalF yX6_init cX6_init 1 none 0 := ⟨mg (i := 154) (by decide +kernel) rfl, mg (i := 127) (by decide +kernel) rfl, ⟨by decide, by decide⟩, by decide +kernel, by decide⟩
theorem iv_X6_init : Cond.instanceMethod yX6_init ∈ lw_g := mg (i := 153) (by decide +kernel) rfl
theorem cl_RX8_16 : Cond.classLink RX8 16 RX2 ∈ lw_g := mg (i := 223) (by decide +kernel) rfl
theorem in_X2 : Cond.instantiable RX2 6 ∈ lw_g := mg (i := 224) (by decide +kernel) rfl
theorem iz_X2 : Cond.initialized RX2 ∈ lw_g := mg (i := 128) (by decide +kernel) rfl
theorem cf_X2_init : CalF yX2_init cX2_init 1 none 0 := ⟨mg (i := 227) (by decide +kernel) rfl, mg (i := 128) (by decide +kernel) rfl, ⟨by decide, by decide⟩, by decide +kernel, by decide⟩
theorem iv_X2_init : Cond.instanceMethod yX2_init ∈ lw_g := mg (i := 226) (by decide +kernel) rfl
theorem cl_RX8_23 : Cond.classLink RX8 23 RX1 ∈ lw_g := mg (i := 248) (by decide +kernel) rfl
theorem in_X1 : Cond.instantiable RX1 6 ∈ lw_g := mg (i := 249) (by decide +kernel) rfl
theorem iz_X1 : Cond.initialized RX1 ∈ lw_g := mg (i := 129) (by decide +kernel) rfl
theorem cf_X1_init : CalF yX1_init cX1_init 1 none 0 := ⟨mg (i := 252) (by decide +kernel) rfl, mg (i := 129) (by decide +kernel) rfl, ⟨by decide, by decide⟩, by decide +kernel, by decide⟩
theorem iv_X1_init : Cond.instanceMethod yX1_init ∈ lw_g := mg (i := 251) (by decide +kernel) rfl
theorem cl_RX8_30 : Cond.classLink RX8 30 RX0 ∈ lw_g := mg (i := 274) (by decide +kernel) rfl
theorem in_X0 : Cond.instantiable RX0 7 ∈ lw_g := mg (i := 275) (by decide +kernel) rfl
theorem iz_X0 : Cond.initialized RX0 ∈ lw_g := mg (i := 130) (by decide +kernel) rfl
theorem cf_X0_init : CalF yX0_init cX0_init 1 none 0 := ⟨mg (i := 278) (by decide +kernel) rfl, mg (i := 130) (by decide +kernel) rfl, ⟨by decide, by decide⟩, by decide +kernel, by decide⟩
theorem iv_X0_init : Cond.instanceMethod yX0_init ∈ lw_g := mg (i := 277) (by decide +kernel) rfl
theorem cl_RX8_37 : Cond.classLink RX8 37 RX7 ∈ lw_g := mg (i := 307) (by decide +kernel) rfl
theorem in_X7 : Cond.instantiable RX7 7 ∈ lw_g := mg (i := 308) (by decide +kernel) rfl
theorem iz_X7 : Cond.initialized RX7 ∈ lw_g := mg (i := 131) (by decide +kernel) rfl
theorem cf_X7_init : CalF yX7_init cX7_init 2 none 0 := ⟨mg (i := 311) (by decide +kernel) rfl, mg (i := 131) (by decide +kernel) rfl, ⟨by decide, by decide⟩, by decide +kernel, by decide⟩
theorem ml_RX8_39 : Cond.methodLink RX8 39 yX7_init ∈ lw_g := mg (i := 309) (by decide +kernel) rfl
theorem iv_X7_init : Cond.instanceMethod yX7_init ∈ lw_g := mg (i := 310) (by decide +kernel) rfl
theorem cl_RX8_44 : Cond.classLink RX8 44 RX5 ∈ lw_g := mg (i := 440) (by decide +kernel) rfl
theorem ml_RX8_57 : Cond.methodLink RX8 57 yJ9_floorMod_7cf53 ∈ lw_g := mg (i := 442) (by decide +kernel) rfl
theorem cf_J9_floorMod_7cf53 : CalF yJ9_floorMod_7cf53 cJ9_floorMod_7cf53 3 (some .int) 2 := ⟨mg (i := 444) (by decide +kernel) rfl, mg (i := 134) (by decide +kernel) rfl, ⟨by decide, by decide⟩, by decide +kernel, by decide⟩
theorem cv_J9_floorMod_7cf53 : Cond.static yJ9_floorMod_7cf53 ∈ lw_g := mg (i := 443) (by decide +kernel) rfl
theorem cl_RX8_63 : Cond.classLink RX8 63 RX3 ∈ lw_g := mg (i := 445) (by decide +kernel) rfl
theorem in_X3 : Cond.instantiable RX3 13 ∈ lw_g := mg (i := 446) (by decide +kernel) rfl
theorem iz_X3 : Cond.initialized RX3 ∈ lw_g := mg (i := 138) (by decide +kernel) rfl
theorem cf_X3_init : CalF yX3_init cX3_init 2 none 1 := ⟨mg (i := 449) (by decide +kernel) rfl, mg (i := 138) (by decide +kernel) rfl, ⟨by decide, by decide⟩, by decide +kernel, by decide⟩
theorem ml_RX8_65 : Cond.methodLink RX8 65 yX3_init ∈ lw_g := mg (i := 447) (by decide +kernel) rfl
theorem iv_X3_init : Cond.instanceMethod yX3_init ∈ lw_g := mg (i := 448) (by decide +kernel) rfl
theorem in_X5 : Cond.instantiable RX5 3 ∈ lw_g := mg (i := 518) (by decide +kernel) rfl
theorem iz_X5 : Cond.initialized RX5 ∈ lw_g := mg (i := 139) (by decide +kernel) rfl
theorem cf_X5_init : CalF yX5_init cX5_init 1 none 0 := ⟨mg (i := 521) (by decide +kernel) rfl, mg (i := 139) (by decide +kernel) rfl, ⟨by decide, by decide⟩, by decide +kernel, by decide⟩
theorem iv_X5_init : Cond.instanceMethod yX5_init ∈ lw_g := mg (i := 520) (by decide +kernel) rfl
def n8 (x1 : Int32) (M : Mem) : Mem := (pKR (nX5_init_58 (pKR (nX5_init_56 (pKR (nX5_init_54 (pKR (nX5_init_52 (pKR (nX3_init_9 ((3 : Int32) + fmJ x1 (6 : Int32)) (pKR (nX3_init_1 ((3 : Int32) + fmJ x1 (6 : Int32)) (pKI (pKI (pKR (pKR (nX7_init (pKR (nX0_init_35 (pKR (nX1_init_31 (pKR (nX2_init_28 (pKR (nX6_init_17 M) 0 2 (some 17))) 0 3 (some 28))) 0 4 (some 31))) 0 5 (some 35))) 0 6 (some 38)) 0 7 (some 51)) 0 8 (-1 : Int32)) 0 9 (-1 : Int32))) 0 0 (some 1))) 0 1 (some 9))) 51 (0 : Int32).toNatClampNeg (some 52))) 51 (1 : Int32).toNatClampNeg (some 54))) 51 (2 : Int32).toNatClampNeg (some 56))) 51 (3 : Int32).toNatClampNeg (some 58))
set_option maxRecDepth 100000 in
set_option maxHeartbeats 8000000 in
theorem kX8_init_0 {ad : Nat → Nat} {ca : Nat → ClassId} {D : va_G} {d : Nat} {M : Mem} {x1 : Int32} (hr : Rf ks_X8_init_0 M) (hz : Zr zz_X8_init_0 M) (h40 : H40 M) : Ck ad ca D yX8_init cX8_init 4 (d + 6) 59 50302 ks_X8_init_0 new_X8_init_0 kz_X8_init_0 [vR (some 0), vI x1] M (n8 x1 M) := by
  refine Ck_of (by decide) rfl (Nat.le_of_ble_eq_true rfl) ?_
  show Jg ad ca D (wsL ad ca ks_X8_init_0) cX8_init RX8 4 (d + 6) (Gk ad ca D new_X8_init_0 kz_X8_init_0 (n8 x1 M) 59 50302 59 50302) 0 [(0, vR (some 0)), (1, vI x1)] [] M
  have hE0 : Ext [] ad ad := Ext.rfl
  refine J_aload_n (pc := 0) (q := 0) rfl rfl dX8_init_0 ?_
  refine K_objInit (pc := 1) ml_RX8_3 oi_1 oi_2 (by omega) (Nat.le_of_ble_eq_true rfl) dX8_init_1 ?_
  refine J_aload_n (pc := 4) (q := 0) rfl rfl dX8_init_4 ?_
  obtain ⟨hm1, hn1⟩ := hz 17 (by decide)
  refine K_new (pc := 5) (k := 17) (ci := 6) (Gk_stp (cl := 58) (sl := 50283) (c1 := 1) (s1 := 19) (hE0 400 (by decide)).symm) rfl (by decide) (by decide) hm1 hn1 hr clF6 df_X6 rfl rfl cl_RX8_9 in_X6 iz_X6 dX8_init_5 (fun ad1 he1 => ?_)
  have hE1 := Ext.trans hE0 he1
  have hr := Rf.grow (k := 17) hr hn1
  have hz := Zr.tl hz
  refine J_dup (pc := 8) rfl dX8_init_8 ?_
  have hza : Zr new_X6_init_17 _ := hz.sub (by decide)
  have hzb : Zr [28, 29, 30, 31, 32, 33, 34, 35, 36, 37, 38, 39, 41, 42, 43, 44, 45, 46, 47, 48, 49, 50, 51, 1, 2, 3, 4, 5, 6, 7, 8, 9, 10, 11, 12, 13, 14, 15, 16, 52, 53, 54, 55, 56, 57, 58, 59] _ := hz.sub (by decide)
  refine K_callN (pc := 9) (k := 17) (as := []) (new1 := new_X6_init_17) (N1 := nX6_init_17 _) (fun s h => h.1) (Gk_stp (cl := 48) (sl := 9717) (c1 := 10) (s1 := 40566) (hE1 400 (by decide)).symm) (kX6_init_17 (d := d) hr hza) (by intro j hj h9; revert h9; intro h9; have := List.all_eq_true.mp (show new_X6_init_17.all (fun z => decide (z < 200)) = true from rfl) j h9; have := of_decide_eq_true this; omega) cf_X6_init rfl iv_X6_init rfl rfl (by omega) (Nat.le_of_ble_eq_true rfl) dX8_init_9 (fun ad2 he2 => ?_)
  have hE2 := Ext.trans hE1 he2
  have hr := rf_X6_init_17 hr hza
  have hz := zr_X6_init_17 hzb (by decide)
  have h40 := hf_X6_init_17 h40
  refine K_putRFk (pc := 12) (p0 := 0) (i := 2) rfl rfl rfl clF8 (by decide) rfl fl_RX8_12 rfl rfl (Or.inl ⟨_, rfl⟩) dX8_init_12 ?_
  have hr := Rf.pR (k := 0) (i0 := 2) (c0 := 17) hr (by decide)
  have hz := Zr.pR (k := 0) (i0 := 2) (x := some 17) hz (by decide)
  have h40 := H40.pR (k := 0) (i0 := 2) (x := some 17) h40 (by decide)
  refine J_aload_n (pc := 15) (q := 0) rfl rfl dX8_init_15 ?_
  obtain ⟨hm3, hn3⟩ := hz 28 (by decide)
  refine K_new (pc := 16) (k := 28) (ci := 2) (Gk_stp (cl := 47) (sl := 9711) (c1 := 1) (s1 := 6) (hE2 400 (by decide)).symm) rfl (by decide) (by decide) hm3 hn3 hr clF2 df_X2 rfl rfl cl_RX8_16 in_X2 iz_X2 dX8_init_16 (fun ad3 he3 => ?_)
  have hE3 := Ext.trans hE2 he3
  have hr := Rf.grow (k := 28) hr hn3
  have hz := Zr.tl hz
  refine J_dup (pc := 19) rfl dX8_init_19 ?_
  have hza : Zr new_X2_init_28 _ := hz.sub (by decide)
  have hzb : Zr [31, 32, 33, 34, 35, 36, 37, 38, 39, 41, 42, 43, 44, 45, 46, 47, 48, 49, 50, 51, 1, 2, 3, 4, 5, 6, 7, 8, 9, 10, 11, 12, 13, 14, 15, 16, 52, 53, 54, 55, 56, 57, 58, 59] _ := hz.sub (by decide)
  refine K_callN (pc := 20) (k := 28) (as := []) (new1 := new_X2_init_28) (N1 := nX2_init_28 _) (fun s h => h.2.1) (Gk_stp (cl := 45) (sl := 9639) (c1 := 2) (s1 := 72) (hE3 400 (by decide)).symm) (kX2_init_28 (d := d) hr hza) (by intro j hj h9; revert h9; intro h9; have := List.all_eq_true.mp (show new_X2_init_28.all (fun z => decide (z < 200)) = true from rfl) j h9; have := of_decide_eq_true this; omega) cf_X2_init rfl iv_X2_init rfl rfl (by omega) (Nat.le_of_ble_eq_true rfl) dX8_init_20 (fun ad4 he4 => ?_)
  have hE4 := Ext.trans hE3 he4
  have hr := rf_X2_init_28 hr hza
  have hz := zr_X2_init_28 hzb (by decide)
  have h40 := hf_X2_init_28 h40
  refine K_putRFk (pc := 23) (p0 := 0) (i := 3) rfl rfl rfl clF8 (by decide) rfl fl_RX8_19 rfl rfl (Or.inl ⟨_, rfl⟩) dX8_init_23 ?_
  have hr := Rf.pR (k := 0) (i0 := 3) (c0 := 28) hr (by decide)
  have hz := Zr.pR (k := 0) (i0 := 3) (x := some 28) hz (by decide)
  have h40 := H40.pR (k := 0) (i0 := 3) (x := some 28) h40 (by decide)
  refine J_aload_n (pc := 26) (q := 0) rfl rfl dX8_init_26 ?_
  obtain ⟨hm5, hn5⟩ := hz 31 (by decide)
  refine K_new (pc := 27) (k := 31) (ci := 1) (Gk_stp (cl := 44) (sl := 9633) (c1 := 1) (s1 := 6) (hE4 400 (by decide)).symm) rfl (by decide) (by decide) hm5 hn5 hr clF1 df_X1 rfl rfl cl_RX8_23 in_X1 iz_X1 dX8_init_27 (fun ad5 he5 => ?_)
  have hE5 := Ext.trans hE4 he5
  have hr := Rf.grow (k := 31) hr hn5
  have hz := Zr.tl hz
  refine J_dup (pc := 30) rfl dX8_init_30 ?_
  have hza : Zr new_X1_init_31 _ := hz.sub (by decide)
  have hzb : Zr [35, 36, 37, 38, 39, 41, 42, 43, 44, 45, 46, 47, 48, 49, 50, 51, 1, 2, 3, 4, 5, 6, 7, 8, 9, 10, 11, 12, 13, 14, 15, 16, 52, 53, 54, 55, 56, 57, 58, 59] _ := hz.sub (by decide)
  refine K_callN (pc := 31) (k := 31) (as := []) (new1 := new_X1_init_31) (N1 := nX1_init_31 _) (fun s h => h.2.2.1) (Gk_stp (cl := 41) (sl := 1377) (c1 := 3) (s1 := 8256) (hE5 400 (by decide)).symm) (kX1_init_31 (d := d) hr hza) (by intro j hj h9; revert h9; intro h9; have := List.all_eq_true.mp (show new_X1_init_31.all (fun z => decide (z < 200)) = true from rfl) j h9; have := of_decide_eq_true this; omega) cf_X1_init rfl iv_X1_init rfl rfl (by omega) (Nat.le_of_ble_eq_true rfl) dX8_init_31 (fun ad6 he6 => ?_)
  have hE6 := Ext.trans hE5 he6
  have hr := rf_X1_init_31 hr hza
  have hz := zr_X1_init_31 hzb (by decide)
  have h40 := hf_X1_init_31 h40
  refine K_putRFk (pc := 34) (p0 := 0) (i := 4) rfl rfl rfl clF8 (by decide) rfl fl_RX8_26 rfl rfl (Or.inl ⟨_, rfl⟩) dX8_init_34 ?_
  have hr := Rf.pR (k := 0) (i0 := 4) (c0 := 31) hr (by decide)
  have hz := Zr.pR (k := 0) (i0 := 4) (x := some 31) hz (by decide)
  have h40 := H40.pR (k := 0) (i0 := 4) (x := some 31) h40 (by decide)
  refine J_aload_n (pc := 37) (q := 0) rfl rfl dX8_init_37 ?_
  obtain ⟨hm7, hn7⟩ := hz 35 (by decide)
  refine K_new (pc := 38) (k := 35) (ci := 0) (Gk_stp (cl := 40) (sl := 1370) (c1 := 1) (s1 := 7) (hE6 400 (by decide)).symm) rfl (by decide) (by decide) hm7 hn7 hr clF0 df_X0 rfl rfl cl_RX8_30 in_X0 iz_X0 dX8_init_38 (fun ad7 he7 => ?_)
  have hE7 := Ext.trans hE6 he7
  have hr := Rf.grow (k := 35) hr hn7
  have hz := Zr.tl hz
  refine J_dup (pc := 41) rfl dX8_init_41 ?_
  have hza : Zr new_X0_init_35 _ := hz.sub (by decide)
  have hzb : Zr [38, 39, 41, 42, 43, 44, 45, 46, 47, 48, 49, 50, 51, 1, 2, 3, 4, 5, 6, 7, 8, 9, 10, 11, 12, 13, 14, 15, 16, 52, 53, 54, 55, 56, 57, 58, 59] _ := hz.sub (by decide)
  refine K_callN (pc := 42) (k := 35) (as := []) (new1 := new_X0_init_35) (N1 := nX0_init_35 _) (fun s h => h.2.2.2.1) (Gk_stp (cl := 38) (sl := 1242) (c1 := 2) (s1 := 128) (hE7 400 (by decide)).symm) (kX0_init_35 (d := d) hr hza) (by intro j hj h9; revert h9; intro h9; have := List.all_eq_true.mp (show new_X0_init_35.all (fun z => decide (z < 200)) = true from rfl) j h9; have := of_decide_eq_true this; omega) cf_X0_init rfl iv_X0_init rfl rfl (by omega) (Nat.le_of_ble_eq_true rfl) dX8_init_42 (fun ad8 he8 => ?_)
  have hE8 := Ext.trans hE7 he8
  have hr := rf_X0_init_35 hr hza
  have hz := zr_X0_init_35 hzb (by decide)
  have h40 := hf_X0_init_35 h40
  refine K_putRFk (pc := 45) (p0 := 0) (i := 5) rfl rfl rfl clF8 (by decide) rfl fl_RX8_33 rfl rfl (Or.inl ⟨_, rfl⟩) dX8_init_45 ?_
  have hr := Rf.pR (k := 0) (i0 := 5) (c0 := 35) hr (by decide)
  have hz := Zr.pR (k := 0) (i0 := 5) (x := some 35) hz (by decide)
  have h40 := H40.pR (k := 0) (i0 := 5) (x := some 35) h40 (by decide)
  refine J_aload_n (pc := 48) (q := 0) rfl rfl dX8_init_48 ?_
  obtain ⟨hm9, hn9⟩ := hz 38 (by decide)
  refine K_new (pc := 49) (k := 38) (ci := 7) (Gk_stp (cl := 37) (sl := 1235) (c1 := 1) (s1 := 7) (hE8 400 (by decide)).symm) rfl (by decide) (by decide) hm9 hn9 hr clF7 df_X7 rfl rfl cl_RX8_37 in_X7 iz_X7 dX8_init_49 (fun ad9 he9 => ?_)
  have hE9 := Ext.trans hE8 he9
  have hr := Rf.grow (k := 38) hr hn9
  have hz := Zr.tl hz
  refine J_dup (pc := 52) rfl dX8_init_52 ?_
  have hzq : Zr zz_X7_init_38 _ := hz.sub (by decide)
  have hrq := rf_X7_init_38 hr hzq h40
  have hzb : Zr [51, 1, 2, 3, 4, 5, 6, 7, 8, 9, 10, 11, 12, 13, 14, 15, 16, 52, 53, 54, 55, 56, 57, 58, 59] _ := hz.sub (by decide)
  refine K_call (pc := 53) (k := 38) (as := []) (new1 := new_X7_init_38) (N1 := nX7_init _) ml_RX8_39 (Gk_stp (cl := 25) (sl := 366) (c1 := 12) (s1 := 869) (hE9 400 (by decide)).symm) (kX7_init_38 (d := d) hr hzq h40) (by intro j hj h9; revert h9; intro h9; have := List.all_eq_true.mp (show new_X7_init_38.all (fun z => decide (z < 200)) = true from rfl) j h9; have := of_decide_eq_true this; omega) cf_X7_init rfl iv_X7_init rfl rfl (by omega) (Nat.le_of_ble_eq_true rfl) dX8_init_53 (fun ad10 he10 => ?_)
  have hE10 := Ext.trans hE9 he10
  have hr := hrq
  have hz := zr_X7_init_38 hzb (by decide) (by decide) (by decide) (by decide)
  refine K_putRFk (pc := 56) (p0 := 0) (i := 6) rfl rfl rfl clF8 (by decide) rfl fl_RX8_40 rfl rfl (Or.inl ⟨_, rfl⟩) dX8_init_56 ?_
  have hr := Rf.pR (k := 0) (i0 := 6) (c0 := 38) hr (by decide)
  have hz := Zr.pR (k := 0) (i0 := 6) (x := some 38) hz (by decide)
  refine J_aload_n (pc := 59) (q := 0) rfl rfl dX8_init_59 ?_
  refine J_iconst (pc := 60) (v := (4 : Int32)) (by decide) dX8_init_60 ?_
  obtain ⟨hm11, hn11⟩ := hz 51 (by decide)
  refine K_anew (pc := 61) (k := 51) (n := 4) (Gk_stp (cl := 24) (sl := 362) (c1 := 1) (s1 := 4) (hE10 400 (by decide)).symm) rfl (by decide) (by decide) hn11 hr (by decide) (by decide) (by decide) rfl rfl cl_RX8_44 dX8_init_61 (fun ad11 he11 => ?_)
  have hE11 := Ext.trans hE10 he11
  have hr := Rf.grow (k := 51) hr hn11
  have hz := Zr.tl hz
  refine K_putRFk (pc := 64) (p0 := 0) (i := 7) rfl rfl rfl clF8 (by decide) rfl fl_RX8_46 rfl rfl (Or.inr ⟨_, rfl⟩) dX8_init_64 ?_
  have hr := Rf.pR (k := 0) (i0 := 7) (c0 := 51) hr (by decide)
  have hz := Zr.pR (k := 0) (i0 := 7) (x := some 51) hz (by decide)
  refine J_aload_n (pc := 67) (q := 0) rfl rfl dX8_init_67 ?_
  refine J_iconst (pc := 68) (v := (-1 : Int32)) (by decide) dX8_init_68 ?_
  refine K_putIk (pc := 69) (p0 := 0) (i := 8) rfl rfl rfl clF8 (by decide) rfl fl_RX8_50 rfl rfl dX8_init_69 ?_
  have hr := Rf.pI (k := 0) (i0 := 8) (x := (-1 : Int32)) hr
  have hz := Zr.pI (k := 0) (i0 := 8) (x := (-1 : Int32)) hz (by decide)
  refine J_aload_n (pc := 72) (q := 0) rfl rfl dX8_init_72 ?_
  refine J_iconst (pc := 73) (v := (-1 : Int32)) (by decide) dX8_init_73 ?_
  refine K_putIk (pc := 74) (p0 := 0) (i := 9) rfl rfl rfl clF8 (by decide) rfl fl_RX8_54 rfl rfl dX8_init_74 ?_
  have hr := Rf.pI (k := 0) (i0 := 9) (x := (-1 : Int32)) hr
  have hz := Zr.pI (k := 0) (i0 := 9) (x := (-1 : Int32)) hz (by decide)
  refine J_iconst (pc := 77) (v := (3 : Int32)) (by decide) dX8_init_77 ?_
  refine J_iload_n (pc := 78) (q := 1) rfl rfl dX8_init_78 ?_
  refine J_bipush (pc := 79) (v := (6 : Int32)) (by decide) dX8_init_79 ?_
  refine J_callSI (pc := 81) (as := [vI x1, vI (6 : Int32)]) (tJ9_floorMod (d := d) (by decide)) cf_J9_floorMod_7cf53 cv_J9_floorMod_7cf53 ml_RX8_57 (by omega) (Nat.le_of_ble_eq_true rfl) dX8_init_81 ?_
  refine J_iadd (pc := 84) dX8_init_84 ?_
  refine J_istore_n (pc := 85) rfl (by decide) (lv' := [(0, vR (some 0)), (1, vI x1), (2, vI ((3 : Int32) + fmJ x1 (6 : Int32)))]) rfl dX8_init_85 ?_
  refine J_aload_n (pc := 86) (q := 0) rfl rfl dX8_init_86 ?_
  obtain ⟨hm12, hn12⟩ := hz 1 (by decide)
  refine K_new (pc := 87) (k := 1) (ci := 3) (Gk_stp (cl := 23) (sl := 349) (c1 := 1) (s1 := 13) (hE11 400 (by decide)).symm) rfl (by decide) (by decide) hm12 hn12 hr clF3 df_X3 rfl rfl cl_RX8_63 in_X3 iz_X3 dX8_init_87 (fun ad12 he12 => ?_)
  have hE12 := Ext.trans hE11 he12
  have hr := Rf.grow (k := 1) hr hn12
  have hz := Zr.tl hz
  refine J_dup (pc := 90) rfl dX8_init_90 ?_
  refine J_iload_n (pc := 91) (q := 2) rfl rfl dX8_init_91 ?_
  have hza : Zr new_X3_init_1 _ := hz.sub (by decide)
  have hzb : Zr [9, 10, 11, 12, 13, 14, 15, 16, 52, 53, 54, 55, 56, 57, 58, 59] _ := hz.sub (by decide)
  refine K_call (pc := 92) (k := 1) (as := [vI ((3 : Int32) + fmJ x1 (6 : Int32))]) (new1 := new_X3_init_1) (N1 := nX3_init_1 ((3 : Int32) + fmJ x1 (6 : Int32)) _) ml_RX8_65 (Gk_stp (cl := 16) (sl := 267) (c1 := 7) (s1 := 82) (hE12 400 (by decide)).symm) (kX3_init_1 (d := d) hr hza) (by intro j hj h9; revert h9; intro h9; have := List.all_eq_true.mp (show new_X3_init_1.all (fun z => decide (z < 200)) = true from rfl) j h9; have := of_decide_eq_true this; omega) cf_X3_init rfl iv_X3_init rfl rfl (by omega) (Nat.le_of_ble_eq_true rfl) dX8_init_92 (fun ad13 he13 => ?_)
  have hE13 := Ext.trans hE12 he13
  have hr := rf_X3_init_1 (x1 := ((3 : Int32) + fmJ x1 (6 : Int32))) hr hza
  have hz := zr_X3_init_1 (x1 := ((3 : Int32) + fmJ x1 (6 : Int32))) hzb (by decide)
  refine K_putRFk (pc := 95) (p0 := 0) (i := 0) rfl rfl rfl clF8 (by decide) rfl fl_RX8_68 rfl rfl (Or.inl ⟨_, rfl⟩) dX8_init_95 ?_
  have hr := Rf.pR (k := 0) (i0 := 0) (c0 := 1) hr (by decide)
  have hz := Zr.pR (k := 0) (i0 := 0) (x := some 1) hz (by decide)
  refine J_aload_n (pc := 98) (q := 0) rfl rfl dX8_init_98 ?_
  obtain ⟨hm14, hn14⟩ := hz 9 (by decide)
  refine K_new (pc := 99) (k := 9) (ci := 3) (Gk_stp (cl := 15) (sl := 254) (c1 := 1) (s1 := 13) (hE13 400 (by decide)).symm) rfl (by decide) (by decide) hm14 hn14 hr clF3 df_X3 rfl rfl cl_RX8_63 in_X3 iz_X3 dX8_init_99 (fun ad14 he14 => ?_)
  have hE14 := Ext.trans hE13 he14
  have hr := Rf.grow (k := 9) hr hn14
  have hz := Zr.tl hz
  refine J_dup (pc := 102) rfl dX8_init_102 ?_
  refine J_iload_n (pc := 103) (q := 2) rfl rfl dX8_init_103 ?_
  have hza : Zr new_X3_init_9 _ := hz.sub (by decide)
  have hzb : Zr [52, 53, 54, 55, 56, 57, 58, 59] _ := hz.sub (by decide)
  refine K_call (pc := 104) (k := 9) (as := [vI ((3 : Int32) + fmJ x1 (6 : Int32))]) (new1 := new_X3_init_9) (N1 := nX3_init_9 ((3 : Int32) + fmJ x1 (6 : Int32)) _) ml_RX8_65 (Gk_stp (cl := 8) (sl := 172) (c1 := 7) (s1 := 82) (hE14 400 (by decide)).symm) (kX3_init_9 (d := d) hr hza) (by intro j hj h9; revert h9; intro h9; have := List.all_eq_true.mp (show new_X3_init_9.all (fun z => decide (z < 200)) = true from rfl) j h9; have := of_decide_eq_true this; omega) cf_X3_init rfl iv_X3_init rfl rfl (by omega) (Nat.le_of_ble_eq_true rfl) dX8_init_104 (fun ad15 he15 => ?_)
  have hE15 := Ext.trans hE14 he15
  have hr := rf_X3_init_9 (x1 := ((3 : Int32) + fmJ x1 (6 : Int32))) hr hza
  have hz := zr_X3_init_9 (x1 := ((3 : Int32) + fmJ x1 (6 : Int32))) hzb (by decide)
  refine K_putRFk (pc := 107) (p0 := 0) (i := 1) rfl rfl rfl clF8 (by decide) rfl fl_RX8_72 rfl rfl (Or.inl ⟨_, rfl⟩) dX8_init_107 ?_
  have hr := Rf.pR (k := 0) (i0 := 1) (c0 := 9) hr (by decide)
  have hz := Zr.pR (k := 0) (i0 := 1) (x := some 9) hz (by decide)
  refine J_iconst (pc := 110) (v := (0 : Int32)) (by decide) dX8_init_110 ?_
  refine J_istore_n (pc := 111) rfl (by decide) (lv' := [(0, vR (some 0)), (1, vI x1), (2, vI ((3 : Int32) + fmJ x1 (6 : Int32))), (3, vI (0 : Int32))]) rfl dX8_init_111 ?_
  refine J_iload_n (pc := 112) (q := 3) rfl rfl dX8_init_112 ?_
  refine J_iconst (pc := 113) (v := (4 : Int32)) (by decide) dX8_init_113 ?_
  refine J_icge (pc := 114) (tgt := 136) (by decide) dX8_init_114 (fun hc => absurd hc (by decide)) (fun _ => ?_)
  refine J_aload_n (pc := 117) (q := 0) rfl rfl dX8_init_117 ?_
  refine K_getRv (pc := 118) (p0 := 0) (i := 7) (r := some 51) rfl rfl rfl clF8 (by decide) rfl fl_RX8_46 dX8_init_118 ?_
  refine J_iload_n (pc := 121) (q := 3) rfl rfl dX8_init_121 ?_
  obtain ⟨hm16, hn16⟩ := hz 52 (by decide)
  refine K_new (pc := 122) (k := 52) (ci := 5) (Gk_stp (cl := 7) (sl := 169) (c1 := 1) (s1 := 3) (hE15 400 (by decide)).symm) rfl (by decide) (by decide) hm16 hn16 hr clF5 df_X5 rfl rfl cl_RX8_44 in_X5 iz_X5 dX8_init_122 (fun ad16 he16 => ?_)
  have hE16 := Ext.trans hE15 he16
  have hr := Rf.grow (k := 52) hr hn16
  have hz := Zr.tl hz
  refine J_dup (pc := 125) rfl dX8_init_125 ?_
  have hza : Zr new_X5_init_52 _ := hz.sub (by decide)
  have hzb : Zr [54, 55, 56, 57, 58, 59] _ := hz.sub (by decide)
  refine K_callN (pc := 126) (k := 52) (as := []) (new1 := new_X5_init_52) (N1 := nX5_init_52 _) (fun s h => h.2.2.2.2.1) (Gk_stp (cl := 6) (sl := 129) (c1 := 1) (s1 := 40) (hE16 400 (by decide)).symm) (kX5_init_52 (d := d) hr hza) (by intro j hj h9; revert h9; intro h9; have := List.all_eq_true.mp (show new_X5_init_52.all (fun z => decide (z < 200)) = true from rfl) j h9; have := of_decide_eq_true this; omega) cf_X5_init rfl iv_X5_init rfl rfl (by omega) (Nat.le_of_ble_eq_true rfl) dX8_init_126 (fun ad17 he17 => ?_)
  have hE17 := Ext.trans hE16 he17
  have hr := rf_X5_init_52 hr hza
  have hz := zr_X5_init_52 hzb (by decide)
  refine K_aast (pc := 129) (p0 := 35) (p1 := 52) (k := 51) (v := 52) (n := 4) rfl rfl rfl rfl rfl (vp_dec (by decide)) dX8_init_129 ?_
  have hr := Rf.pR (k := 51) (i0 := (0 : Int32).toNatClampNeg) (c0 := 52) hr (by decide)
  have hz := Zr.pR (k := 51) (i0 := (0 : Int32).toNatClampNeg) (x := some 52) hz (by decide)
  refine J_iinc (pc := 130) (q := 3) (v := (1 : Int32)) rfl (by decide) (by decide) (lv' := [(0, vR (some 0)), (1, vI x1), (2, vI ((3 : Int32) + fmJ x1 (6 : Int32))), (3, vI (1 : Int32))]) rfl dX8_init_130 ?_
  refine J_goto (pc := 133) (tgt := 112) (by decide) dX8_init_133 ?_
  refine J_iload_n (pc := 112) (q := 3) rfl rfl dX8_init_112 ?_
  refine J_iconst (pc := 113) (v := (4 : Int32)) (by decide) dX8_init_113 ?_
  refine J_icge (pc := 114) (tgt := 136) (by decide) dX8_init_114 (fun hc => absurd hc (by decide)) (fun _ => ?_)
  refine J_aload_n (pc := 117) (q := 0) rfl rfl dX8_init_117 ?_
  refine K_getRv (pc := 118) (p0 := 0) (i := 7) (r := some 51) rfl rfl rfl clF8 (by decide) rfl fl_RX8_46 dX8_init_118 ?_
  refine J_iload_n (pc := 121) (q := 3) rfl rfl dX8_init_121 ?_
  obtain ⟨hm18, hn18⟩ := hz 54 (by decide)
  refine K_new (pc := 122) (k := 54) (ci := 5) (Gk_stp (cl := 5) (sl := 126) (c1 := 1) (s1 := 3) (hE17 400 (by decide)).symm) rfl (by decide) (by decide) hm18 hn18 hr clF5 df_X5 rfl rfl cl_RX8_44 in_X5 iz_X5 dX8_init_122 (fun ad18 he18 => ?_)
  have hE18 := Ext.trans hE17 he18
  have hr := Rf.grow (k := 54) hr hn18
  have hz := Zr.tl hz
  refine J_dup (pc := 125) rfl dX8_init_125 ?_
  have hza : Zr new_X5_init_54 _ := hz.sub (by decide)
  have hzb : Zr [56, 57, 58, 59] _ := hz.sub (by decide)
  refine K_callN (pc := 126) (k := 54) (as := []) (new1 := new_X5_init_54) (N1 := nX5_init_54 _) (fun s h => h.2.2.2.2.1) (Gk_stp (cl := 4) (sl := 86) (c1 := 1) (s1 := 40) (hE18 400 (by decide)).symm) (kX5_init_54 (d := d) hr hza) (by intro j hj h9; revert h9; intro h9; have := List.all_eq_true.mp (show new_X5_init_54.all (fun z => decide (z < 200)) = true from rfl) j h9; have := of_decide_eq_true this; omega) cf_X5_init rfl iv_X5_init rfl rfl (by omega) (Nat.le_of_ble_eq_true rfl) dX8_init_126 (fun ad19 he19 => ?_)
  have hE19 := Ext.trans hE18 he19
  have hr := rf_X5_init_54 hr hza
  have hz := zr_X5_init_54 hzb (by decide)
  refine K_aast (pc := 129) (p0 := 35) (p1 := 54) (k := 51) (v := 54) (n := 4) rfl rfl rfl rfl rfl (vp_dec (by decide)) dX8_init_129 ?_
  have hr := Rf.pR (k := 51) (i0 := (1 : Int32).toNatClampNeg) (c0 := 54) hr (by decide)
  have hz := Zr.pR (k := 51) (i0 := (1 : Int32).toNatClampNeg) (x := some 54) hz (by decide)
  refine J_iinc (pc := 130) (q := 3) (v := (2 : Int32)) rfl (by decide) (by decide) (lv' := [(0, vR (some 0)), (1, vI x1), (2, vI ((3 : Int32) + fmJ x1 (6 : Int32))), (3, vI (2 : Int32))]) rfl dX8_init_130 ?_
  refine J_goto (pc := 133) (tgt := 112) (by decide) dX8_init_133 ?_
  refine J_iload_n (pc := 112) (q := 3) rfl rfl dX8_init_112 ?_
  refine J_iconst (pc := 113) (v := (4 : Int32)) (by decide) dX8_init_113 ?_
  refine J_icge (pc := 114) (tgt := 136) (by decide) dX8_init_114 (fun hc => absurd hc (by decide)) (fun _ => ?_)
  refine J_aload_n (pc := 117) (q := 0) rfl rfl dX8_init_117 ?_
  refine K_getRv (pc := 118) (p0 := 0) (i := 7) (r := some 51) rfl rfl rfl clF8 (by decide) rfl fl_RX8_46 dX8_init_118 ?_
  refine J_iload_n (pc := 121) (q := 3) rfl rfl dX8_init_121 ?_
  obtain ⟨hm20, hn20⟩ := hz 56 (by decide)
  refine K_new (pc := 122) (k := 56) (ci := 5) (Gk_stp (cl := 3) (sl := 83) (c1 := 1) (s1 := 3) (hE19 400 (by decide)).symm) rfl (by decide) (by decide) hm20 hn20 hr clF5 df_X5 rfl rfl cl_RX8_44 in_X5 iz_X5 dX8_init_122 (fun ad20 he20 => ?_)
  have hE20 := Ext.trans hE19 he20
  have hr := Rf.grow (k := 56) hr hn20
  have hz := Zr.tl hz
  refine J_dup (pc := 125) rfl dX8_init_125 ?_
  have hza : Zr new_X5_init_56 _ := hz.sub (by decide)
  have hzb : Zr [58, 59] _ := hz.sub (by decide)
  refine K_callN (pc := 126) (k := 56) (as := []) (new1 := new_X5_init_56) (N1 := nX5_init_56 _) (fun s h => h.2.2.2.2.1) (Gk_stp (cl := 2) (sl := 43) (c1 := 1) (s1 := 40) (hE20 400 (by decide)).symm) (kX5_init_56 (d := d) hr hza) (by intro j hj h9; revert h9; intro h9; have := List.all_eq_true.mp (show new_X5_init_56.all (fun z => decide (z < 200)) = true from rfl) j h9; have := of_decide_eq_true this; omega) cf_X5_init rfl iv_X5_init rfl rfl (by omega) (Nat.le_of_ble_eq_true rfl) dX8_init_126 (fun ad21 he21 => ?_)
  have hE21 := Ext.trans hE20 he21
  have hr := rf_X5_init_56 hr hza
  have hz := zr_X5_init_56 hzb (by decide)
  refine K_aast (pc := 129) (p0 := 35) (p1 := 56) (k := 51) (v := 56) (n := 4) rfl rfl rfl rfl rfl (vp_dec (by decide)) dX8_init_129 ?_
  have hr := Rf.pR (k := 51) (i0 := (2 : Int32).toNatClampNeg) (c0 := 56) hr (by decide)
  have hz := Zr.pR (k := 51) (i0 := (2 : Int32).toNatClampNeg) (x := some 56) hz (by decide)
  refine J_iinc (pc := 130) (q := 3) (v := (3 : Int32)) rfl (by decide) (by decide) (lv' := [(0, vR (some 0)), (1, vI x1), (2, vI ((3 : Int32) + fmJ x1 (6 : Int32))), (3, vI (3 : Int32))]) rfl dX8_init_130 ?_
  refine J_goto (pc := 133) (tgt := 112) (by decide) dX8_init_133 ?_
  refine J_iload_n (pc := 112) (q := 3) rfl rfl dX8_init_112 ?_
  refine J_iconst (pc := 113) (v := (4 : Int32)) (by decide) dX8_init_113 ?_
  refine J_icge (pc := 114) (tgt := 136) (by decide) dX8_init_114 (fun hc => absurd hc (by decide)) (fun _ => ?_)
  refine J_aload_n (pc := 117) (q := 0) rfl rfl dX8_init_117 ?_
  refine K_getRv (pc := 118) (p0 := 0) (i := 7) (r := some 51) rfl rfl rfl clF8 (by decide) rfl fl_RX8_46 dX8_init_118 ?_
  refine J_iload_n (pc := 121) (q := 3) rfl rfl dX8_init_121 ?_
  obtain ⟨hm22, hn22⟩ := hz 58 (by decide)
  refine K_new (pc := 122) (k := 58) (ci := 5) (Gk_stp (cl := 1) (sl := 40) (c1 := 1) (s1 := 3) (hE21 400 (by decide)).symm) rfl (by decide) (by decide) hm22 hn22 hr clF5 df_X5 rfl rfl cl_RX8_44 in_X5 iz_X5 dX8_init_122 (fun ad22 he22 => ?_)
  have hE22 := Ext.trans hE21 he22
  have hr := Rf.grow (k := 58) hr hn22
  have hz := Zr.tl hz
  refine J_dup (pc := 125) rfl dX8_init_125 ?_
  have hza : Zr new_X5_init_58 _ := hz.sub (by decide)
  have hzb : Zr [] _ := hz.sub (by decide)
  refine K_callN (pc := 126) (k := 58) (as := []) (new1 := new_X5_init_58) (N1 := nX5_init_58 _) (fun s h => h.2.2.2.2.1) (Gk_stp (cl := 0) (sl := 0) (c1 := 1) (s1 := 40) (hE22 400 (by decide)).symm) (kX5_init_58 (d := d) hr hza) (by intro j hj h9; revert h9; intro h9; have := List.all_eq_true.mp (show new_X5_init_58.all (fun z => decide (z < 200)) = true from rfl) j h9; have := of_decide_eq_true this; omega) cf_X5_init rfl iv_X5_init rfl rfl (by omega) (Nat.le_of_ble_eq_true rfl) dX8_init_126 (fun ad23 he23 => ?_)
  have hE23 := Ext.trans hE22 he23
  have hr := rf_X5_init_58 hr hza
  have hz := zr_X5_init_58 hzb (by decide)
  refine K_aast (pc := 129) (p0 := 35) (p1 := 58) (k := 51) (v := 58) (n := 4) rfl rfl rfl rfl rfl (vp_dec (by decide)) dX8_init_129 ?_
  have hr := Rf.pR (k := 51) (i0 := (3 : Int32).toNatClampNeg) (c0 := 58) hr (by decide)
  have hz := Zr.pR (k := 51) (i0 := (3 : Int32).toNatClampNeg) (x := some 58) hz (by decide)
  refine J_iinc (pc := 130) (q := 3) (v := (4 : Int32)) rfl (by decide) (by decide) (lv' := [(0, vR (some 0)), (1, vI x1), (2, vI ((3 : Int32) + fmJ x1 (6 : Int32))), (3, vI (4 : Int32))]) rfl dX8_init_130 ?_
  refine J_goto (pc := 133) (tgt := 112) (by decide) dX8_init_133 ?_
  refine J_iload_n (pc := 112) (q := 3) rfl rfl dX8_init_112 ?_
  refine J_iconst (pc := 113) (v := (4 : Int32)) (by decide) dX8_init_113 ?_
  refine J_icge (pc := 114) (tgt := 136) (by decide) dX8_init_114 (fun _ => ?_) (fun hc => absurd (by decide) hc)
  exact K_ret (pc := 136) hE23 (hE23 400 (by decide)) dX8_init_136
