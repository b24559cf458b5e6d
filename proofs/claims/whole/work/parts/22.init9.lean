abbrev ks_60 : List Nat := [0, 17, 18, 19, 20, 21, 22, 23, 24, 25, 26, 27, 28, 29, 30, 31, 32, 33, 34, 35, 36, 37, 38, 39, 40, 41, 42, 43, 44, 45, 46, 47, 48, 49, 50, 51, 1, 2, 3, 4, 5, 6, 7, 8, 9, 10, 11, 12, 13, 14, 15, 16, 52, 53, 54, 55, 56, 57, 58, 59, 60]
abbrev new_60 : List Nat := [61, 62, 63, 64, 65, 66, 67, 68, 69, 70, 71, 72, 73, 74, 75, 76, 77, 78, 79, 80, 81, 82, 83, 84]
abbrev kz_60 : List Nat := [0, 17, 18, 19, 20, 21, 22, 23, 24, 25, 26, 27, 28, 29, 30, 31, 32, 33, 34, 35, 36, 37, 38, 39, 40, 41, 42, 43, 44, 45, 46, 47, 48, 49, 50, 51, 1, 2, 3, 4, 5, 6, 7, 8, 9, 10, 11, 12, 13, 14, 15, 16, 52, 53, 54, 55, 56, 57, 58, 59, 60, 61, 62, 63, 64, 65, 66, 67, 68, 69, 70, 71, 72, 73, 74, 75, 76, 77, 78, 79, 80, 81, 82, 83, 84]
theorem kz_full : ∀ k, k < NC → k ∈ kz_60 := by decide +kernel
theorem kz_lt : ∀ k, k ∈ kz_60 → k < NC := by decide +kernel
theorem vp_dec {i : Int32} {n : Nat} (h : decide (i < 0 ∨ n ≤ i.toNatClampNeg) = false) : vp_in i n := of_decide_eq_false h
section KA
variable {ad ad0 : Nat → Nat} {ca : Nat → ClassId} {D : va_G} {cc : ByteArray} {own : String} {nL d : Nat} {pc : Nat} {lv : List (Nat × AV)} {st : List AV} {M N : Mem} {ks new ks' : List Nat} {mc ms cl sl : Nat} {Γ : Gm}
theorem K_putIk {p0 k ci i idx NF : Nat} {C : String} {T : u_T} {ty : Nat → FieldType} {x : Int32} (hp : ks[p0]? = some k) (hnd : va_nd ks = true) (hs : sh k = some (.inl ci)) (hF : ClF ci C T NF ty) (hi : i < NF) (hR : isR ci i = false) (hlink : Cond.fieldLink own idx (T i).1 (T i).2.1 (T i).2.2.1 ∈ lw_g) (hfin : (T i).2.2.2 = false) (hty : ty i = .int) (hd : decode cc pc = .ok (.putfield idx, 3)) (kk : Jg ad ca D (wsL ad ca ks) cc own nL d Γ (pc + 3) lv st (pKI M k i x)) : Jg ad ca D (wsL ad ca ks) cc own nL d Γ pc lv (vI x :: vR (some k) :: st) M := K_putI hp hnd hs hF hi hR hlink hfin hty hd kk
theorem K_putIFk {p0 k ci i idx NF : Nat} {C : String} {T : u_T} {ty : Nat → FieldType} {x : Int32} (hp : ks[p0]? = some k) (hnd : va_nd ks = true) (hs : sh k = some (.inl ci)) (hF : ClF ci C T NF ty) (hi : i < NF) (hR : isR ci i = false) (hlink : Cond.fieldLink own idx (T i).1 (T i).2.1 (T i).2.2.1 ∈ lw_g) (hfin : (T i).2.2.2 = true) (hdecl : (T i).1 = own) (hty : ty i = .int) (hd : decode cc pc = .ok (.putfield idx, 3)) (kk : Jg ad ca D (wsL ad ca ks) cc own nL d (Gk ad0 ca D new ks' N mc ms cl sl) (pc + 3) lv st (pKI M k i x)) : Jg ad ca D (wsL ad ca ks) cc own nL d (Gk ad0 ca D new ks' N mc ms cl sl) pc lv (vI x :: vR (some k) :: st) M := K_putIF hp hnd hs hF hi hR hlink hfin hdecl hty hd kk
theorem K_putZk {p0 k ci i idx NF : Nat} {C : String} {T : u_T} {ty : Nat → FieldType} {x : Int32} (hp : ks[p0]? = some k) (hnd : va_nd ks = true) (hs : sh k = some (.inl ci)) (hF : ClF ci C T NF ty) (hi : i < NF) (hR : isR ci i = false) (hlink : Cond.fieldLink own idx (T i).1 (T i).2.1 (T i).2.2.1 ∈ lw_g) (hfin : (T i).2.2.2 = false) (hty : ty i = .boolean) (hz : x = 0 ∨ x = 1) (hd : decode cc pc = .ok (.putfield idx, 3)) (kk : Jg ad ca D (wsL ad ca ks) cc own nL d Γ (pc + 3) lv st (pKI M k i x)) : Jg ad ca D (wsL ad ca ks) cc own nL d Γ pc lv (vI x :: vR (some k) :: st) M := K_putZ hp hnd hs hF hi hR hlink hfin hty hz hd kk
theorem K_putRk {p0 k ci i idx NF : Nat} {C : String} {T : u_T} {ty : Nat → FieldType} {x : Option Nat} (hp : ks[p0]? = some k) (hnd : va_nd ks = true) (hs : sh k = some (.inl ci)) (hF : ClF ci C T NF ty) (hi : i < NF) (hR : isR ci i = true) (hlink : Cond.fieldLink own idx (T i).1 (T i).2.1 (T i).2.2.1 ∈ lw_g) (hfin : (T i).2.2.2 = false) (hty : (∃ n, ty i = .object n) ∨ ∃ t, ty i = .array t) (hd : decode cc pc = .ok (.putfield idx, 3)) (kk : Jg ad ca D (wsL ad ca ks) cc own nL d Γ (pc + 3) lv st (pKR M k i x)) : Jg ad ca D (wsL ad ca ks) cc own nL d Γ pc lv (vR x :: vR (some k) :: st) M := K_putR hp hnd hs hF hi hR hlink hfin hty hd kk
theorem K_putRFk {p0 k ci i idx NF : Nat} {C : String} {T : u_T} {ty : Nat → FieldType} {x : Option Nat} (hp : ks[p0]? = some k) (hnd : va_nd ks = true) (hs : sh k = some (.inl ci)) (hF : ClF ci C T NF ty) (hi : i < NF) (hR : isR ci i = true) (hlink : Cond.fieldLink own idx (T i).1 (T i).2.1 (T i).2.2.1 ∈ lw_g) (hfin : (T i).2.2.2 = true) (hdecl : (T i).1 = own) (hty : (∃ n, ty i = .object n) ∨ ∃ t, ty i = .array t) (hd : decode cc pc = .ok (.putfield idx, 3)) (kk : Jg ad ca D (wsL ad ca ks) cc own nL d (Gk ad0 ca D new ks' N mc ms cl sl) (pc + 3) lv st (pKR M k i x)) : Jg ad ca D (wsL ad ca ks) cc own nL d (Gk ad0 ca D new ks' N mc ms cl sl) pc lv (vR x :: vR (some k) :: st) M := K_putRF hp hnd hs hF hi hR hlink hfin hdecl hty hd kk
theorem K_ast0k {p0 k n : Nat} {i x : Int32} (hp : ks[p0]? = some k) (hnd : va_nd ks = true) (hs : sh k = some (.inr (0, n))) (hin : vp_in i n) (hd : decode cc pc = .ok (.iastore, 1)) (kk : Jg ad ca D (wsL ad ca ks) cc own nL d Γ (pc + 1) lv st (pKI M k i.toNatClampNeg (narA 0 x))) : Jg ad ca D (wsL ad ca ks) cc own nL d Γ pc lv (vI x :: vI i :: vR (some k) :: st) M := K_ast0 hp hnd hs hin hd kk
end KA
theorem Rf.pI {ks : List Nat} {M : Mem} {k i0 : Nat} {x : Int32} (h : Rf ks M) : Rf ks (pKI M k i0 x) := h
theorem Rf.pR {ks : List Nat} {M : Mem} {k i0 c0 : Nat} (h : Rf ks M) (hc0 : c0 ∈ ks) : Rf ks (pKR M k i0 (some c0)) := Rf.put h hc0
theorem Zr.pI {l : List Nat} {M : Mem} {k i0 : Nat} {x : Int32} (h : Zr l M) (hk : k ∉ l) : Zr l (pKI M k i0 x) := Zr.putI h hk
theorem Zr.pR {l : List Nat} {M : Mem} {k i0 : Nat} {x : Option Nat} (h : Zr l M) (hk : k ∉ l) : Zr l (pKR M k i0 x) := Zr.putR h hk
theorem Zr.tl {k : Nat} {l : List Nat} {M : Mem} (h : Zr (k :: l) M) : Zr l M := fun j hj => h j (List.mem_cons_of_mem _ hj)
theorem ml_RX9_1 : Cond.methodLink RX9 1 objectInit ∈ lw_g := mg (i := 1123) (by decide +kernel) rfl
theorem ml_RX9_152 : Cond.methodLink RX9 152 yX9_ruleZero ∈ lw_g := mg (i := 1124) (by decide +kernel) rfl
theorem cf_X9_ruleZero : CalF yX9_ruleZero cX9_ruleZero 1 none 0 := ⟨mg (i := 1127) (by decide +kernel) rfl, mg (i := 140) (by decide +kernel) rfl, ⟨by decide, by decide⟩, by decide +kernel, by decide⟩
theorem cv_X9_ruleZero : Cond.instanceMethod yX9_ruleZero ∈ lw_g ∧ Cond.selects yX9_ruleZero.cls yX9_ruleZero yX9_ruleZero ∈ lw_g := ⟨mg (i := 1126) (by decide +kernel) rfl, mg (i := 51) (by decide +kernel) rfl⟩
def n9 (x1 : Int32) (M : Mem) : Mem := (pKI (pKR (pKR (pKR (pKI (pKI (pKI (pKI (pKR (pKI (pKI (pKI (pKI (pKR (pKR (pKI (pKI (pKI (pKI (pKR (pKR (pKI (pKI (pKI (pKR (pKR (pKR (pKI (pKI (pKI (pKI (pKI (pKR (pKR (pKR (pKI (pKR (pKR (pKR (pKR (pKR (pKI (pKR (pKR (pKR (pKR (pKR (pKI (pKI (pKI M 60 1 (0 : Int32)) 60 2 (1 : Int32)) 60 3 (1 : Int32)) 60 4 (some 61)) 60 5 (some 62)) 60 6 (some 63)) 60 7 (some 64)) 60 8 (some 65)) 60 9 (0 : Int32)) 60 10 (some 66)) 60 11 (some 67)) 60 12 (some 68)) 60 13 (some 69)) 60 14 (some 70)) 60 15 (0 : Int32)) 60 16 (some 71)) 60 17 (some 72)) 60 18 (some 73)) 60 19 (0 : Int32)) 60 20 (0 : Int32)) 60 21 (0 : Int32)) 60 22 (0 : Int32)) 60 23 (0 : Int32)) 60 24 (some 74)) 60 25 (some 75)) 60 26 (some 76)) 60 27 (0 : Int32)) 60 28 (1 : Int32)) 60 29 (0 : Int32)) 60 30 (some 77)) 60 31 (some 78)) 60 32 (0 : Int32)) 60 33 (0 : Int32)) 60 34 (0 : Int32)) 60 35 (0 : Int32)) 60 36 (some 79)) 60 37 (some 80)) 60 38 (0 : Int32)) 60 39 (0 : Int32)) 60 40 (0 : Int32)) 60 41 (0 : Int32)) 60 42 (some 81)) 82 (0 : Int32).toNatClampNeg (narA 0 (-1 : Int32))) 82 (1 : Int32).toNatClampNeg (narA 0 (-1 : Int32))) 82 (2 : Int32).toNatClampNeg (narA 0 (-1 : Int32))) 82 (3 : Int32).toNatClampNeg (narA 0 (-1 : Int32))) 60 43 (some 82)) 60 44 (some 83)) 60 45 (some 84)) 60 0 ((3 : Int32) + (((x1 - x1 / (6 : Int32) * (6 : Int32)) + (6 : Int32)) - ((x1 - x1 / (6 : Int32) * (6 : Int32)) + (6 : Int32)) / (6 : Int32) * (6 : Int32))))
set_option maxRecDepth 100000 in
set_option maxHeartbeats 4000000 in
theorem kX9_init {ad : Nat → Nat} {ca : Nat → ClassId} {D : va_G} {FU d : Nat} {M N : Mem} {x1 : Int32} (hr : Rf ks_60 M) (hz : Zr new_60 M) (hN : fX9_ruleZero FU 60 (n9 x1 M) = some N) : Ck ad ca D yX9_init cX9_init 2 (d + 1) 24 30204 ks_60 new_60 kz_60 [vR (some 60), vI x1] M N := by
  refine Ck_of (by decide) rfl (Nat.le_of_ble_eq_true rfl) ?_
  show Jg ad ca D (wsL ad ca ks_60) cX9_init RX9 2 (d + 1) (Gk ad ca D new_60 kz_60 N 24 30204 24 30204) 0 [(0, vR (some 60)), (1, vI x1)] [] M
  have hE0 : Ext [] ad ad := Ext.rfl
  refine J_aload_n (pc := 0) (q := 0) rfl rfl dX9_init_0 ?_
  refine K_objInit (pc := 1) ml_RX9_1 oi_1 oi_2 (by omega) (Nat.le_of_ble_eq_true rfl) dX9_init_1 ?_
  refine J_aload_n (pc := 4) (q := 0) rfl rfl dX9_init_4 ?_
  refine J_iconst (pc := 5) (v := (0 : Int32)) (by decide) dX9_init_5 ?_
  refine K_putIk (pc := 6) (p0 := 60) (i := 1) rfl rfl rfl clF9 (by decide) rfl fl_RX9_7 rfl rfl dX9_init_6 ?_
  have hr := Rf.pI (k := 60) (i0 := 1) (x := (0 : Int32)) hr
  have hz := Zr.pI (k := 60) (i0 := 1) (x := (0 : Int32)) hz (by decide)
  refine J_aload_n (pc := 9) (q := 0) rfl rfl dX9_init_9 ?_
  refine J_iconst (pc := 10) (v := (1 : Int32)) (by decide) dX9_init_10 ?_
  refine K_putIk (pc := 11) (p0 := 60) (i := 2) rfl rfl rfl clF9 (by decide) rfl fl_RX9_13 rfl rfl dX9_init_11 ?_
  have hr := Rf.pI (k := 60) (i0 := 2) (x := (1 : Int32)) hr
  have hz := Zr.pI (k := 60) (i0 := 2) (x := (1 : Int32)) hz (by decide)
  refine J_aload_n (pc := 14) (q := 0) rfl rfl dX9_init_14 ?_
  refine J_iconst (pc := 15) (v := (1 : Int32)) (by decide) dX9_init_15 ?_
  refine K_putIk (pc := 16) (p0 := 60) (i := 3) rfl rfl rfl clF9 (by decide) rfl fl_RX9_16 rfl rfl dX9_init_16 ?_
  have hr := Rf.pI (k := 60) (i0 := 3) (x := (1 : Int32)) hr
  have hz := Zr.pI (k := 60) (i0 := 3) (x := (1 : Int32)) hz (by decide)
  refine J_aload_n (pc := 19) (q := 0) rfl rfl dX9_init_19 ?_
  refine J_bipush (pc := 20) (v := (17 : Int32)) (by decide) dX9_init_20 ?_
  obtain ⟨hm1, hn1⟩ := hz 61 (by decide)
  refine K_newa0 (pc := 22) (k := 61) (n := 17) (cl := 23) (sl := 30187) rfl (by decide) (by decide) (hE0 400 (by decide)).symm hm1 hn1 hr (by decide) (by decide) (by decide) rfl rfl ar_int dX9_init_22 (fun ad1 he1 => ?_)
  have hE1 := Ext.trans hE0 he1
  have hr := Rf.grow (k := 61) hr hn1
  have hz := Zr.tl hz
  refine K_putRFk (pc := 24) (p0 := 60) (i := 4) rfl rfl rfl clF9 (by decide) rfl fl_RX9_19 rfl rfl (Or.inr ⟨_, rfl⟩) dX9_init_24 ?_
  have hr := Rf.pR (k := 60) (i0 := 4) (c0 := 61) hr (by decide)
  have hz := Zr.pR (k := 60) (i0 := 4) (x := some 61) hz (by decide)
  refine J_aload_n (pc := 27) (q := 0) rfl rfl dX9_init_27 ?_
  refine J_bipush (pc := 28) (v := (17 : Int32)) (by decide) dX9_init_28 ?_
  obtain ⟨hm2, hn2⟩ := hz 62 (by decide)
  refine K_newa0 (pc := 30) (k := 62) (n := 17) (cl := 22) (sl := 30170) rfl (by decide) (by decide) (hE1 400 (by decide)).symm hm2 hn2 hr (by decide) (by decide) (by decide) rfl rfl ar_int dX9_init_30 (fun ad2 he2 => ?_)
  have hE2 := Ext.trans hE1 he2
  have hr := Rf.grow (k := 62) hr hn2
  have hz := Zr.tl hz
  refine K_putRFk (pc := 32) (p0 := 60) (i := 5) rfl rfl rfl clF9 (by decide) rfl fl_RX9_23 rfl rfl (Or.inr ⟨_, rfl⟩) dX9_init_32 ?_
  have hr := Rf.pR (k := 60) (i0 := 5) (c0 := 62) hr (by decide)
  have hz := Zr.pR (k := 60) (i0 := 5) (x := some 62) hz (by decide)
  refine J_aload_n (pc := 35) (q := 0) rfl rfl dX9_init_35 ?_
  refine J_bipush (pc := 36) (v := (17 : Int32)) (by decide) dX9_init_36 ?_
  obtain ⟨hm3, hn3⟩ := hz 63 (by decide)
  refine K_newa0 (pc := 38) (k := 63) (n := 17) (cl := 21) (sl := 30153) rfl (by decide) (by decide) (hE2 400 (by decide)).symm hm3 hn3 hr (by decide) (by decide) (by decide) rfl rfl ar_int dX9_init_38 (fun ad3 he3 => ?_)
  have hE3 := Ext.trans hE2 he3
  have hr := Rf.grow (k := 63) hr hn3
  have hz := Zr.tl hz
  refine K_putRFk (pc := 40) (p0 := 60) (i := 6) rfl rfl rfl clF9 (by decide) rfl fl_RX9_26 rfl rfl (Or.inr ⟨_, rfl⟩) dX9_init_40 ?_
  have hr := Rf.pR (k := 60) (i0 := 6) (c0 := 63) hr (by decide)
  have hz := Zr.pR (k := 60) (i0 := 6) (x := some 63) hz (by decide)
  refine J_aload_n (pc := 43) (q := 0) rfl rfl dX9_init_43 ?_
  refine J_bipush (pc := 44) (v := (8 : Int32)) (by decide) dX9_init_44 ?_
  obtain ⟨hm4, hn4⟩ := hz 64 (by decide)
  refine K_newa1 (pc := 46) (k := 64) (n := 8) (cl := 20) (sl := 30145) rfl (by decide) (by decide) (hE3 400 (by decide)).symm hm4 hn4 hr (by decide) (by decide) (by decide) rfl rfl ar_boolean dX9_init_46 (fun ad4 he4 => ?_)
  have hE4 := Ext.trans hE3 he4
  have hr := Rf.grow (k := 64) hr hn4
  have hz := Zr.tl hz
  refine K_putRFk (pc := 48) (p0 := 60) (i := 7) rfl rfl rfl clF9 (by decide) rfl fl_RX9_29 rfl rfl (Or.inr ⟨_, rfl⟩) dX9_init_48 ?_
  have hr := Rf.pR (k := 60) (i0 := 7) (c0 := 64) hr (by decide)
  have hz := Zr.pR (k := 60) (i0 := 7) (x := some 64) hz (by decide)
  refine J_aload_n (pc := 51) (q := 0) rfl rfl dX9_init_51 ?_
  refine J_bipush (pc := 52) (v := (8 : Int32)) (by decide) dX9_init_52 ?_
  obtain ⟨hm5, hn5⟩ := hz 65 (by decide)
  refine K_newa1 (pc := 54) (k := 65) (n := 8) (cl := 19) (sl := 30137) rfl (by decide) (by decide) (hE4 400 (by decide)).symm hm5 hn5 hr (by decide) (by decide) (by decide) rfl rfl ar_boolean dX9_init_54 (fun ad5 he5 => ?_)
  have hE5 := Ext.trans hE4 he5
  have hr := Rf.grow (k := 65) hr hn5
  have hz := Zr.tl hz
  refine K_putRFk (pc := 56) (p0 := 60) (i := 8) rfl rfl rfl clF9 (by decide) rfl fl_RX9_33 rfl rfl (Or.inr ⟨_, rfl⟩) dX9_init_56 ?_
  have hr := Rf.pR (k := 60) (i0 := 8) (c0 := 65) hr (by decide)
  have hz := Zr.pR (k := 60) (i0 := 8) (x := some 65) hz (by decide)
  refine J_aload_n (pc := 59) (q := 0) rfl rfl dX9_init_59 ?_
  refine J_iconst (pc := 60) (v := (0 : Int32)) (by decide) dX9_init_60 ?_
  refine K_putZk (pc := 61) (p0 := 60) (i := 9) rfl rfl rfl clF9 (by decide) rfl fl_RX9_36 rfl rfl (Or.inl rfl) dX9_init_61 ?_
  have hr := Rf.pI (k := 60) (i0 := 9) (x := (0 : Int32)) hr
  have hz := Zr.pI (k := 60) (i0 := 9) (x := (0 : Int32)) hz (by decide)
  refine J_aload_n (pc := 64) (q := 0) rfl rfl dX9_init_64 ?_
  refine J_sipush (pc := 65) (v := (9216 : Int32)) (by decide) dX9_init_65 ?_
  obtain ⟨hm6, hn6⟩ := hz 66 (by decide)
  refine K_newa0 (pc := 68) (k := 66) (n := 9216) (cl := 18) (sl := 20921) rfl (by decide) (by decide) (hE5 400 (by decide)).symm hm6 hn6 hr (by decide) (by decide) (by decide) rfl rfl ar_int dX9_init_68 (fun ad6 he6 => ?_)
  have hE6 := Ext.trans hE5 he6
  have hr := Rf.grow (k := 66) hr hn6
  have hz := Zr.tl hz
  refine K_putRFk (pc := 70) (p0 := 60) (i := 10) rfl rfl rfl clF9 (by decide) rfl fl_RX9_40 rfl rfl (Or.inr ⟨_, rfl⟩) dX9_init_70 ?_
  have hr := Rf.pR (k := 60) (i0 := 10) (c0 := 66) hr (by decide)
  have hz := Zr.pR (k := 60) (i0 := 10) (x := some 66) hz (by decide)
  refine J_aload_n (pc := 73) (q := 0) rfl rfl dX9_init_73 ?_
  refine J_sipush (pc := 74) (v := (9216 : Int32)) (by decide) dX9_init_74 ?_
  obtain ⟨hm7, hn7⟩ := hz 67 (by decide)
  refine K_newa1 (pc := 77) (k := 67) (n := 9216) (cl := 17) (sl := 11705) rfl (by decide) (by decide) (hE6 400 (by decide)).symm hm7 hn7 hr (by decide) (by decide) (by decide) rfl rfl ar_boolean dX9_init_77 (fun ad7 he7 => ?_)
  have hE7 := Ext.trans hE6 he7
  have hr := Rf.grow (k := 67) hr hn7
  have hz := Zr.tl hz
  refine K_putRFk (pc := 79) (p0 := 60) (i := 11) rfl rfl rfl clF9 (by decide) rfl fl_RX9_43 rfl rfl (Or.inr ⟨_, rfl⟩) dX9_init_79 ?_
  have hr := Rf.pR (k := 60) (i0 := 11) (c0 := 67) hr (by decide)
  have hz := Zr.pR (k := 60) (i0 := 11) (x := some 67) hz (by decide)
  refine J_aload_n (pc := 82) (q := 0) rfl rfl dX9_init_82 ?_
  refine J_bipush (pc := 83) (v := (8 : Int32)) (by decide) dX9_init_83 ?_
  obtain ⟨hm8, hn8⟩ := hz 68 (by decide)
  refine K_newa0 (pc := 85) (k := 68) (n := 8) (cl := 16) (sl := 11697) rfl (by decide) (by decide) (hE7 400 (by decide)).symm hm8 hn8 hr (by decide) (by decide) (by decide) rfl rfl ar_int dX9_init_85 (fun ad8 he8 => ?_)
  have hE8 := Ext.trans hE7 he8
  have hr := Rf.grow (k := 68) hr hn8
  have hz := Zr.tl hz
  refine K_putRFk (pc := 87) (p0 := 60) (i := 12) rfl rfl rfl clF9 (by decide) rfl fl_RX9_46 rfl rfl (Or.inr ⟨_, rfl⟩) dX9_init_87 ?_
  have hr := Rf.pR (k := 60) (i0 := 12) (c0 := 68) hr (by decide)
  have hz := Zr.pR (k := 60) (i0 := 12) (x := some 68) hz (by decide)
  refine J_aload_n (pc := 90) (q := 0) rfl rfl dX9_init_90 ?_
  refine J_sipush (pc := 91) (v := (384 : Int32)) (by decide) dX9_init_91 ?_
  obtain ⟨hm9, hn9⟩ := hz 69 (by decide)
  refine K_newa0 (pc := 94) (k := 69) (n := 384) (cl := 15) (sl := 11313) rfl (by decide) (by decide) (hE8 400 (by decide)).symm hm9 hn9 hr (by decide) (by decide) (by decide) rfl rfl ar_int dX9_init_94 (fun ad9 he9 => ?_)
  have hE9 := Ext.trans hE8 he9
  have hr := Rf.grow (k := 69) hr hn9
  have hz := Zr.tl hz
  refine K_putRFk (pc := 96) (p0 := 60) (i := 13) rfl rfl rfl clF9 (by decide) rfl fl_RX9_49 rfl rfl (Or.inr ⟨_, rfl⟩) dX9_init_96 ?_
  have hr := Rf.pR (k := 60) (i0 := 13) (c0 := 69) hr (by decide)
  have hz := Zr.pR (k := 60) (i0 := 13) (x := some 69) hz (by decide)
  refine J_aload_n (pc := 99) (q := 0) rfl rfl dX9_init_99 ?_
  refine J_sipush (pc := 100) (v := (4096 : Int32)) (by decide) dX9_init_100 ?_
  obtain ⟨hm10, hn10⟩ := hz 70 (by decide)
  refine K_newa0 (pc := 103) (k := 70) (n := 4096) (cl := 14) (sl := 7217) rfl (by decide) (by decide) (hE9 400 (by decide)).symm hm10 hn10 hr (by decide) (by decide) (by decide) rfl rfl ar_int dX9_init_103 (fun ad10 he10 => ?_)
  have hE10 := Ext.trans hE9 he10
  have hr := Rf.grow (k := 70) hr hn10
  have hz := Zr.tl hz
  refine K_putRFk (pc := 105) (p0 := 60) (i := 14) rfl rfl rfl clF9 (by decide) rfl fl_RX9_52 rfl rfl (Or.inr ⟨_, rfl⟩) dX9_init_105 ?_
  have hr := Rf.pR (k := 60) (i0 := 14) (c0 := 70) hr (by decide)
  have hz := Zr.pR (k := 60) (i0 := 14) (x := some 70) hz (by decide)
  refine J_aload_n (pc := 108) (q := 0) rfl rfl dX9_init_108 ?_
  refine J_iconst (pc := 109) (v := (0 : Int32)) (by decide) dX9_init_109 ?_
  refine K_putZk (pc := 110) (p0 := 60) (i := 15) rfl rfl rfl clF9 (by decide) rfl fl_RX9_55 rfl rfl (Or.inl rfl) dX9_init_110 ?_
  have hr := Rf.pI (k := 60) (i0 := 15) (x := (0 : Int32)) hr
  have hz := Zr.pI (k := 60) (i0 := 15) (x := (0 : Int32)) hz (by decide)
  refine J_aload_n (pc := 113) (q := 0) rfl rfl dX9_init_113 ?_
  refine J_bipush (pc := 114) (v := (8 : Int32)) (by decide) dX9_init_114 ?_
  obtain ⟨hm11, hn11⟩ := hz 71 (by decide)
  refine K_newa0 (pc := 116) (k := 71) (n := 8) (cl := 13) (sl := 7209) rfl (by decide) (by decide) (hE10 400 (by decide)).symm hm11 hn11 hr (by decide) (by decide) (by decide) rfl rfl ar_int dX9_init_116 (fun ad11 he11 => ?_)
  have hE11 := Ext.trans hE10 he11
  have hr := Rf.grow (k := 71) hr hn11
  have hz := Zr.tl hz
  refine K_putRFk (pc := 118) (p0 := 60) (i := 16) rfl rfl rfl clF9 (by decide) rfl fl_RX9_58 rfl rfl (Or.inr ⟨_, rfl⟩) dX9_init_118 ?_
  have hr := Rf.pR (k := 60) (i0 := 16) (c0 := 71) hr (by decide)
  have hz := Zr.pR (k := 60) (i0 := 16) (x := some 71) hz (by decide)
  refine J_aload_n (pc := 121) (q := 0) rfl rfl dX9_init_121 ?_
  refine J_sipush (pc := 122) (v := (512 : Int32)) (by decide) dX9_init_122 ?_
  obtain ⟨hm12, hn12⟩ := hz 72 (by decide)
  refine K_newa0 (pc := 125) (k := 72) (n := 512) (cl := 12) (sl := 6697) rfl (by decide) (by decide) (hE11 400 (by decide)).symm hm12 hn12 hr (by decide) (by decide) (by decide) rfl rfl ar_int dX9_init_125 (fun ad12 he12 => ?_)
  have hE12 := Ext.trans hE11 he12
  have hr := Rf.grow (k := 72) hr hn12
  have hz := Zr.tl hz
  refine K_putRFk (pc := 127) (p0 := 60) (i := 17) rfl rfl rfl clF9 (by decide) rfl fl_RX9_61 rfl rfl (Or.inr ⟨_, rfl⟩) dX9_init_127 ?_
  have hr := Rf.pR (k := 60) (i0 := 17) (c0 := 72) hr (by decide)
  have hz := Zr.pR (k := 60) (i0 := 17) (x := some 72) hz (by decide)
  refine J_aload_n (pc := 130) (q := 0) rfl rfl dX9_init_130 ?_
  refine J_sipush (pc := 131) (v := (4096 : Int32)) (by decide) dX9_init_131 ?_
  obtain ⟨hm13, hn13⟩ := hz 73 (by decide)
  refine K_newa1 (pc := 134) (k := 73) (n := 4096) (cl := 11) (sl := 2601) rfl (by decide) (by decide) (hE12 400 (by decide)).symm hm13 hn13 hr (by decide) (by decide) (by decide) rfl rfl ar_boolean dX9_init_134 (fun ad13 he13 => ?_)
  have hE13 := Ext.trans hE12 he13
  have hr := Rf.grow (k := 73) hr hn13
  have hz := Zr.tl hz
  refine K_putRFk (pc := 136) (p0 := 60) (i := 18) rfl rfl rfl clF9 (by decide) rfl fl_RX9_64 rfl rfl (Or.inr ⟨_, rfl⟩) dX9_init_136 ?_
  have hr := Rf.pR (k := 60) (i0 := 18) (c0 := 73) hr (by decide)
  have hz := Zr.pR (k := 60) (i0 := 18) (x := some 73) hz (by decide)
  refine J_aload_n (pc := 139) (q := 0) rfl rfl dX9_init_139 ?_
  refine J_iconst (pc := 140) (v := (0 : Int32)) (by decide) dX9_init_140 ?_
  refine K_putZk (pc := 141) (p0 := 60) (i := 19) rfl rfl rfl clF9 (by decide) rfl fl_RX9_67 rfl rfl (Or.inl rfl) dX9_init_141 ?_
  have hr := Rf.pI (k := 60) (i0 := 19) (x := (0 : Int32)) hr
  have hz := Zr.pI (k := 60) (i0 := 19) (x := (0 : Int32)) hz (by decide)
  refine J_aload_n (pc := 144) (q := 0) rfl rfl dX9_init_144 ?_
  refine J_iconst (pc := 145) (v := (0 : Int32)) (by decide) dX9_init_145 ?_
  refine K_putIk (pc := 146) (p0 := 60) (i := 20) rfl rfl rfl clF9 (by decide) rfl fl_RX9_70 rfl rfl dX9_init_146 ?_
  have hr := Rf.pI (k := 60) (i0 := 20) (x := (0 : Int32)) hr
  have hz := Zr.pI (k := 60) (i0 := 20) (x := (0 : Int32)) hz (by decide)
  refine J_aload_n (pc := 149) (q := 0) rfl rfl dX9_init_149 ?_
  refine J_iconst (pc := 150) (v := (0 : Int32)) (by decide) dX9_init_150 ?_
  refine K_putIk (pc := 151) (p0 := 60) (i := 21) rfl rfl rfl clF9 (by decide) rfl fl_RX9_73 rfl rfl dX9_init_151 ?_
  have hr := Rf.pI (k := 60) (i0 := 21) (x := (0 : Int32)) hr
  have hz := Zr.pI (k := 60) (i0 := 21) (x := (0 : Int32)) hz (by decide)
  refine J_aload_n (pc := 154) (q := 0) rfl rfl dX9_init_154 ?_
  refine J_iconst (pc := 155) (v := (0 : Int32)) (by decide) dX9_init_155 ?_
  refine K_putIk (pc := 156) (p0 := 60) (i := 22) rfl rfl rfl clF9 (by decide) rfl fl_RX9_76 rfl rfl dX9_init_156 ?_
  have hr := Rf.pI (k := 60) (i0 := 22) (x := (0 : Int32)) hr
  have hz := Zr.pI (k := 60) (i0 := 22) (x := (0 : Int32)) hz (by decide)
  refine J_aload_n (pc := 159) (q := 0) rfl rfl dX9_init_159 ?_
  refine J_iconst (pc := 160) (v := (0 : Int32)) (by decide) dX9_init_160 ?_
  refine K_putIk (pc := 161) (p0 := 60) (i := 23) rfl rfl rfl clF9 (by decide) rfl fl_RX9_79 rfl rfl dX9_init_161 ?_
  have hr := Rf.pI (k := 60) (i0 := 23) (x := (0 : Int32)) hr
  have hz := Zr.pI (k := 60) (i0 := 23) (x := (0 : Int32)) hz (by decide)
  refine J_aload_n (pc := 164) (q := 0) rfl rfl dX9_init_164 ?_
  refine J_bipush (pc := 165) (v := (64 : Int32)) (by decide) dX9_init_165 ?_
  obtain ⟨hm14, hn14⟩ := hz 74 (by decide)
  refine K_newa0 (pc := 167) (k := 74) (n := 64) (cl := 10) (sl := 2537) rfl (by decide) (by decide) (hE13 400 (by decide)).symm hm14 hn14 hr (by decide) (by decide) (by decide) rfl rfl ar_int dX9_init_167 (fun ad14 he14 => ?_)
  have hE14 := Ext.trans hE13 he14
  have hr := Rf.grow (k := 74) hr hn14
  have hz := Zr.tl hz
  refine K_putRFk (pc := 169) (p0 := 60) (i := 24) rfl rfl rfl clF9 (by decide) rfl fl_RX9_82 rfl rfl (Or.inr ⟨_, rfl⟩) dX9_init_169 ?_
  have hr := Rf.pR (k := 60) (i0 := 24) (c0 := 74) hr (by decide)
  have hz := Zr.pR (k := 60) (i0 := 24) (x := some 74) hz (by decide)
  refine J_aload_n (pc := 172) (q := 0) rfl rfl dX9_init_172 ?_
  refine J_bipush (pc := 173) (v := (64 : Int32)) (by decide) dX9_init_173 ?_
  obtain ⟨hm15, hn15⟩ := hz 75 (by decide)
  refine K_newa0 (pc := 175) (k := 75) (n := 64) (cl := 9) (sl := 2473) rfl (by decide) (by decide) (hE14 400 (by decide)).symm hm15 hn15 hr (by decide) (by decide) (by decide) rfl rfl ar_int dX9_init_175 (fun ad15 he15 => ?_)
  have hE15 := Ext.trans hE14 he15
  have hr := Rf.grow (k := 75) hr hn15
  have hz := Zr.tl hz
  refine K_putRFk (pc := 177) (p0 := 60) (i := 25) rfl rfl rfl clF9 (by decide) rfl fl_RX9_85 rfl rfl (Or.inr ⟨_, rfl⟩) dX9_init_177 ?_
  have hr := Rf.pR (k := 60) (i0 := 25) (c0 := 75) hr (by decide)
  have hz := Zr.pR (k := 60) (i0 := 25) (x := some 75) hz (by decide)
  refine J_aload_n (pc := 180) (q := 0) rfl rfl dX9_init_180 ?_
  refine J_bipush (pc := 181) (v := (120 : Int32)) (by decide) dX9_init_181 ?_
  obtain ⟨hm16, hn16⟩ := hz 76 (by decide)
  refine K_newa2 (pc := 183) (k := 76) (n := 120) (cl := 8) (sl := 2353) rfl (by decide) (by decide) (hE15 400 (by decide)).symm hm16 hn16 hr (by decide) (by decide) (by decide) rfl rfl ar_byte dX9_init_183 (fun ad16 he16 => ?_)
  have hE16 := Ext.trans hE15 he16
  have hr := Rf.grow (k := 76) hr hn16
  have hz := Zr.tl hz
  refine K_putRFk (pc := 185) (p0 := 60) (i := 26) rfl rfl rfl clF9 (by decide) rfl fl_RX9_88 rfl rfl (Or.inr ⟨_, rfl⟩) dX9_init_185 ?_
  have hr := Rf.pR (k := 60) (i0 := 26) (c0 := 76) hr (by decide)
  have hz := Zr.pR (k := 60) (i0 := 26) (x := some 76) hz (by decide)
  refine J_aload_n (pc := 188) (q := 0) rfl rfl dX9_init_188 ?_
  refine J_iconst (pc := 189) (v := (0 : Int32)) (by decide) dX9_init_189 ?_
  refine K_putIk (pc := 190) (p0 := 60) (i := 27) rfl rfl rfl clF9 (by decide) rfl fl_RX9_92 rfl rfl dX9_init_190 ?_
  have hr := Rf.pI (k := 60) (i0 := 27) (x := (0 : Int32)) hr
  have hz := Zr.pI (k := 60) (i0 := 27) (x := (0 : Int32)) hz (by decide)
  refine J_aload_n (pc := 193) (q := 0) rfl rfl dX9_init_193 ?_
  refine J_iconst (pc := 194) (v := (1 : Int32)) (by decide) dX9_init_194 ?_
  refine K_putIk (pc := 195) (p0 := 60) (i := 28) rfl rfl rfl clF9 (by decide) rfl fl_RX9_95 rfl rfl dX9_init_195 ?_
  have hr := Rf.pI (k := 60) (i0 := 28) (x := (1 : Int32)) hr
  have hz := Zr.pI (k := 60) (i0 := 28) (x := (1 : Int32)) hz (by decide)
  refine J_aload_n (pc := 198) (q := 0) rfl rfl dX9_init_198 ?_
  refine J_iconst (pc := 199) (v := (0 : Int32)) (by decide) dX9_init_199 ?_
  refine K_putIk (pc := 200) (p0 := 60) (i := 29) rfl rfl rfl clF9 (by decide) rfl fl_RX9_98 rfl rfl dX9_init_200 ?_
  have hr := Rf.pI (k := 60) (i0 := 29) (x := (0 : Int32)) hr
  have hz := Zr.pI (k := 60) (i0 := 29) (x := (0 : Int32)) hz (by decide)
  refine J_aload_n (pc := 203) (q := 0) rfl rfl dX9_init_203 ?_
  refine J_bipush (pc := 204) (v := (16 : Int32)) (by decide) dX9_init_204 ?_
  obtain ⟨hm17, hn17⟩ := hz 77 (by decide)
  refine K_newa0 (pc := 206) (k := 77) (n := 16) (cl := 7) (sl := 2337) rfl (by decide) (by decide) (hE16 400 (by decide)).symm hm17 hn17 hr (by decide) (by decide) (by decide) rfl rfl ar_int dX9_init_206 (fun ad17 he17 => ?_)
  have hE17 := Ext.trans hE16 he17
  have hr := Rf.grow (k := 77) hr hn17
  have hz := Zr.tl hz
  refine K_putRFk (pc := 208) (p0 := 60) (i := 30) rfl rfl rfl clF9 (by decide) rfl fl_RX9_101 rfl rfl (Or.inr ⟨_, rfl⟩) dX9_init_208 ?_
  have hr := Rf.pR (k := 60) (i0 := 30) (c0 := 77) hr (by decide)
  have hz := Zr.pR (k := 60) (i0 := 30) (x := some 77) hz (by decide)
  refine J_aload_n (pc := 211) (q := 0) rfl rfl dX9_init_211 ?_
  refine J_sipush (pc := 212) (v := (1920 : Int32)) (by decide) dX9_init_212 ?_
  obtain ⟨hm18, hn18⟩ := hz 78 (by decide)
  refine K_newa0 (pc := 215) (k := 78) (n := 1920) (cl := 6) (sl := 417) rfl (by decide) (by decide) (hE17 400 (by decide)).symm hm18 hn18 hr (by decide) (by decide) (by decide) rfl rfl ar_int dX9_init_215 (fun ad18 he18 => ?_)
  have hE18 := Ext.trans hE17 he18
  have hr := Rf.grow (k := 78) hr hn18
  have hz := Zr.tl hz
  refine K_putRFk (pc := 217) (p0 := 60) (i := 31) rfl rfl rfl clF9 (by decide) rfl fl_RX9_104 rfl rfl (Or.inr ⟨_, rfl⟩) dX9_init_217 ?_
  have hr := Rf.pR (k := 60) (i0 := 31) (c0 := 78) hr (by decide)
  have hz := Zr.pR (k := 60) (i0 := 31) (x := some 78) hz (by decide)
  refine J_aload_n (pc := 220) (q := 0) rfl rfl dX9_init_220 ?_
  refine J_iconst (pc := 221) (v := (0 : Int32)) (by decide) dX9_init_221 ?_
  refine K_putIk (pc := 222) (p0 := 60) (i := 32) rfl rfl rfl clF9 (by decide) rfl fl_RX9_107 rfl rfl dX9_init_222 ?_
  have hr := Rf.pI (k := 60) (i0 := 32) (x := (0 : Int32)) hr
  have hz := Zr.pI (k := 60) (i0 := 32) (x := (0 : Int32)) hz (by decide)
  refine J_aload_n (pc := 225) (q := 0) rfl rfl dX9_init_225 ?_
  refine J_iconst (pc := 226) (v := (0 : Int32)) (by decide) dX9_init_226 ?_
  refine K_putIk (pc := 227) (p0 := 60) (i := 33) rfl rfl rfl clF9 (by decide) rfl fl_RX9_110 rfl rfl dX9_init_227 ?_
  have hr := Rf.pI (k := 60) (i0 := 33) (x := (0 : Int32)) hr
  have hz := Zr.pI (k := 60) (i0 := 33) (x := (0 : Int32)) hz (by decide)
  refine J_aload_n (pc := 230) (q := 0) rfl rfl dX9_init_230 ?_
  refine J_iconst (pc := 231) (v := (0 : Int32)) (by decide) dX9_init_231 ?_
  refine K_putIk (pc := 232) (p0 := 60) (i := 34) rfl rfl rfl clF9 (by decide) rfl fl_RX9_113 rfl rfl dX9_init_232 ?_
  have hr := Rf.pI (k := 60) (i0 := 34) (x := (0 : Int32)) hr
  have hz := Zr.pI (k := 60) (i0 := 34) (x := (0 : Int32)) hz (by decide)
  refine J_aload_n (pc := 235) (q := 0) rfl rfl dX9_init_235 ?_
  refine J_iconst (pc := 236) (v := (0 : Int32)) (by decide) dX9_init_236 ?_
  refine K_putIk (pc := 237) (p0 := 60) (i := 35) rfl rfl rfl clF9 (by decide) rfl fl_RX9_116 rfl rfl dX9_init_237 ?_
  have hr := Rf.pI (k := 60) (i0 := 35) (x := (0 : Int32)) hr
  have hz := Zr.pI (k := 60) (i0 := 35) (x := (0 : Int32)) hz (by decide)
  refine J_aload_n (pc := 240) (q := 0) rfl rfl dX9_init_240 ?_
  refine J_bipush (pc := 241) (v := (121 : Int32)) (by decide) dX9_init_241 ?_
  obtain ⟨hm19, hn19⟩ := hz 79 (by decide)
  refine K_newa0 (pc := 243) (k := 79) (n := 121) (cl := 5) (sl := 296) rfl (by decide) (by decide) (hE18 400 (by decide)).symm hm19 hn19 hr (by decide) (by decide) (by decide) rfl rfl ar_int dX9_init_243 (fun ad19 he19 => ?_)
  have hE19 := Ext.trans hE18 he19
  have hr := Rf.grow (k := 79) hr hn19
  have hz := Zr.tl hz
  refine K_putRFk (pc := 245) (p0 := 60) (i := 36) rfl rfl rfl clF9 (by decide) rfl fl_RX9_119 rfl rfl (Or.inr ⟨_, rfl⟩) dX9_init_245 ?_
  have hr := Rf.pR (k := 60) (i0 := 36) (c0 := 79) hr (by decide)
  have hz := Zr.pR (k := 60) (i0 := 36) (x := some 79) hz (by decide)
  refine J_aload_n (pc := 248) (q := 0) rfl rfl dX9_init_248 ?_
  refine J_bipush (pc := 249) (v := (7 : Int32)) (by decide) dX9_init_249 ?_
  obtain ⟨hm20, hn20⟩ := hz 80 (by decide)
  refine K_newa1 (pc := 251) (k := 80) (n := 7) (cl := 4) (sl := 289) rfl (by decide) (by decide) (hE19 400 (by decide)).symm hm20 hn20 hr (by decide) (by decide) (by decide) rfl rfl ar_boolean dX9_init_251 (fun ad20 he20 => ?_)
  have hE20 := Ext.trans hE19 he20
  have hr := Rf.grow (k := 80) hr hn20
  have hz := Zr.tl hz
  refine K_putRFk (pc := 253) (p0 := 60) (i := 37) rfl rfl rfl clF9 (by decide) rfl fl_RX9_122 rfl rfl (Or.inr ⟨_, rfl⟩) dX9_init_253 ?_
  have hr := Rf.pR (k := 60) (i0 := 37) (c0 := 80) hr (by decide)
  have hz := Zr.pR (k := 60) (i0 := 37) (x := some 80) hz (by decide)
  refine J_aload_n (pc := 256) (q := 0) rfl rfl dX9_init_256 ?_
  refine J_iconst (pc := 257) (v := (0 : Int32)) (by decide) dX9_init_257 ?_
  refine K_putIk (pc := 258) (p0 := 60) (i := 38) rfl rfl rfl clF9 (by decide) rfl fl_RX9_125 rfl rfl dX9_init_258 ?_
  have hr := Rf.pI (k := 60) (i0 := 38) (x := (0 : Int32)) hr
  have hz := Zr.pI (k := 60) (i0 := 38) (x := (0 : Int32)) hz (by decide)
  refine J_aload_n (pc := 261) (q := 0) rfl rfl dX9_init_261 ?_
  refine J_iconst (pc := 262) (v := (0 : Int32)) (by decide) dX9_init_262 ?_
  refine K_putIk (pc := 263) (p0 := 60) (i := 39) rfl rfl rfl clF9 (by decide) rfl fl_RX9_128 rfl rfl dX9_init_263 ?_
  have hr := Rf.pI (k := 60) (i0 := 39) (x := (0 : Int32)) hr
  have hz := Zr.pI (k := 60) (i0 := 39) (x := (0 : Int32)) hz (by decide)
  refine J_aload_n (pc := 266) (q := 0) rfl rfl dX9_init_266 ?_
  refine J_iconst (pc := 267) (v := (0 : Int32)) (by decide) dX9_init_267 ?_
  refine K_putIk (pc := 268) (p0 := 60) (i := 40) rfl rfl rfl clF9 (by decide) rfl fl_RX9_131 rfl rfl dX9_init_268 ?_
  have hr := Rf.pI (k := 60) (i0 := 40) (x := (0 : Int32)) hr
  have hz := Zr.pI (k := 60) (i0 := 40) (x := (0 : Int32)) hz (by decide)
  refine J_aload_n (pc := 271) (q := 0) rfl rfl dX9_init_271 ?_
  refine J_iconst (pc := 272) (v := (0 : Int32)) (by decide) dX9_init_272 ?_
  refine K_putIk (pc := 273) (p0 := 60) (i := 41) rfl rfl rfl clF9 (by decide) rfl fl_RX9_134 rfl rfl dX9_init_273 ?_
  have hr := Rf.pI (k := 60) (i0 := 41) (x := (0 : Int32)) hr
  have hz := Zr.pI (k := 60) (i0 := 41) (x := (0 : Int32)) hz (by decide)
  refine J_aload_n (pc := 276) (q := 0) rfl rfl dX9_init_276 ?_
  refine J_bipush (pc := 277) (v := (121 : Int32)) (by decide) dX9_init_277 ?_
  obtain ⟨hm21, hn21⟩ := hz 81 (by decide)
  refine K_newa0 (pc := 279) (k := 81) (n := 121) (cl := 3) (sl := 168) rfl (by decide) (by decide) (hE20 400 (by decide)).symm hm21 hn21 hr (by decide) (by decide) (by decide) rfl rfl ar_int dX9_init_279 (fun ad21 he21 => ?_)
  have hE21 := Ext.trans hE20 he21
  have hr := Rf.grow (k := 81) hr hn21
  have hz := Zr.tl hz
  refine K_putRFk (pc := 281) (p0 := 60) (i := 42) rfl rfl rfl clF9 (by decide) rfl fl_RX9_137 rfl rfl (Or.inr ⟨_, rfl⟩) dX9_init_281 ?_
  have hr := Rf.pR (k := 60) (i0 := 42) (c0 := 81) hr (by decide)
  have hz := Zr.pR (k := 60) (i0 := 42) (x := some 81) hz (by decide)
  refine J_aload_n (pc := 284) (q := 0) rfl rfl dX9_init_284 ?_
  refine J_iconst (pc := 285) (v := (4 : Int32)) (by decide) dX9_init_285 ?_
  obtain ⟨hm22, hn22⟩ := hz 82 (by decide)
  refine K_newa0 (pc := 286) (k := 82) (n := 4) (cl := 2) (sl := 164) rfl (by decide) (by decide) (hE21 400 (by decide)).symm hm22 hn22 hr (by decide) (by decide) (by decide) rfl rfl ar_int dX9_init_286 (fun ad22 he22 => ?_)
  have hE22 := Ext.trans hE21 he22
  have hr := Rf.grow (k := 82) hr hn22
  have hz := Zr.tl hz
  refine J_dup (pc := 288) rfl dX9_init_288 ?_
  refine J_iconst (pc := 289) (v := (0 : Int32)) (by decide) dX9_init_289 ?_
  refine J_iconst (pc := 290) (v := (-1 : Int32)) (by decide) dX9_init_290 ?_
  refine K_ast0k (pc := 291) (p0 := 82) (k := 82) (n := 4) rfl rfl rfl (vp_dec (by decide)) dX9_init_291 ?_
  have hr := Rf.pI (k := 82) (i0 := (0 : Int32).toNatClampNeg) (x := narA 0 (-1 : Int32)) hr
  have hz := Zr.pI (k := 82) (i0 := (0 : Int32).toNatClampNeg) (x := narA 0 (-1 : Int32)) hz (by decide)
  refine J_dup (pc := 292) rfl dX9_init_292 ?_
  refine J_iconst (pc := 293) (v := (1 : Int32)) (by decide) dX9_init_293 ?_
  refine J_iconst (pc := 294) (v := (-1 : Int32)) (by decide) dX9_init_294 ?_
  refine K_ast0k (pc := 295) (p0 := 82) (k := 82) (n := 4) rfl rfl rfl (vp_dec (by decide)) dX9_init_295 ?_
  have hr := Rf.pI (k := 82) (i0 := (1 : Int32).toNatClampNeg) (x := narA 0 (-1 : Int32)) hr
  have hz := Zr.pI (k := 82) (i0 := (1 : Int32).toNatClampNeg) (x := narA 0 (-1 : Int32)) hz (by decide)
  refine J_dup (pc := 296) rfl dX9_init_296 ?_
  refine J_iconst (pc := 297) (v := (2 : Int32)) (by decide) dX9_init_297 ?_
  refine J_iconst (pc := 298) (v := (-1 : Int32)) (by decide) dX9_init_298 ?_
  refine K_ast0k (pc := 299) (p0 := 82) (k := 82) (n := 4) rfl rfl rfl (vp_dec (by decide)) dX9_init_299 ?_
  have hr := Rf.pI (k := 82) (i0 := (2 : Int32).toNatClampNeg) (x := narA 0 (-1 : Int32)) hr
  have hz := Zr.pI (k := 82) (i0 := (2 : Int32).toNatClampNeg) (x := narA 0 (-1 : Int32)) hz (by decide)
  refine J_dup (pc := 300) rfl dX9_init_300 ?_
  refine J_iconst (pc := 301) (v := (3 : Int32)) (by decide) dX9_init_301 ?_
  refine J_iconst (pc := 302) (v := (-1 : Int32)) (by decide) dX9_init_302 ?_
  refine K_ast0k (pc := 303) (p0 := 82) (k := 82) (n := 4) rfl rfl rfl (vp_dec (by decide)) dX9_init_303 ?_
  have hr := Rf.pI (k := 82) (i0 := (3 : Int32).toNatClampNeg) (x := narA 0 (-1 : Int32)) hr
  have hz := Zr.pI (k := 82) (i0 := (3 : Int32).toNatClampNeg) (x := narA 0 (-1 : Int32)) hz (by decide)
  refine K_putRFk (pc := 304) (p0 := 60) (i := 43) rfl rfl rfl clF9 (by decide) rfl fl_RX9_140 rfl rfl (Or.inr ⟨_, rfl⟩) dX9_init_304 ?_
  have hr := Rf.pR (k := 60) (i0 := 43) (c0 := 82) hr (by decide)
  have hz := Zr.pR (k := 60) (i0 := 43) (x := some 82) hz (by decide)
  refine J_aload_n (pc := 307) (q := 0) rfl rfl dX9_init_307 ?_
  refine J_iconst (pc := 308) (v := (4 : Int32)) (by decide) dX9_init_308 ?_
  obtain ⟨hm23, hn23⟩ := hz 83 (by decide)
  refine K_newa0 (pc := 309) (k := 83) (n := 4) (cl := 1) (sl := 160) rfl (by decide) (by decide) (hE22 400 (by decide)).symm hm23 hn23 hr (by decide) (by decide) (by decide) rfl rfl ar_int dX9_init_309 (fun ad23 he23 => ?_)
  have hE23 := Ext.trans hE22 he23
  have hr := Rf.grow (k := 83) hr hn23
  have hz := Zr.tl hz
  refine K_putRFk (pc := 311) (p0 := 60) (i := 44) rfl rfl rfl clF9 (by decide) rfl fl_RX9_143 rfl rfl (Or.inr ⟨_, rfl⟩) dX9_init_311 ?_
  have hr := Rf.pR (k := 60) (i0 := 44) (c0 := 83) hr (by decide)
  have hz := Zr.pR (k := 60) (i0 := 44) (x := some 83) hz (by decide)
  refine J_aload_n (pc := 314) (q := 0) rfl rfl dX9_init_314 ?_
  refine J_sipush (pc := 315) (v := (160 : Int32)) (by decide) dX9_init_315 ?_
  obtain ⟨hm24, hn24⟩ := hz 84 (by decide)
  refine K_newa0 (pc := 318) (k := 84) (n := 160) (cl := 0) (sl := 0) rfl (by decide) (by decide) (hE23 400 (by decide)).symm hm24 hn24 hr (by decide) (by decide) (by decide) rfl rfl ar_int dX9_init_318 (fun ad24 he24 => ?_)
  have hE24 := Ext.trans hE23 he24
  have hr := Rf.grow (k := 84) hr hn24
  have hz := Zr.tl hz
  refine K_putRFk (pc := 320) (p0 := 60) (i := 45) rfl rfl rfl clF9 (by decide) rfl fl_RX9_146 rfl rfl (Or.inr ⟨_, rfl⟩) dX9_init_320 ?_
  have hr := Rf.pR (k := 60) (i0 := 45) (c0 := 84) hr (by decide)
  have hz := Zr.pR (k := 60) (i0 := 45) (x := some 84) hz (by decide)
  refine J_aload_n (pc := 323) (q := 0) rfl rfl dX9_init_323 ?_
  refine J_iconst (pc := 324) (v := (3 : Int32)) (by decide) dX9_init_324 ?_
  refine J_iload_n (pc := 325) (q := 1) rfl rfl dX9_init_325 ?_
  refine J_bipush (pc := 326) (v := (6 : Int32)) (by decide) dX9_init_326 ?_
  refine J_irem (pc := 328) (by decide) dX9_init_328 ?_
  refine J_bipush (pc := 329) (v := (6 : Int32)) (by decide) dX9_init_329 ?_
  refine J_iadd (pc := 331) dX9_init_331 ?_
  refine J_bipush (pc := 332) (v := (6 : Int32)) (by decide) dX9_init_332 ?_
  refine J_irem (pc := 334) (by decide) dX9_init_334 ?_
  refine J_iadd (pc := 335) dX9_init_335 ?_
  refine K_putIFk (pc := 336) (p0 := 60) (i := 0) rfl rfl rfl clF9 (by decide) rfl fl_RX9_149 rfl rfl rfl dX9_init_336 ?_
  have hr := Rf.pI (k := 60) (i0 := 0) (x := ((3 : Int32) + (((x1 - x1 / (6 : Int32) * (6 : Int32)) + (6 : Int32)) - ((x1 - x1 / (6 : Int32) * (6 : Int32)) + (6 : Int32)) / (6 : Int32) * (6 : Int32)))) hr
  have hz := Zr.pI (k := 60) (i0 := 0) (x := ((3 : Int32) + (((x1 - x1 / (6 : Int32) * (6 : Int32)) + (6 : Int32)) - ((x1 - x1 / (6 : Int32) * (6 : Int32)) + (6 : Int32)) / (6 : Int32) * (6 : Int32)))) hz (by decide)
  refine J_aload_n (pc := 339) (q := 0) rfl rfl dX9_init_339 ?_
  refine J_full kz_full ?_
  refine J_callVV (pc := 340) (as := []) (tX9_ruleZero (d := d) hN) cf_X9_ruleZero cv_X9_ruleZero clF9 rfl ml_RX9_152 (by omega) (Nat.le_of_ble_eq_true rfl) dX9_init_340 ?_
  refine J_part kz_lt rfl ?_
  exact K_ret (pc := 343) hE24 (hE24 400 (by decide)) dX9_init_343
