/-! the two constant texts, and arraycopy of bytes -/
def txL : List (List Int32) := [txW, txF]
def txN : List Nat := [60, 51]
section JT
variable {wf : Mem → va_W} {ad : Nat → Nat} {ca : Nat → ClassId} {D : va_G} {cc : ByteArray} {own : String} {nL d : Nat} {Γ : Gm} {pc : Nat} {lv : List (Nat × AV)} {st : List AV} {M : Mem}
theorem J_ldcW (ho : own = "WolfVillage$Reader") (hd : decode cc pc = .ok (.ldc 84, 2)) (k : Jg ad ca D wf cc "WolfVillage$Reader" nL d Γ (pc + 2) lv (vR (some 202) :: st) M) : Jg ad ca D wf cc "WolfVillage$Reader" nL d Γ pc lv st M := by
  subst ho
  intro p l e R s m args below meth c H locs cells slots Z ls hg hc hP hD hS hl
  exact va_ldcS hc.1 hc.2.1 hc.2.2.2.1 hc.2.2.2.2.2.2.1.2.2.2.2.2.1 hd (k p l e R s m args below meth c H locs cells slots Z ls hg hc hP hD hS hl)
theorem J_ldcF (ho : own = "WolfVillage$Texts") (hd : decode cc pc = .ok (.ldc 35, 2)) (k : Jg ad ca D wf cc "WolfVillage$Texts" nL d Γ (pc + 2) lv (vR (some 203) :: st) M) : Jg ad ca D wf cc "WolfVillage$Texts" nL d Γ pc lv st M := by
  subst ho
  intro p l e R s m args below meth c H locs cells slots Z ls hg hc hP hD hS hl
  exact va_ldcS hc.1 hc.2.1 hc.2.2.2.1 hc.2.2.2.2.2.2.1.2.2.2.2.2.2.1 hd (k p l e R s m args below meth c H locs cells slots Z ls hg hc hP hD hS hl)
theorem lk_txV : Cond.fieldLink "java/lang/String" 9 "java/lang/String" "value" "[B" ∈ lw_g := mg (i := 1696) (by decide +kernel) rfl
theorem J_txV {i : Nat} (hi : i < 2) (ho : own = "java/lang/String") (hd : decode cc pc = .ok (.getfield 9, 3)) (k : Jg ad ca D wf cc "java/lang/String" nL d Γ (pc + 3) lv (vR (some (204 + i)) :: st) M) : Jg ad ca D wf cc "java/lang/String" nL d Γ pc lv (vR (some (202 + i)) :: st) M := by
  subst ho
  intro p l e R s m args below meth c H locs cells slots Z ls hg hc hP hD hS hl
  exact vk_getf hc.1 hc.2.1 (hc.2.2.2.2.2.2.1.2.2.2.2.1.1 i hi).2.2.1 hS hc.2.2.2.1 (hc.2.2.2.2.1 _ lk_txV) (fun _ h => h) hd (k p l e R s m args below meth c H locs cells slots Z ls hg hc hP hD hS hl)
theorem lk_txC : Cond.fieldLink "java/lang/String" 15 "java/lang/String" "coder" "B" ∈ lw_g := mg (i := 1697) (by decide +kernel) rfl
theorem J_txC {i : Nat} (hi : i < 2) (ho : own = "java/lang/String") (hd : decode cc pc = .ok (.getfield 15, 3)) (k : Jg ad ca D wf cc "java/lang/String" nL d Γ (pc + 3) lv (vI 0 :: st) M) : Jg ad ca D wf cc "java/lang/String" nL d Γ pc lv (vR (some (202 + i)) :: st) M := by
  subst ho
  intro p l e R s m args below meth c H locs cells slots Z ls hg hc hP hD hS hl
  exact vk_getf hc.1 hc.2.1 (hc.2.2.2.2.2.2.1.2.2.2.2.1.1 i hi).2.1 hS hc.2.2.2.1 (hc.2.2.2.2.1 _ lk_txC) (fun _ h => h) hd (k p l e R s m args below meth c H locs cells slots Z ls hg hc hP hD hS hl)
theorem lk_cs : Cond.fieldLink "java/lang/String" 38 "java/lang/String" "COMPACT_STRINGS" "Z" ∈ lw_g := mg (i := 369) (by decide +kernel) rfl
theorem J_getsC (ho : own = "java/lang/String") (hd : decode cc pc = .ok (.getstatic 38, 3)) (k : Jg ad ca D wf cc "java/lang/String" nL d Γ (pc + 3) lv (vI 1 :: st) M) : Jg ad ca D wf cc "java/lang/String" nL d Γ pc lv st M := by
  subst ho
  intro p l e R s m args below meth c H locs cells slots Z ls hg hc hP hD hS hl
  exact va_gets hc.1 hc.2.1 hc.2.2.2.2.2.2.1.2.2.2.2.2.2.2.1 hS hc.2.2.2.1 (hc.2.2.2.2.1 _ lk_cs) (fun _ h => h) hd (k p l e R s m args below meth c H locs cells slots Z ls hg hc hP hD hS hl)
theorem lk_fm : Cond.fieldLink "java/lang/String" 1053 "jdk/internal/util/Preconditions" "SIOOBE_FORMATTER" "Ljava/util/function/BiFunction;" ∈ lw_g := mg (i := 388) (by decide +kernel) rfl
theorem J_getsF (ho : own = "java/lang/String") (hd : decode cc pc = .ok (.getstatic 1053, 3)) (k : ∀ q : Option Nat, Jg ad ca D wf cc "java/lang/String" nL d Γ (pc + 3) lv (vR q :: st) M) : Jg ad ca D wf cc "java/lang/String" nL d Γ pc lv st M := by
  subst ho
  intro p l e R s m args below meth c H locs cells slots Z ls hg hc hP hD hS hl
  obtain ⟨q, -, hq⟩ := hc.2.2.2.2.2.2.1.2.2.2.2.2.2.2.2.2
  exact va_gets hc.1 hc.2.1 hq hS hc.2.2.2.1 (hc.2.2.2.2.1 _ lk_fm) (fun _ h => h) hd (k q p l e R s m args below meth c H locs cells slots Z ls hg hc hP hD hS hl)
theorem J_txlen {i : Nat} (hi : i < 2) (hd : decode cc pc = .ok (.arraylength, 1)) (k : Jg ad ca D wf cc own nL d Γ (pc + 1) lv (vI (Int32.ofNat (txN.getD i 0)) :: st) M) : Jg ad ca D wf cc own nL d Γ pc lv (vR (some (204 + i)) :: st) M := by
  intro p l e R s m args below meth c H locs cells slots Z ls hg hc hP hD hS hl
  exact va_tlen hc.1 hc.2.1 (hc.2.2.2.2.2.2.1.2.2.2.2.1.1 i hi).2.2.2 hS rfl hd (k p l e R s m args below meth c H locs cells slots Z ls hg hc hP hD hS hl)
theorem J_txb {i : Nat} {j : Int32} (hi : i < 2) (hj : vp_in j (txN.getD i 0)) (hd : decode cc pc = .ok (.baload, 1)) (k : Jg ad ca D wf cc own nL d Γ (pc + 1) lv (vI ((txL.getD i []).getD j.toNatClampNeg 0) :: st) M) : Jg ad ca D wf cc own nL d Γ pc lv (vI j :: vR (some (204 + i)) :: st) M := by
  intro p l e R s m args below meth c H locs cells slots Z ls hg hc hP hD hS hl
  exact va_tb hc.1 hc.2.1 (hc.2.2.2.2.2.2.1.2.2.2.2.1.1 i hi).2.2.2 hS hj rfl hd (k p l e R s m args below meth c H locs cells slots Z ls hg hc hP hD hS hl)
theorem J_i2c {x : Int32} (hd : decode cc pc = .ok (.i2c, 1)) (k : Jg ad ca D wf cc own nL d Γ (pc + 1) lv (vI (x.toUInt32 % 65536).toInt32 :: st) M) : Jg ad ca D wf cc own nL d Γ pc lv (vI x :: st) M := by
  intro p l e R s m args below meth c H locs cells slots Z ls hg hc hP hD hS hl
  exact lv_i2c hc.1 hc.2.1 hd rfl (k p l e R s m args below meth c H locs cells slots Z ls hg hc hP hD hS hl)
variable {Q : Option AV → Mem → Prop}
theorem J_nret {x : Int32} {ty : FieldType} (hz : narrow ty (.int x) = .int x) (hq : Q (some (vI x)) M) (hd : decode cc pc = .ok (.ireturn, 1)) : Jg ad ca D wf cc own nL d (Gtg ad wf D (some ty) Q) pc lv [vI x] M := by
  intro p l e R s m args below meth c H locs cells slots Z ls hg hc hP hD hS hl
  obtain ⟨rfl, hr, hlk⟩ := hg
  exact W.zret (v := x) hc.1 hc.2.1 hr hz (fun t ht hW => ⟨⟨some (vI x), M, rfl, hq, (by rw [ht]; exact hP), hD⟩, hS.F ht⟩) hS.2.2 hd hlk
theorem J_callT {y : MethodName} {cb : ByteArray} {mL dc idx i : Nat} {ret : Option FieldType} {as : List AV} {r : Int32} (hi : i < 2) (hM : Ctg ad ca D wf y cb mL ret dc (vR (some (202 + i)) :: as) M (QI r M)) (hC : CalF y cb mL ret as.length) (hV : Cond.instanceMethod y ∈ lw_g ∧ Cond.selects "java/lang/String" y y ∈ lw_g) (hlink : Cond.methodLink own idx y ∈ lw_g) (hdc : dc + 1 ≤ d) (hst : (st.map catA).sum ≤ 8) (hd : decode cc pc = .ok (.invokevirtual idx, 3)) (k : Jg ad ca D wf cc own nL d Γ (pc + 3) lv (vI r :: st) M) : Jg ad ca D wf cc own nL d Γ pc lv (as.reverse ++ vR (some (202 + i)) :: st) M := by
  intro p l e R s m args below meth c H locs cells slots Z ls hg hc hP hD hS hl
  have hts := hc.2.2.2.2.1
  have hfr := hc.2.2.2.2.2.2.2.2.1
  have hcb : CallB R s args own idx y cb mL ret (.code y cb mL ret :: lw_g) (rmd dc) 0 0 as.length := by
    refine callB_of as.length hts (good_in hC.1) rfl rfl rfl (hts _ hC.2.1) (hts _ hlink) ⟨hC.2.2.1.1, hC.2.2.1.2, hC.2.2.2.1⟩ ⟨?_, ?_⟩
    · show dc + 1 ≤ R.frames
      omega
    · show 8 + (mL + 11) + 40 * dc ≤ R.locals
      have := hC.2.2.2.2
      omega
  have hpre : ∀ U : State, U.heap = H → s.WarmedH U.vm → va_Pc ((vR (some (202 + i)) :: as).map (cv ad)) (Wdg ad ca D wf M) ((vR (some (202 + i)) :: as).map (cv ad)).toArray U := fun U hU hW => ⟨rfl, by rw [hU]; exact hP, va_K.moved hW.alike hc.2.2.2.2.2.1, by rw [hU]; exact (hc.2.2.2.2.2.2.1.kept hS.2.1).warm hW, hD⟩
  have hstk : ((as.reverse ++ vR (some (202 + i)) :: st).map (cv ad)) = (as.map (cv ad)).reverse ++ .ref (ad (202 + i)) :: st.map (cv ad) := by
    rw [List.map_append, List.map_reverse]
    rfl
  have hr := va_runV (e := e) (As := as.map (cv ad)) (rest := st.map (cv ad)) (g := F0 m pc ls ((as.reverse ++ vR (some (202 + i)) :: st).map (cv ad))) (H := H) (locs := locs) (cells := cells) (slots := slots) (R := R) (below := below) (meth := meth) (C := "java/lang/String") (b := ad (202 + i)) (n := as.length) ⟨hc.1, hc.2.1, hc.2.2.1, hc.2.2.2.1, hts⟩ (hM l) ⟨hcb, hts _ hV.1, hts _ hV.2⟩ ⟨blind _, vk_recv (adK := fun i => ad (202 + i)) (i := i) hc.2.2.2.2.2.2.1.2.2.2.2.1 hi hS, hpre⟩ rfl (by simp) hl.1 hstk (lv_room (by rw [cat_sum]; exact hst)) hd ⟨hc.2.2.2.2.2.2.2.2.2.1, hc.2.2.2.2.2.2.2.2.2.2⟩
  refine J_run (y := y) (cb := cb) (mL := mL) (dc := dc) (idx := idx) (ret := ret) (as := as) hr hg hc hS hl ?_
  rintro _ _ ⟨rfl, rfl⟩
  exact k
def aCp (M : Mem) (r0 : Option Nat) (sp : Int32) (r1 : Option Nat) (dp n : Int32) : Option Mem := match r0, r1 with
  | some k0, some k1 => match sh k0, sh k1 with
    | some (.inr (2, n0)), some (.inr (2, n1)) => if ¬ sp < 0 ∧ ¬ dp < 0 ∧ ¬ n < 0 ∧ sp.toNatClampNeg + n.toNatClampNeg ≤ n0 ∧ dp.toNatClampNeg + n.toNatClampNeg ≤ n1 ∧ (List.range n.toNatClampNeg).all (fun i => fits .byte (.int (M.1 k0 (sp.toNatClampNeg + i)))) = true then some (va_up M.1 k1 (va_cpy (M.1 k0) (M.1 k1) sp.toNatClampNeg dp.toNatClampNeg n.toNatClampNeg), M.2) else none
    | _, _ => none
  | _, _ => none
theorem cp_w : Cond.native arraycopyName ∈ lw_g ∧ Cond.static arraycopyName ∈ lw_g ∧ Cond.initialized "java/lang/System" ∈ lw_g := ⟨mg (i := 1059) (by decide +kernel) rfl, mg (i := 1058) (by decide +kernel) rfl, mg (i := 141) (by decide +kernel) rfl⟩
theorem J_copy {idx : Nat} {r0 r1 : Option Nat} {sp dp n : Int32} {M' : Mem} (hx : aCp M r0 sp r1 dp n = some M') (hlink : Cond.methodLink own idx arraycopyName ∈ lw_g) (hdc : 1 ≤ d) (hst : (st.map catA).sum ≤ 8) (hd : decode cc pc = .ok (.invokestatic idx, 3)) (k : J ad ca D cc own nL d Γ (pc + 3) lv st M') : J ad ca D cc own nL d Γ pc lv (vI n :: vI dp :: vR r1 :: vI sp :: vR r0 :: st) M := by
  unfold aCp at hx
  split at hx
  · rename_i k0 k1
    split at hx
    · rename_i n0 n1 hs0 hs1
      obtain ⟨⟨g1, g2, g3, g4, g5, g6⟩, hx⟩ := grd hx
      cases hx
      intro p l e R s m args below meth c H locs cells slots Z ls hg hc hP hD hS hl
      have hts := hc.2.2.2.2.1
      have hfr := hc.2.2.2.2.2.2.2.2.1
      refine va_copyi (D := D) (cl := vwCl) (tys := tysOf ca) (ty := .byte) hc.1 hc.2.1 (hc.2.2.1.trans hl.1.symm) hc.2.2.2.1 (hts _ hlink) (hts _ cp_w.1) (hts _ cp_w.2.1) (hts _ cp_w.2.2) hc.2.2.2.2.2.1 hP hD hS k0 k1 2 2 ((ws_get hs0).trans (by rw [cell_arr (by decide)])) ((ws_get hs1).trans (by rw [cell_arr (by decide)])) rfl rfl rfl g1 g2 g3 g4 g5 (fun i hi => List.all_eq_true.mp g6 i (List.mem_range.mpr hi)) (by omega) (by
        rw [cat_sum]
        have e : nativeFrameWords "java/lang/System" "arraycopy" 5 = 7 := by decide
        omega) hd (fun H1 locs1 hP1 _ hS1 => ?_)
      refine k p l e R s m args below meth c H1 locs1 cells slots Z ls hg hc ?_ (ws_Dc hD) hS1 hl
      rw [← ws_set (M := M) (M' := (va_up M.1 k1 (va_cpy (M.1 k0) (M.1 k1) sp.toNatClampNeg dp.toNatClampNeg n.toNatClampNeg), M.2)) hs1 (e := .inl (ca 2, n1, .inl (va_cpy (M.1 k0) (M.1 k1) sp.toNatClampNeg dp.toNatClampNeg n.toNatClampNeg))) (by rw [cell_arr (by decide)]; show _ = (Sum.inl (ca 2, n1, .inl (va_up M.1 k1 _ k1)) : va_E); unfold va_up; rw [if_pos rfl]) (fun j hj => by show va_up M.1 k1 _ j = M.1 j; unfold va_up; rw [if_neg hj]) (fun j hj => rfl)]
      exact hP1
    · cases hx
  · cases hx
end JT
theorem cf_J3_checkIndex_8e157 : CalF yJ3_checkIndex_8e157 cJ3_checkIndex_8e157 3 (some .int) 3 := ⟨mg (i := 392) (by decide +kernel) rfl, mg (i := 136) (by decide +kernel) rfl, ⟨by decide, by decide⟩, by decide +kernel, by decide⟩
theorem cv_J3_checkIndex_8e157 : Cond.static yJ3_checkIndex_8e157 ∈ lw_g := mg (i := 391) (by decide +kernel) rfl
theorem cf_J0_checkIndex_df160 : CalF yJ0_checkIndex_df160 cJ0_checkIndex_df160 2 none 2 := ⟨mg (i := 387) (by decide +kernel) rfl, mg (i := 133) (by decide +kernel) rfl, ⟨by decide, by decide⟩, by decide +kernel, by decide⟩
theorem cv_J0_checkIndex_df160 : Cond.static yJ0_checkIndex_df160 ∈ lw_g := mg (i := 386) (by decide +kernel) rfl
theorem cf_J1_charAt_3b067 : CalF yJ1_charAt_3b067 cJ1_charAt_3b067 2 (some .char) 2 := ⟨mg (i := 384) (by decide +kernel) rfl, mg (i := 135) (by decide +kernel) rfl, ⟨by decide, by decide⟩, by decide +kernel, by decide⟩
theorem cv_J1_charAt_3b067 : Cond.static yJ1_charAt_3b067 ∈ lw_g := mg (i := 383) (by decide +kernel) rfl
theorem cf_J0_isLatin1_aae02 : CalF yJ0_isLatin1_aae02 cJ0_isLatin1_aae02 1 (some .boolean) 0 := ⟨mg (i := 381) (by decide +kernel) rfl, mg (i := 133) (by decide +kernel) rfl, ⟨by decide, by decide⟩, by decide +kernel, by decide⟩
theorem cv_J0_isLatin1_aae02 : Cond.instanceMethod yJ0_isLatin1_aae02 ∈ lw_g ∧ Cond.selects "java/lang/String" yJ0_isLatin1_aae02 yJ0_isLatin1_aae02 ∈ lw_g := ⟨mg (i := 379) (by decide +kernel) rfl, mg (i := 380) (by decide +kernel) rfl⟩
theorem cf_J0_coder_7d493 : CalF yJ0_coder_7d493 cJ0_coder_7d493 1 (some .byte) 0 := ⟨mg (i := 368) (by decide +kernel) rfl, mg (i := 133) (by decide +kernel) rfl, ⟨by decide, by decide⟩, by decide +kernel, by decide⟩
theorem cv_J0_coder_7d493 : Cond.instanceMethod yJ0_coder_7d493 ∈ lw_g ∧ Cond.selects "java/lang/String" yJ0_coder_7d493 yJ0_coder_7d493 ∈ lw_g := ⟨mg (i := 366) (by decide +kernel) rfl, mg (i := 367) (by decide +kernel) rfl⟩
theorem cf_J0_charAt_5068e : CalF yJ0_charAt_5068e cJ0_charAt_5068e 2 (some .char) 1 := ⟨mg (i := 377) (by decide +kernel) rfl, mg (i := 133) (by decide +kernel) rfl, ⟨by decide, by decide⟩, by decide +kernel, by decide⟩
theorem cv_J0_charAt_5068e : Cond.instanceMethod yJ0_charAt_5068e ∈ lw_g ∧ Cond.selects "java/lang/String" yJ0_charAt_5068e yJ0_charAt_5068e ∈ lw_g := ⟨mg (i := 375) (by decide +kernel) rfl, mg (i := 376) (by decide +kernel) rfl⟩
theorem cf_J0_length_8abf5 : CalF yJ0_length_8abf5 cJ0_length_8abf5 1 (some .int) 0 := ⟨mg (i := 364) (by decide +kernel) rfl, mg (i := 133) (by decide +kernel) rfl, ⟨by decide, by decide⟩, by decide +kernel, by decide⟩
theorem cv_J0_length_8abf5 : Cond.instanceMethod yJ0_length_8abf5 ∈ lw_g ∧ Cond.selects "java/lang/String" yJ0_length_8abf5 yJ0_length_8abf5 ∈ lw_g := ⟨mg (i := 362) (by decide +kernel) rfl, mg (i := 363) (by decide +kernel) rfl⟩
theorem ml_J0_335 : Cond.methodLink "java/lang/String" 335 yJ0_coder_7d493 ∈ lw_g := mg (i := 365) (by decide +kernel) rfl
theorem ml_J0_492 : Cond.methodLink "java/lang/String" 492 yJ0_isLatin1_aae02 ∈ lw_g := mg (i := 378) (by decide +kernel) rfl
theorem ml_J0_495 : Cond.methodLink "java/lang/String" 495 yJ1_charAt_3b067 ∈ lw_g := mg (i := 382) (by decide +kernel) rfl
theorem ml_J1_9 : Cond.methodLink "java/lang/StringLatin1" 9 yJ0_checkIndex_df160 ∈ lw_g := mg (i := 385) (by decide +kernel) rfl
theorem ml_J0_1059 : Cond.methodLink "java/lang/String" 1059 yJ3_checkIndex_8e157 ∈ lw_g := mg (i := 390) (by decide +kernel) rfl
set_option maxRecDepth 100000 in
theorem tJ3_checkIndex {wf : Mem → va_W} {ad : Nat → Nat} {ca : Nat → ClassId} {D : va_G} {d : Nat} {M : Mem} {i n : Int32} {q : Option Nat} (h1 : ¬ i < 0) (h2 : i < n) : Ctg ad ca D wf yJ3_checkIndex_8e157 cJ3_checkIndex_8e157 3 (some .int) (d + 0) [vI i, vI n, vR q] M (QI i M) := by
  refine Ct_of (by decide) (Nat.le_of_ble_eq_true rfl) ?_
  show Jg ad ca D wf cJ3_checkIndex_8e157 "jdk/internal/util/Preconditions" 3 (d + 0) (Gtg ad wf D (some .int) (QI i M)) 0 [(0, vI i), (1, vI n), (2, vR q)] [] M
  refine J_iload_n (pc := 0) (q := 0) rfl rfl dJ3_checkIndex_8e157_0 ?_
  refine J_iflt (pc := 1) (tgt := 9) (by decide) dJ3_checkIndex_8e157_1 (fun hc => absurd hc h1) (fun hc => ?_)
  refine J_iload_n (pc := 4) (q := 0) rfl rfl dJ3_checkIndex_8e157_4 ?_
  refine J_iload_n (pc := 5) (q := 1) rfl rfl dJ3_checkIndex_8e157_5 ?_
  refine J_iclt (pc := 6) (tgt := 16) (by decide) dJ3_checkIndex_8e157_6 (fun hc => ?_) (fun hc => absurd h2 hc)
  refine J_iload_n (pc := 16) (q := 0) rfl rfl dJ3_checkIndex_8e157_16 ?_
  exact J_iret (pc := 17) ⟨rfl, rfl⟩ dJ3_checkIndex_8e157_17
set_option maxRecDepth 100000 in
theorem tJ0_checkIndex {wf : Mem → va_W} {ad : Nat → Nat} {ca : Nat → ClassId} {D : va_G} {d : Nat} {M : Mem} {i n : Int32} (h1 : ¬ i < 0) (h2 : i < n) : Ctg ad ca D wf yJ0_checkIndex_df160 cJ0_checkIndex_df160 2 none (d + 1) [vI i, vI n] M (QV M) := by
  refine Ct_of (by decide) (Nat.le_of_ble_eq_true rfl) ?_
  show Jg ad ca D wf cJ0_checkIndex_df160 "java/lang/String" 2 (d + 1) (Gtg ad wf D none (QV M)) 0 [(0, vI i), (1, vI n)] [] M
  refine J_iload_n (pc := 0) (q := 0) rfl rfl dJ0_checkIndex_df160_0 ?_
  refine J_iload_n (pc := 1) (q := 1) rfl rfl dJ0_checkIndex_df160_1 ?_
  refine J_getsF (pc := 2) rfl dJ0_checkIndex_df160_2 (fun q => ?_)
  refine J_callSI (pc := 5) (as := [vI i, vI n, vR q]) (tJ3_checkIndex (d := d) h1 h2) cf_J3_checkIndex_8e157 cv_J3_checkIndex_8e157 ml_J0_1059 (by omega) (Nat.le_of_ble_eq_true rfl) dJ0_checkIndex_df160_5 ?_
  refine J_pop (pc := 8) rfl dJ0_checkIndex_df160_8 ?_
  exact J_vret (pc := 9) ⟨rfl, rfl⟩ dJ0_checkIndex_df160_9
def txc (i : Nat) (j : Int32) : Int32 := (((txL.getD i []).getD j.toNatClampNeg 0 &&& 255).toUInt32 % 65536).toInt32
theorem nar_c (x : Int32) : narrow .char (.int (x.toUInt32 % 65536).toInt32) = .int (x.toUInt32 % 65536).toInt32 := pk_nc x
theorem vp_lt {j : Int32} {n : Nat} (h : vp_in j n) (hn : n < 2 ^ 31) : ¬ j < 0 ∧ j < Int32.ofNat n := by
  obtain ⟨k, hk, rfl⟩ := vp_in_of h hn
  exact ⟨nI_pos (by omega), nI_lt hk hn⟩
theorem txN_lt {i : Nat} (hi : i < 2) : txN.getD i 0 < 2 ^ 31 := by
  rcases (show i = 0 ∨ i = 1 by omega) with rfl | rfl <;> decide
set_option maxRecDepth 100000 in
theorem tJ1_charAt {wf : Mem → va_W} {ad : Nat → Nat} {ca : Nat → ClassId} {D : va_G} {d : Nat} {M : Mem} {i : Nat} {j : Int32} (hi : i < 2) (hj : vp_in j (txN.getD i 0)) : Ctg ad ca D wf yJ1_charAt_3b067 cJ1_charAt_3b067 2 (some .char) (d + 2) [vR (some (204 + i)), vI j] M (QI (txc i j) M) := by
  refine Ct_of (by decide) (Nat.le_of_ble_eq_true rfl) ?_
  show Jg ad ca D wf cJ1_charAt_3b067 "java/lang/StringLatin1" 2 (d + 2) (Gtg ad wf D (some .char) (QI (txc i j) M)) 0 [(0, vR (some (204 + i))), (1, vI j)] [] M
  obtain ⟨h1, h2⟩ := vp_lt hj (txN_lt hi)
  refine J_iload_n (pc := 0) (q := 1) rfl rfl dJ1_charAt_3b067_0 ?_
  refine J_aload_n (pc := 1) (q := 0) rfl rfl dJ1_charAt_3b067_1 ?_
  refine J_txlen (pc := 2) hi dJ1_charAt_3b067_2 ?_
  refine J_callSV (pc := 3) (as := [vI j, vI (Int32.ofNat (txN.getD i 0))]) (tJ0_checkIndex (d := d) h1 h2) cf_J0_checkIndex_df160 cv_J0_checkIndex_df160 ml_J1_9 (by omega) (Nat.le_of_ble_eq_true rfl) dJ1_charAt_3b067_3 ?_
  refine J_aload_n (pc := 6) (q := 0) rfl rfl dJ1_charAt_3b067_6 ?_
  refine J_iload_n (pc := 7) (q := 1) rfl rfl dJ1_charAt_3b067_7 ?_
  refine J_txb (pc := 8) hi hj dJ1_charAt_3b067_8 ?_
  refine J_sipush (pc := 9) (v := (255 : Int32)) (by decide) dJ1_charAt_3b067_9 ?_
  refine J_iand (pc := 12) dJ1_charAt_3b067_12 ?_
  refine J_i2c (pc := 13) dJ1_charAt_3b067_13 ?_
  exact J_nret (pc := 14) (nar_c _) ⟨rfl, rfl⟩ dJ1_charAt_3b067_14
set_option maxRecDepth 100000 in
theorem tJ0_isLatin1 {wf : Mem → va_W} {ad : Nat → Nat} {ca : Nat → ClassId} {D : va_G} {d : Nat} {M : Mem} {i : Nat} (hi : i < 2) : Ctg ad ca D wf yJ0_isLatin1_aae02 cJ0_isLatin1_aae02 1 (some .boolean) (d + 0) [vR (some (202 + i))] M (QI 1 M) := by
  refine Ct_of (by decide) (Nat.le_of_ble_eq_true rfl) ?_
  show Jg ad ca D wf cJ0_isLatin1_aae02 "java/lang/String" 1 (d + 0) (Gtg ad wf D (some .boolean) (QI 1 M)) 0 [(0, vR (some (202 + i)))] [] M
  refine J_getsC (pc := 0) rfl dJ0_isLatin1_aae02_0 ?_
  refine J_ifeq (pc := 3) (tgt := 17) (by decide) dJ0_isLatin1_aae02_3 (fun hc => absurd hc (by decide)) (fun _ => ?_)
  refine J_aload_n (pc := 6) (q := 0) rfl rfl dJ0_isLatin1_aae02_6 ?_
  refine J_txC (pc := 7) hi rfl dJ0_isLatin1_aae02_7 ?_
  refine J_ifne (pc := 10) (tgt := 17) (by decide) dJ0_isLatin1_aae02_10 (fun hc => absurd rfl hc) (fun _ => ?_)
  refine J_iconst (pc := 13) (v := (1 : Int32)) (by decide) dJ0_isLatin1_aae02_13 ?_
  refine J_goto (pc := 14) (tgt := 18) (by decide) dJ0_isLatin1_aae02_14 ?_
  exact J_zret (pc := 18) (Or.inr rfl) ⟨rfl, rfl⟩ dJ0_isLatin1_aae02_18
set_option maxRecDepth 100000 in
theorem tJ0_coder {wf : Mem → va_W} {ad : Nat → Nat} {ca : Nat → ClassId} {D : va_G} {d : Nat} {M : Mem} {i : Nat} (hi : i < 2) : Ctg ad ca D wf yJ0_coder_7d493 cJ0_coder_7d493 1 (some .byte) (d + 0) [vR (some (202 + i))] M (QI 0 M) := by
  refine Ct_of (by decide) (Nat.le_of_ble_eq_true rfl) ?_
  show Jg ad ca D wf cJ0_coder_7d493 "java/lang/String" 1 (d + 0) (Gtg ad wf D (some .byte) (QI 0 M)) 0 [(0, vR (some (202 + i)))] [] M
  refine J_getsC (pc := 0) rfl dJ0_coder_7d493_0 ?_
  refine J_ifeq (pc := 3) (tgt := 13) (by decide) dJ0_coder_7d493_3 (fun hc => absurd hc (by decide)) (fun _ => ?_)
  refine J_aload_n (pc := 6) (q := 0) rfl rfl dJ0_coder_7d493_6 ?_
  refine J_txC (pc := 7) hi rfl dJ0_coder_7d493_7 ?_
  refine J_goto (pc := 10) (tgt := 14) (by decide) dJ0_coder_7d493_10 ?_
  exact J_nret (pc := 14) rfl ⟨rfl, rfl⟩ dJ0_coder_7d493_14
set_option maxRecDepth 100000 in
theorem tJ0_charAt {wf : Mem → va_W} {ad : Nat → Nat} {ca : Nat → ClassId} {D : va_G} {d : Nat} {M : Mem} {i : Nat} {j : Int32} (hi : i < 2) (hj : vp_in j (txN.getD i 0)) : Ctg ad ca D wf yJ0_charAt_5068e cJ0_charAt_5068e 2 (some .char) (d + 3) [vR (some (202 + i)), vI j] M (QI (txc i j) M) := by
  refine Ct_of (by decide) (Nat.le_of_ble_eq_true rfl) ?_
  show Jg ad ca D wf cJ0_charAt_5068e "java/lang/String" 2 (d + 3) (Gtg ad wf D (some .char) (QI (txc i j) M)) 0 [(0, vR (some (202 + i))), (1, vI j)] [] M
  refine J_aload_n (pc := 0) (q := 0) rfl rfl dJ0_charAt_5068e_0 ?_
  refine J_callT (pc := 1) (as := []) hi (tJ0_isLatin1 (d := d) hi) cf_J0_isLatin1_aae02 cv_J0_isLatin1_aae02 ml_J0_492 (by omega) (Nat.le_of_ble_eq_true rfl) dJ0_charAt_5068e_1 ?_
  refine J_ifeq (pc := 4) (tgt := 16) (by decide) dJ0_charAt_5068e_4 (fun hc => absurd hc (by decide)) (fun _ => ?_)
  refine J_aload_n (pc := 7) (q := 0) rfl rfl dJ0_charAt_5068e_7 ?_
  refine J_txV (pc := 8) hi rfl dJ0_charAt_5068e_8 ?_
  refine J_iload_n (pc := 11) (q := 1) rfl rfl dJ0_charAt_5068e_11 ?_
  refine J_callSI (pc := 12) (as := [vR (some (204 + i)), vI j]) (tJ1_charAt (d := d) hi hj) cf_J1_charAt_3b067 cv_J1_charAt_3b067 ml_J0_495 (by omega) (Nat.le_of_ble_eq_true rfl) dJ0_charAt_5068e_12 ?_
  exact J_nret (pc := 15) (nar_c _) ⟨rfl, rfl⟩ dJ0_charAt_5068e_15
set_option maxRecDepth 100000 in
theorem tJ0_length {wf : Mem → va_W} {ad : Nat → Nat} {ca : Nat → ClassId} {D : va_G} {d : Nat} {M : Mem} {i : Nat} (hi : i < 2) : Ctg ad ca D wf yJ0_length_8abf5 cJ0_length_8abf5 1 (some .int) (d + 1) [vR (some (202 + i))] M (QI (Int32.ofNat (txN.getD i 0)) M) := by
  refine Ct_of (by decide) (Nat.le_of_ble_eq_true rfl) ?_
  show Jg ad ca D wf cJ0_length_8abf5 "java/lang/String" 1 (d + 1) (Gtg ad wf D (some .int) (QI (Int32.ofNat (txN.getD i 0)) M)) 0 [(0, vR (some (202 + i)))] [] M
  refine J_aload_n (pc := 0) (q := 0) rfl rfl dJ0_length_8abf5_0 ?_
  refine J_txV (pc := 1) hi rfl dJ0_length_8abf5_1 ?_
  refine J_txlen (pc := 4) hi dJ0_length_8abf5_4 ?_
  refine J_aload_n (pc := 5) (q := 0) rfl rfl dJ0_length_8abf5_5 ?_
  refine J_callT (pc := 6) (as := []) hi (tJ0_coder (d := d) hi) cf_J0_coder_7d493 cv_J0_coder_7d493 ml_J0_335 (by omega) (Nat.le_of_ble_eq_true rfl) dJ0_length_8abf5_6 ?_
  refine J_ishr (pc := 9) dJ0_length_8abf5_9 ?_
  have e : Int32.ofNat (txN.getD i 0) >>> ((0 : Int32) &&& 31) = Int32.ofNat (txN.getD i 0) := by
    rcases (show i = 0 ∨ i = 1 by omega) with rfl | rfl <;> decide
  rw [e]
  exact J_iret (pc := 10) ⟨rfl, rfl⟩ dJ0_length_8abf5_10
/-- the char of a text, where there is one -/
def txA (i : Nat) (j : Int32) : Option Int32 := if j < 0 ∨ txN.getD i 0 ≤ j.toNatClampNeg then none else some (txc i j)
theorem txA_in {i : Nat} {j x : Int32} (h : txA i j = some x) : vp_in j (txN.getD i 0) ∧ txc i j = x := by
  unfold txA at h
  split at h
  · cases h
  · rename_i hn
    exact ⟨hn, Option.some.inj h⟩
