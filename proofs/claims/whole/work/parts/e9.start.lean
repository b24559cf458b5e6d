/-! the law's entry: both objects made -/
section Ent2
variable {ad ad0 : Nat → Nat} {ca : Nat → ClassId} {D : va_G} {d cl sl : Nat} {b L : Nat} {xs : Nat → Int32}
/-- the law's context while its objects are made -/
def Gn (ad0 : Nat → Nat) (b L : Nat) (xs : Nat → Int32) (cl sl : Nat) : Gm := fun p l e R s m args below meth c cells slots Z => Gl ad0 b L xs p l e R s m args below meth c cells slots Z ∧ cells + cl ≤ 600000 ∧ slots + sl ≤ 7302250 ∧ ad0 400 ≤ s.heap.size ∧ NW s
theorem Gn_stp {c1 s1 : Nat} (h0 : ad0 400 = ad 400) : StpG ad (Gn ad0 b L xs (cl + c1) (sl + s1)) (Gn ad0 b L xs cl sl) c1 s1 := by
  intro p l e R s m args below meth c cells slots Z hg
  obtain ⟨⟨a1, a2, a3, a4, a5, a6, a7, a8, a9, a10, a11⟩, h1, h2, h3, h4⟩ := hg
  subst a3
  exact ⟨⟨⟨a1, a2, rfl, a4, a5, a6, a7, a8, a9, by omega, by omega⟩, by omega, by omega, h3, h4⟩, by show cells + c1 ≤ 600000; omega, by show slots + s1 ≤ 7302250; omega, by omega, h4⟩
theorem Gn_scr (h0 : ad0 400 = ad 400) (h3 : ad0 300 = ad 300) : ScG ad b L xs (Gn ad0 b L xs cl sl) := by
  intro p l e R s m args below meth c cells slots Z hg
  obtain ⟨⟨a1, a2, a3, a4, a5, a6, a7, a8, a9, a10, a11⟩, h1, h2, h3, h4⟩ := hg
  exact ⟨a6, a7, by omega, by omega⟩
theorem Gn_gl (h0 : ad0 400 = ad 400) (h3 : ad0 300 = ad 300) : ∀ (p : Program) (l : Launch) (e : Env) (R : Room) (s : State) (m : MethodId) (args : Array Value) (below : List Frame) (meth : Method) (c : Code) (cells slots : Nat) (Z : State → Prop), Gn ad0 b L xs cl sl p l e R s m args below meth c cells slots Z → Gl ad b L xs p l e R s m args below meth c cells slots Z := by
  intro p l e R s m args below meth c cells slots Z hg
  obtain ⟨⟨a1, a2, a3, a4, a5, a6, a7, a8, a9, a10, a11⟩, h1, h2, h3, h4⟩ := hg
  exact ⟨a1, a2, a3, a4, a5, a6, a7, by omega, by omega, a10, a11⟩
set_option maxRecDepth 100000 in
set_option maxHeartbeats 1000000 in
theorem law_ent {FU : Nat} (hF : 99999999 ≤ FU) (hL : L ≤ 3073) : Jg ad ca D (wsL ad ca []) cL_law RL 4 (d + 124) (Gn ad b L xs 85 80562) 0 [(0, vR (some 300))] [] M0 := by
  obtain ⟨p, p3, p8, e8, e9⟩ := mod6 (s0 L xs)
  obtain ⟨N, hN⟩ := law_start (FU := FU) (p := p) (I := JJ (s0 L xs)) (nm := none) (hd := none) (rd := some 50) (L := L) (xs := xs) hF p3 p8 (st8_0 e8) (st9_0 e9) hL
  have hE0 : Ext [] ad ad := Ext.rfl
  have z0 : Zr [0] M0 := zr_0 (by decide)
  refine K_new (pc := 0) (k := 0) (ci := 8) (Gn_stp (cl := 84) (sl := 80552) (c1 := 1) (s1 := 10) rfl) rfl (by decide) (by decide) (z0 0 (by decide)).1 (z0 0 (by decide)).2 (fun j hj => by cases hj) clF8 df_X8 rfl rfl cl_RL_7 in_X8 iz_X8 dL_law_0 (fun ad1 he1 => ?_)
  have hE1 := Ext.trans hE0 he1
  refine J_dup (pc := 3) rfl dL_law_3 ?_
  refine J_aload_n (pc := 4) (q := 0) rfl rfl dL_law_4 ?_
  refine J_iconst (pc := 5) (v := (0 : Int32)) (by decide) dL_law_5 ?_
  refine K_scr (pc := 6) hL (Gn_scr (hE1 400 (by decide)).symm (hE1 300 (by decide)).symm) ml_RL_9 (by omega) (Nat.le_of_ble_eq_true rfl) dL_law_6 ?_
  refine K_call (pc := 9) (k := 0) (as := [vI (s0 L xs)]) (new1 := new_X8_init_0) (N1 := n8 (s0 L xs) M0) ml_RL_15 (Gn_stp (cl := 25) (sl := 30250) (c1 := 59) (s1 := 50302) (hE1 400 (by decide)).symm) (kX8_init_0 (d := d) (fun j hj i c hc => (Rf.grow (ks := []) (k := 0) (fun j hj => by cases hj) (z0 0 (by decide)).2) j hj i c hc) (zr_0 (by decide)) h40_0) (by intro j hj h9; have h8 := List.all_eq_true.mp (show new_X8_init_0.all (fun z => decide (z < 200)) = true from rfl) j h9; have h7 := of_decide_eq_true h8; omega) cf_X8_init rfl iv_X8_init rfl rfl (by omega) (Nat.le_of_ble_eq_true rfl) dL_law_9 (fun ad2 he2 => ?_)
  have hE2 := Ext.trans hE1 he2
  refine J_astore_n (pc := 12) rfl (by decide) (lv' := [(0, vR (some 300)), (1, vR (some 0))]) rfl dL_law_12 ?_
  have z8 : Zr [60] (n8 (s0 L xs) M0) := zr_8 _ (by decide)
  have r8 := rf_8 (s0 L xs)
  refine K_new (pc := 13) (k := 60) (ci := 9) (Gn_stp (cl := 24) (sl := 30204) (c1 := 1) (s1 := 46) (hE2 400 (by decide)).symm) rfl (by decide) (by decide) (z8 60 (by decide)).1 (z8 60 (by decide)).2 r8 clF9 df_X9 rfl rfl cl_RL_18 in_X9 iz_X9 dL_law_13 (fun ad3 he3 => ?_)
  have hE3 := Ext.trans hE2 he3
  refine J_dup (pc := 16) rfl dL_law_16 ?_
  refine J_aload_n (pc := 17) (q := 0) rfl rfl dL_law_17 ?_
  refine J_iconst (pc := 18) (v := (0 : Int32)) (by decide) dL_law_18 ?_
  refine K_scr (pc := 19) hL (Gn_scr (hE3 400 (by decide)).symm (hE3 300 (by decide)).symm) ml_RL_9 (by omega) (Nat.le_of_ble_eq_true rfl) dL_law_19 ?_
  refine K_call (pc := 22) (k := 60) (as := [vI (s0 L xs)]) (new1 := new_60) (N1 := (JJ (s0 L xs), R0 none none none (some 50))) ml_RL_20 (Gn_stp (cl := 0) (sl := 0) (c1 := 24) (s1 := 30204) (hE3 400 (by decide)).symm) (kX9_init (d := d) (FU := FU) (Rf.grow (k := 60) r8 (z8 60 (by decide)).2) (zr_8 _ (by decide)) (mem_0 (FU := FU) (s0 L xs))) (by intro j hj h9; have h8 := List.all_eq_true.mp (show new_60.all (fun z => decide (z < 200)) = true from rfl) j h9; have h7 := of_decide_eq_true h8; omega) cf_X9_init rfl iv_X9_init rfl rfl (by omega) (Nat.le_of_ble_eq_true rfl) dL_law_22 (fun ad4 he4 => ?_)
  have hE4 := Ext.trans hE3 he4
  refine J_astore_n (pc := 25) rfl (by decide) (lv' := [(0, vR (some 300)), (1, vR (some 0)), (2, vR (some 60))]) rfl dL_law_25 ?_
  refine J_iconst (pc := 26) (v := nI 1) (by decide) dL_law_26 ?_
  refine J_istore_n (pc := 27) rfl (by decide) (lv' := [(0, vR (some 300)), (1, vR (some 0)), (2, vR (some 60)), (3, vI (nI 1))]) rfl dL_law_27 ?_
  refine J_full kz_full ?_
  exact Jg_mono (Gn_gl (hE4 400 (by decide)).symm (hE4 300 (by decide)).symm) (jL_law_L28 (FU := FU) (d := d) (N := N) FU (nI 1) _ hN)
end Ent2
/-- the law, from its entry -/
theorem whole_start {p : Program} {e : Env} {s : State} {m : MethodId} {below : List Frame} {meth : Method} {c : Code} (l : Launch) {b L : Nat} {xs : Nat → Int32} (hL : L ≤ 3073) (C0 : lw_At p s m meth c b L xs) : W p l e room_1 s m #[Value.ref b] below meth c s.heap [] 0 0 (lw_Z below #[Value.ref b] s) (entryFrame m ([Value.ref b] : List Value).toArray 4) := by
  obtain ⟨hx, hb, hr, hml, hown, hts, hX, hbl, hlocks, hgv⟩ := id C0
  obtain ⟨ad, a3, a4, hSC⟩ := sc_ent C0
  obtain ⟨D, ca, hK⟩ := k_ent hts
  subst a3
  have hl := lv_entry (([vR (some 300)] : List AV).map (cv ad)) (n := 4) (by rw [sl_len]; exact Nat.le_of_ble_eq_true rfl)
  rw [lg_entry_eq]
  rw [lvA_ok] at hl
  exact law_ent (ad := ad) (ca := ca) (D := D) (d := 0) (FU := 99999999) (Nat.le_refl _) hL p l e room_1 s m _ below meth c s.heap [] 0 0 _ _ ⟨⟨rfl, rfl, rfl, hr, hlocks, hX, hbl, rfl, by omega, Nat.zero_le _, Nat.zero_le _⟩, Nat.le_of_ble_eq_true rfl, Nat.le_of_ble_eq_true rfl, by omega, nw_ent hts⟩ ⟨hx, hb, hml, hown, fun w hw => hts w (List.mem_filter.mp hw).1, hK, hSC, trivial, ⟨Nat.le_of_ble_eq_true rfl, Nat.le_of_ble_eq_true rfl⟩, Nat.zero_le _, Nat.zero_le _⟩ (fun k q h => by cases h) ⟨(fun i j p q h => by cases h), (fun k q h => by cases h)⟩ va_S.rf hl
