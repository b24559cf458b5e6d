/-! constructors: the world over a list ks of cells that exist so far -/
def cellK (ad : Nat → Nat) (ca : Nat → ClassId) (M : Mem) (k : Nat) : va_E := match sh k with
  | some x => cellOf ad ca M k x
  | none => .inr (0, [])
def wsL (ad : Nat → Nat) (ca : Nat → ClassId) (ks : List Nat) (M : Mem) : va_W := ks.map (fun k => (ad k, cellK ad ca M k))
theorem cellK_eq {ad : Nat → Nat} {ca : Nat → ClassId} {M : Mem} {k : Nat} {x : Shp} (h : sh k = some x) : cellK ad ca M k = cellOf ad ca M k x := by
  unfold cellK
  rw [h]
theorem wsL_at {ad : Nat → Nat} {ca : Nat → ClassId} {M : Mem} {ks : List Nat} {p k : Nat} {x : Shp} (hp : ks[p]? = some k) (h : sh k = some x) : (wsL ad ca ks M)[p]? = some (ad k, cellOf ad ca M k x) := by
  unfold wsL
  rw [List.getElem?_map, hp]
  show some (ad k, cellK ad ca M k) = _
  rw [cellK_eq h]
theorem cellK_cong {ad : Nat → Nat} {ca : Nat → ClassId} {M M' : Mem} {k : Nat} (h1 : M'.1 k = M.1 k) (h2 : M'.2 k = M.2 k) : cellK ad ca M' k = cellK ad ca M k := by
  unfold cellK
  cases sh k with
  | none => rfl
  | some x => exact cell_cong h1 h2 x
theorem wsL_set {ad : Nat → Nat} {ca : Nat → ClassId} {M M' : Mem} {ks : List Nat} {p k : Nat} {x : Shp} {e : va_E} (hn : va_nd ks = true) (hp : ks[p]? = some k) (h : sh k = some x) (he : e = cellOf ad ca M' k x) (h1 : ∀ j, j ≠ k → M'.1 j = M.1 j) (h2 : ∀ j, j ≠ k → M'.2 j = M.2 j) : (wsL ad ca ks M).set p (ad k, e) = wsL ad ca ks M' := by
  apply List.ext_getElem?
  intro j
  by_cases hj : j = p
  · subst hj
    rw [List.getElem?_set_self (List.getElem?_eq_some_iff.mp (wsL_at (ad := ad) (ca := ca) (M := M) hp h)).1, wsL_at hp h, he]
  · rw [List.getElem?_set_ne (Ne.symm hj)]
    unfold wsL
    rw [List.getElem?_map, List.getElem?_map]
    cases hk : ks[j]? with
    | none => rfl
    | some c =>
      have hc : c ≠ k := by
        intro e9
        subst e9
        exact hj (va_nd_inj ks hn j p c hk hp)
      simp only [Option.map_some]
      rw [cellK_cong (h1 c hc) (h2 c hc)]
theorem wsL_Dc {A : Nat → Prop} {ad : Nat → Nat} {ca : Nat → ClassId} {ks : List Nat} {M M' : Mem} (h : va_D A (wsL ad ca ks M)) : va_D A (wsL ad ca ks M') := by
  have key : ∀ (i : Nat) (q : Nat × va_E), (wsL ad ca ks M')[i]? = some q → ∃ e, (wsL ad ca ks M)[i]? = some (q.1, e) := by
    intro i q hi
    unfold wsL at hi ⊢
    rw [List.getElem?_map] at hi ⊢
    cases hk : ks[i]? with
    | none => rw [hk] at hi; cases hi
    | some c => rw [hk] at hi; cases hi; exact ⟨_, rfl⟩
  refine ⟨fun i j p q hi hj e => ?_, fun k q hk => ?_⟩
  · obtain ⟨a, ha⟩ := key i p hi
    obtain ⟨b, hb⟩ := key j q hj
    exact h.1 i j _ _ ha hb e
  · obtain ⟨a, ha⟩ := key k q hk
    exact h.2 k (q.1, a) ha
/-- the cells' references lie among the cells -/
def Rf (ks : List Nat) (M : Mem) : Prop := ∀ j, j ∈ ks → ∀ i c, M.2 j i = some c → c ∈ ks
def Ext (l : List Nat) (a b : Nat → Nat) : Prop := ∀ j, j ∉ l → b j = a j
theorem cellK_ad {ad ad' : Nat → Nat} {ca : Nat → ClassId} {M : Mem} {k : Nat} (h : ∀ i c, M.2 k i = some c → ad' c = ad c) : cellK ad' ca M k = cellK ad ca M k := by
  have e : ∀ i, (M.2 k i).map ad' = (M.2 k i).map ad := by
    intro i
    cases hc : M.2 k i with
    | none => rfl
    | some c => exact congrArg some (h i c hc)
  unfold cellK
  cases sh k with
  | none => rfl
  | some x =>
    rcases x with ci | ⟨t, n⟩
    · show (Sum.inr (ci, (List.range (nf ci)).map (fv ad' M ci k)) : va_E) = .inr (ci, (List.range (nf ci)).map (fv ad M ci k))
      have e2 : fv ad' M ci k = fv ad M ci k := by
        funext i
        unfold fv
        rw [e i]
      rw [e2]
    · show (if t < 3 then (Sum.inl (ca t, n, .inl (M.1 k)) : va_E) else .inl (ca t, n, .inr (.inr (.inr (.inr (fun j => (M.2 k j).map ad')))))) = if t < 3 then .inl (ca t, n, .inl (M.1 k)) else .inl (ca t, n, .inr (.inr (.inr (.inr (fun j => (M.2 k j).map ad)))))
      rw [show (fun j => (M.2 k j).map ad') = (fun j => (M.2 k j).map ad) from funext e]
theorem wsL_ad {ad ad' : Nat → Nat} {ca : Nat → ClassId} {ks : List Nat} {M : Mem} (hr : Rf ks M) (h : ∀ k, k ∈ ks → ad' k = ad k) : wsL ad' ca ks M = wsL ad ca ks M := by
  unfold wsL
  apply List.map_congr_left
  intro k hk
  rw [h k hk, cellK_ad (fun i c hc => h c (hr k hk i c hc))]
def okv (l : List Nat) : AV → Bool
  | .inr (.inr (some c)) => decide (c ∉ l)
  | _ => true
theorem cv_ad {l : List Nat} {ad ad' : Nat → Nat} (h : Ext l ad ad') {v : AV} (hv : okv l v = true) : cv ad' v = cv ad v := by
  rcases v with x | x | r
  · rfl
  · rfl
  · cases r with
    | none => rfl
    | some c => exact congrArg Value.ref (h c (of_decide_eq_true hv))
theorem cvs_ad {l : List Nat} {ad ad' : Nat → Nat} (h : Ext l ad ad') {st : List AV} (hv : st.all (okv l) = true) : st.map (cv ad') = st.map (cv ad) := List.map_congr_left (fun v hm => cv_ad h (List.all_eq_true.mp hv v hm))
theorem cvl_ad {l : List Nat} {ad ad' : Nat → Nat} (h : Ext l ad ad') {lv : List (Nat × AV)} (hv : lv.all (fun q => okv l q.2) = true) : cvl ad' lv = cvl ad lv := by
  unfold cvl
  exact List.map_congr_left (fun q hm => by rw [cv_ad h (List.all_eq_true.mp hv q hm)])
theorem SC_ad {l : List Nat} {ad ad' : Nat → Nat} (h : Ext l ad ad') (hl : ∀ j, 200 ≤ j → j ∉ l) {U : State} {H : Heap} (hs : SC ad U H) : SC ad' U H := by
  have e : ∀ j, 200 ≤ j → ad' j = ad j := fun j hj => h j (hl j hj)
  have eA : AA ad' = AA ad := by unfold AA; rw [e 400 (by omega)]
  obtain ⟨h1, h2, h3, h4, h5, h6, h7, h8, h9, q, hq0, h10⟩ := hs
  have e1 : (fun i => ad' (202 + i)) = (fun i => ad (202 + i)) := funext fun i => e _ (by omega)
  have e2 : (fun i => ad' (204 + i)) = (fun i => ad (204 + i)) := funext fun i => e _ (by omega)
  unfold SC
  rw [eA, e 200 (by omega), e 201 (by omega), e 202 (by omega), e 203 (by omega), e1, e2]
  refine ⟨h1, h2, h3, h4, h5, h6, h7, h8, h9, ?_⟩
  cases q with
  | none => exact ⟨none, hq0, h10⟩
  | some c => exact ⟨some c, hq0, by show va_Z _ _ _ (.ref (ad' c)) _ _ _; rw [e c (hq0 c rfl)]; exact h10⟩
def Qk (ad0 : Nat → Nat) (ca : Nat → ClassId) (D : va_G) (new ks' : List Nat) (N : Mem) : Array Value → State → Outcome → State → Prop := fun _ s0 oc t => (∃ ad' : Nat → Nat, oc = .returned none ∧ Ext new ad0 ad' ∧ va_P D vwCl (wsL ad' ca ks' N) t.heap ∧ va_D (AA ad') (wsL ad' ca ks' N)) ∧ va_F (AA ad0) s0 t
/-- the word of byte[][] -/
def AOB (U : State) : Prop := (Cond.arrayOver (.array .byte)).before #[] U = true
def NW (U : State) : Prop := va_Nw (.methodLinkNest "WolfVillage" 11 yX6_init "WolfVillage") U ∧ va_Nw (.methodLinkNest "WolfVillage" 18 yX2_init "WolfVillage") U ∧ va_Nw (.methodLinkNest "WolfVillage" 25 yX1_init "WolfVillage") U ∧ va_Nw (.methodLinkNest "WolfVillage" 32 yX0_init "WolfVillage") U ∧ va_Nw (.methodLinkNest "WolfVillage" 75 yX5_init "WolfVillage") U ∧ va_Nw (.methodLinkNest "WolfVillage$Texts" 30 yX4_init "WolfVillage") U ∧ va_AO "WolfVillage$Sheet" U ∧ AOB U
theorem NW.warm {s U : State} (hW : s.WarmedH U.vm) (h : NW s) : NW U := by
  obtain ⟨h1, h2, h3, h4, h5, h6, h7, h8⟩ := h
  exact ⟨va_Nw.warmM hW h1, va_Nw.warmM hW h2, va_Nw.warmM hW h3, va_Nw.warmM hW h4, va_Nw.warmM hW h5, va_Nw.warmM hW h6, va_AO.moved hW.alike h7, over_moved hW.alike h8⟩
theorem NW.same {u U : State} (hv : u.vm = U.vm) (h : NW u) : NW U := by
  have hA : u.vm.Alike U.vm := by rw [hv]; exact Vm.Alike.refl _
  obtain ⟨h1, h2, h3, h4, h5, h6, h7, h8⟩ := h
  exact ⟨va_Nw.same rfl hv h1, va_Nw.same rfl hv h2, va_Nw.same rfl hv h3, va_Nw.same rfl hv h4, va_Nw.same rfl hv h5, va_Nw.same rfl hv h6, va_AO.moved hA h7, over_moved hA h8⟩
def Gk (ad0 : Nat → Nat) (ca : Nat → ClassId) (D : va_G) (new ks' : List Nat) (N : Mem) (mc ms cl sl : Nat) : Gm := fun _ _ _ R s _ args below meth _ cells slots Z => Z = MQ below (Qk ad0 ca D new ks' N) args s mc ms (AA ad0) ∧ cells + cl ≤ mc ∧ slots + sl ≤ ms ∧ mc ≤ R.cells ∧ ms ≤ R.slots ∧ meth.sig.returnType = none ∧ meth.locks = false ∧ meth.name = "<init>" ∧ ad0 400 ≤ s.heap.size ∧ NW s
theorem Ext.rfl {a : Nat → Nat} : Ext [] a a := fun _ _ => _root_.rfl
theorem Ext.trans {l1 l2 : List Nat} {a b c : Nat → Nat} (h1 : Ext l1 a b) (h2 : Ext l2 b c) : Ext (l1 ++ l2) a c := fun j hj => (h2 j (fun h => hj (List.mem_append_right _ h))).trans (h1 j (fun h => hj (List.mem_append_left _ h)))
section JK
variable {ad ad0 : Nat → Nat} {ca : Nat → ClassId} {D : va_G} {cc : ByteArray} {own : String} {nL d : Nat} {pc : Nat} {lv : List (Nat × AV)} {st : List AV} {M N : Mem} {ks new ks' : List Nat} {mc ms cl sl : Nat} {Γ : Gm}
theorem K_grow {k q : Nat} {x : Shp} (hk : sh k = some x) (hfr : k ∉ ks) (hr : Rf ks M) (hn : ∀ i, M.2 k i = none) : Ext [k] ad (va_up ad k q) ∧ wsL (va_up ad k q) ca (ks ++ [k]) M = wsL ad ca ks M ++ [(q, cellOf ad ca M k x)] := by
  have he : Ext [k] ad (va_up ad k q) := by
    intro j hj
    unfold va_up
    rw [if_neg (fun e => hj (by rw [e]; exact List.mem_singleton.mpr rfl))]
  refine ⟨he, ?_⟩
  have h1 : wsL (va_up ad k q) ca ks M = wsL ad ca ks M := wsL_ad hr (fun c hc => he c (fun z => hfr (by rw [← List.mem_singleton.mp z]; exact hc)))
  have h2 : va_up ad k q k = q := by unfold va_up; rw [if_pos rfl]
  unfold wsL at h1 ⊢
  rw [List.map_append, h1]
  show _ ++ [(va_up ad k q k, cellK (va_up ad k q) ca M k)] = _
  rw [h2, cellK_ad (ad := ad) (fun i c hc => by rw [hn i] at hc; cases hc), cellK_eq hk]
theorem K_cx {l0 : List Nat} {ad' : Nat → Nat} {p : Program} {R : Room} {s : State} {m : MethodId} {args : Array Value} {c : Code} {cells slots cells' slots' : Nat} (he : Ext l0 ad ad') (hl0 : ∀ j, 200 ≤ j → j ∉ l0) (hc : Cx ad ca D cc own nL d p R s m args c cells slots) (h1 : cells' ≤ R.cells) (h2 : slots' ≤ R.slots) : Cx ad' ca D cc own nL d p R s m args c cells' slots' := by
  obtain ⟨a1, a2, a3, a4, a5, a6, a7, a8, a9, -, -⟩ := hc
  exact ⟨a1, a2, a3, a4, a5, a6, SC_ad he hl0 a7, a8, a9, h1, h2⟩
theorem K_AA {l0 : List Nat} {ad' : Nat → Nat} (he : Ext l0 ad ad') (hl0 : ∀ j, 200 ≤ j → j ∉ l0) : AA ad' = AA ad := by unfold AA; rw [he 400 (hl0 400 (by omega))]
theorem K_newa0 {k n : Nat} {z : Int32} (hk : sh k = some (.inr (0, n))) (hfr : k ∉ ks) (h2 : k < 200) (h0 : ad0 400 = ad 400) (hM : M.1 k = fun _ => 0) (hn : ∀ i, M.2 k i = none) (hr : Rf ks M) (hz : ¬ z < 0) (hzn : z.toNatClampNeg = n) (hb : n * componentBytes .int ≤ 536870912) (hlv : lv.all (fun q => okv [k] q.2) = true) (hst : st.all (okv [k]) = true) (harr : Cond.arrayClass .int ∈ lw_g) (hd : decode cc pc = .ok (.newarray .int, 2)) (kk : ∀ ad', Ext [k] ad ad' → Jg ad' ca D (wsL ad' ca (ks ++ [k])) cc own nL d (Gk ad0 ca D new ks' N mc ms cl sl) (pc + 2) lv (vR (some k) :: st) M) : Jg ad ca D (wsL ad ca ks) cc own nL d (Gk ad0 ca D new ks' N mc ms (cl + 1) (sl + n)) pc lv (vI z :: st) M := by
  intro p l e R s m args below meth c H locs cells slots Z ls hg hc hP hD hS hl
  obtain ⟨g1, g2, g3, g4, g5, g6, g7, g8, g9, g10⟩ := hg
  refine va_newa (atype := .int) (D := D) (cl := vwCl) (tys := tysOf ca) (A := AA ad) (H0 := s.heap) (a0 := (n, .inl (fun _ => 0))) (ty := .int) hc.1 hc.2.1 (hc.2.2.2.2.1 _ harr) rfl hc.2.2.2.2.2.1 hP hD hS (fun q hq => by show ad 400 ≤ q; omega) (fun cA => by rw [vp_cell_i]; rfl) hz hzn hb (by omega) (by omega) hd (fun q cA H1 hK1 hP1 hD1 hS1 => ?_)
  have ec : cA = ca 0 := by
    have a1 := (hK1.2 5 (cA, .int) rfl).2
    have a2 := (hc.2.2.2.2.2.1.2 0 (ca 0, .int) rfl).2
    exact Option.some.inj ((show s.vm.findClass _ = some cA from a1).symm.trans (show s.vm.findClass _ = some (ca 0) from a2))
  subst ec
  obtain ⟨he, hw⟩ := K_grow (ad := ad) (ca := ca) (q := q) hk hfr hr hn
  rw [cell_arr (by decide), hM] at hw
  have hl0 : ∀ j, 200 ≤ j → j ∉ [k] := fun j hj h9 => by rw [List.mem_singleton.mp h9] at hj; omega
  have hA := K_AA he hl0
  have hk' := kk (va_up ad k q) he p l e R s m args below meth c H1 locs (cells + 1) (slots + n) Z ls ⟨g1, by omega, by omega, g4, g5, g6, g7, g8, g9, g10⟩ (K_cx he hl0 hc (by omega) (by omega)) (by rw [hw]; exact hP1) (by rw [hw, hA]; exact hD1) (by rw [hA]; exact hS1) (by rw [cvl_ad he hlv]; exact hl)
  have e9 : (vR (some k) :: st).map (cv (va_up ad k q)) = .ref q :: st.map (cv ad) := by
    show (Value.ref (va_up ad k q k)) :: st.map (cv (va_up ad k q)) = _
    rw [cvs_ad he hst]
    unfold va_up
    rw [if_pos rfl]
  rw [e9] at hk'
  exact hk'
theorem K_newa1 {k n : Nat} {z : Int32} (hk : sh k = some (.inr (1, n))) (hfr : k ∉ ks) (h2 : k < 200) (h0 : ad0 400 = ad 400) (hM : M.1 k = fun _ => 0) (hn : ∀ i, M.2 k i = none) (hr : Rf ks M) (hz : ¬ z < 0) (hzn : z.toNatClampNeg = n) (hb : n * componentBytes .boolean ≤ 536870912) (hlv : lv.all (fun q => okv [k] q.2) = true) (hst : st.all (okv [k]) = true) (harr : Cond.arrayClass .boolean ∈ lw_g) (hd : decode cc pc = .ok (.newarray .boolean, 2)) (kk : ∀ ad', Ext [k] ad ad' → Jg ad' ca D (wsL ad' ca (ks ++ [k])) cc own nL d (Gk ad0 ca D new ks' N mc ms cl sl) (pc + 2) lv (vR (some k) :: st) M) : Jg ad ca D (wsL ad ca ks) cc own nL d (Gk ad0 ca D new ks' N mc ms (cl + 1) (sl + n)) pc lv (vI z :: st) M := by
  intro p l e R s m args below meth c H locs cells slots Z ls hg hc hP hD hS hl
  obtain ⟨g1, g2, g3, g4, g5, g6, g7, g8, g9, g10⟩ := hg
  refine va_newa (atype := .boolean) (D := D) (cl := vwCl) (tys := tysOf ca) (A := AA ad) (H0 := s.heap) (a0 := (n, .inl (fun _ => 0))) (ty := .boolean) hc.1 hc.2.1 (hc.2.2.2.2.1 _ harr) rfl hc.2.2.2.2.2.1 hP hD hS (fun q hq => by show ad 400 ≤ q; omega) (fun cA => by rw [vp_cell_i]; rfl) hz hzn hb (by omega) (by omega) hd (fun q cA H1 hK1 hP1 hD1 hS1 => ?_)
  have ec : cA = ca 1 := by
    have a1 := (hK1.2 5 (cA, .boolean) rfl).2
    have a2 := (hc.2.2.2.2.2.1.2 1 (ca 1, .boolean) rfl).2
    exact Option.some.inj ((show s.vm.findClass _ = some cA from a1).symm.trans (show s.vm.findClass _ = some (ca 1) from a2))
  subst ec
  obtain ⟨he, hw⟩ := K_grow (ad := ad) (ca := ca) (q := q) hk hfr hr hn
  rw [cell_arr (by decide), hM] at hw
  have hl0 : ∀ j, 200 ≤ j → j ∉ [k] := fun j hj h9 => by rw [List.mem_singleton.mp h9] at hj; omega
  have hA := K_AA he hl0
  have hk' := kk (va_up ad k q) he p l e R s m args below meth c H1 locs (cells + 1) (slots + n) Z ls ⟨g1, by omega, by omega, g4, g5, g6, g7, g8, g9, g10⟩ (K_cx he hl0 hc (by omega) (by omega)) (by rw [hw]; exact hP1) (by rw [hw, hA]; exact hD1) (by rw [hA]; exact hS1) (by rw [cvl_ad he hlv]; exact hl)
  have e9 : (vR (some k) :: st).map (cv (va_up ad k q)) = .ref q :: st.map (cv ad) := by
    show (Value.ref (va_up ad k q k)) :: st.map (cv (va_up ad k q)) = _
    rw [cvs_ad he hst]
    unfold va_up
    rw [if_pos rfl]
  rw [e9] at hk'
  exact hk'
theorem K_newa2 {k n : Nat} {z : Int32} (hk : sh k = some (.inr (2, n))) (hfr : k ∉ ks) (h2 : k < 200) (h0 : ad0 400 = ad 400) (hM : M.1 k = fun _ => 0) (hn : ∀ i, M.2 k i = none) (hr : Rf ks M) (hz : ¬ z < 0) (hzn : z.toNatClampNeg = n) (hb : n * componentBytes .byte ≤ 536870912) (hlv : lv.all (fun q => okv [k] q.2) = true) (hst : st.all (okv [k]) = true) (harr : Cond.arrayClass .byte ∈ lw_g) (hd : decode cc pc = .ok (.newarray .byte, 2)) (kk : ∀ ad', Ext [k] ad ad' → Jg ad' ca D (wsL ad' ca (ks ++ [k])) cc own nL d (Gk ad0 ca D new ks' N mc ms cl sl) (pc + 2) lv (vR (some k) :: st) M) : Jg ad ca D (wsL ad ca ks) cc own nL d (Gk ad0 ca D new ks' N mc ms (cl + 1) (sl + n)) pc lv (vI z :: st) M := by
  intro p l e R s m args below meth c H locs cells slots Z ls hg hc hP hD hS hl
  obtain ⟨g1, g2, g3, g4, g5, g6, g7, g8, g9, g10⟩ := hg
  refine va_newa (atype := .byte) (D := D) (cl := vwCl) (tys := tysOf ca) (A := AA ad) (H0 := s.heap) (a0 := (n, .inl (fun _ => 0))) (ty := .byte) hc.1 hc.2.1 (hc.2.2.2.2.1 _ harr) rfl hc.2.2.2.2.2.1 hP hD hS (fun q hq => by show ad 400 ≤ q; omega) (fun cA => by rw [vp_cell_i]; rfl) hz hzn hb (by omega) (by omega) hd (fun q cA H1 hK1 hP1 hD1 hS1 => ?_)
  have ec : cA = ca 2 := by
    have a1 := (hK1.2 5 (cA, .byte) rfl).2
    have a2 := (hc.2.2.2.2.2.1.2 2 (ca 2, .byte) rfl).2
    exact Option.some.inj ((show s.vm.findClass _ = some cA from a1).symm.trans (show s.vm.findClass _ = some (ca 2) from a2))
  subst ec
  obtain ⟨he, hw⟩ := K_grow (ad := ad) (ca := ca) (q := q) hk hfr hr hn
  rw [cell_arr (by decide), hM] at hw
  have hl0 : ∀ j, 200 ≤ j → j ∉ [k] := fun j hj h9 => by rw [List.mem_singleton.mp h9] at hj; omega
  have hA := K_AA he hl0
  have hk' := kk (va_up ad k q) he p l e R s m args below meth c H1 locs (cells + 1) (slots + n) Z ls ⟨g1, by omega, by omega, g4, g5, g6, g7, g8, g9, g10⟩ (K_cx he hl0 hc (by omega) (by omega)) (by rw [hw]; exact hP1) (by rw [hw, hA]; exact hD1) (by rw [hA]; exact hS1) (by rw [cvl_ad he hlv]; exact hl)
  have e9 : (vR (some k) :: st).map (cv (va_up ad k q)) = .ref q :: st.map (cv ad) := by
    show (Value.ref (va_up ad k q k)) :: st.map (cv (va_up ad k q)) = _
    rw [cvs_ad he hst]
    unfold va_up
    rw [if_pos rfl]
  rw [e9] at hk'
  exact hk'
theorem K_putI {p0 k ci i idx NF : Nat} {C : String} {T : u_T} {ty : Nat → FieldType} {x : Int32} (hp : ks[p0]? = some k) (hnd : va_nd ks = true) (hs : sh k = some (.inl ci)) (hF : ClF ci C T NF ty) (hi : i < NF) (hR : isR ci i = false) (hlink : Cond.fieldLink own idx (T i).1 (T i).2.1 (T i).2.2.1 ∈ lw_g) (hfin : (T i).2.2.2 = false) (hty : ty i = .int) (hd : decode cc pc = .ok (.putfield idx, 3)) (kk : Jg ad ca D (wsL ad ca ks) cc own nL d Γ (pc + 3) lv st (up2 M.1 k i x, M.2)) : Jg ad ca D (wsL ad ca ks) cc own nL d Γ pc lv (vI x :: vR (some k) :: st) M := by
  have hn : i < nf ci := by rw [hF.2.2.1]; exact hi
  have e1 : fv ad (up2 M.1 k i x, M.2) ci k i = .int x := by
    rw [fv_int hR]
    show _ = _
    simp only [up2_eq, va_up, if_true]
  have e2 : ∀ j, j ≠ i → fv ad (up2 M.1 k i x, M.2) ci k j = fv ad M ci k j := by
    intro j hj
    unfold fv
    simp only [up2_eq, va_up, if_neg hj]
  intro p l e R s m args below meth c H locs cells slots Z ls hg hc hP hD hS hl
  refine va_put (D := D) (cl := vwCl) (tys := tysOf ca) (C := C) (T := T) (N := NF) (ci := ci) (ty := ty i) (v := .int x) hc.1 hc.2.1 hc.2.2.2.2.1 hF.2.1 ty hF.2.2.2.1 hF.2.2.2.2 hc.2.2.2.1 hc.2.2.2.2.2.1 hP hD hS p0 (wsL_at hp hs) hF.1 i hi (hc.2.2.2.2.1 _ hlink) (fun _ h => h) hfin (hF.2.2.2.1 i hi) (by rw [hty]; rfl) (by rw [hty]; rfl) (by unfold objF; simp; exact hn) hd (fun H1 locs1 hP1 _ hS1 => ?_)
  refine kk p l e R s m args below meth c H1 locs1 cells slots Z ls hg hc ?_ (wsL_Dc hD) hS1 hl
  rw [← wsL_set (M := M) (M' := (up2 M.1 k i x, M.2)) hnd hp hs (e := .inr (ci, (objF ad M k ci).set i (.int x))) (by rw [← e1, objF_set hn e2]; rfl) (fun j hj => by first | rfl | exact up2_ne hj) (fun j hj => by first | rfl | exact up2_ne hj)]
  exact hP1
theorem K_putIF {p0 k ci i idx NF : Nat} {C : String} {T : u_T} {ty : Nat → FieldType} {x : Int32} (hp : ks[p0]? = some k) (hnd : va_nd ks = true) (hs : sh k = some (.inl ci)) (hF : ClF ci C T NF ty) (hi : i < NF) (hR : isR ci i = false) (hlink : Cond.fieldLink own idx (T i).1 (T i).2.1 (T i).2.2.1 ∈ lw_g) (hfin : (T i).2.2.2 = true) (hdecl : (T i).1 = own) (hty : ty i = .int) (hd : decode cc pc = .ok (.putfield idx, 3)) (kk : Jg ad ca D (wsL ad ca ks) cc own nL d (Gk ad0 ca D new ks' N mc ms cl sl) (pc + 3) lv st (up2 M.1 k i x, M.2)) : Jg ad ca D (wsL ad ca ks) cc own nL d (Gk ad0 ca D new ks' N mc ms cl sl) pc lv (vI x :: vR (some k) :: st) M := by
  have hn : i < nf ci := by rw [hF.2.2.1]; exact hi
  have e1 : fv ad (up2 M.1 k i x, M.2) ci k i = .int x := by
    rw [fv_int hR]
    show _ = _
    simp only [up2_eq, va_up, if_true]
  have e2 : ∀ j, j ≠ i → fv ad (up2 M.1 k i x, M.2) ci k j = fv ad M ci k j := by
    intro j hj
    unfold fv
    simp only [up2_eq, va_up, if_neg hj]
  intro p l e R s m args below meth c H locs cells slots Z ls hg hc hP hD hS hl
  have hin2 := hg.2.2.2.2.2.2.2.1
  refine va_putF (D := D) (cl := vwCl) (tys := tysOf ca) (C := C) (T := T) (N := NF) (ci := ci) (ty := ty i) (v := .int x) hc.1 hc.2.1 hc.2.2.2.2.1 hF.2.1 ty hF.2.2.2.1 hF.2.2.2.2 hc.2.2.2.1 hc.2.2.2.2.2.1 hP hD hS p0 (wsL_at hp hs) hF.1 i hi (hc.2.2.2.2.1 _ hlink) (fun _ h => h) hfin hin2 hdecl (hF.2.2.2.1 i hi) (by rw [hty]; rfl) (by rw [hty]; rfl) (by unfold objF; simp; exact hn) hd (fun H1 locs1 hP1 _ hS1 => ?_)
  refine kk p l e R s m args below meth c H1 locs1 cells slots Z ls hg hc ?_ (wsL_Dc hD) hS1 hl
  rw [← wsL_set (M := M) (M' := (up2 M.1 k i x, M.2)) hnd hp hs (e := .inr (ci, (objF ad M k ci).set i (.int x))) (by rw [← e1, objF_set hn e2]; rfl) (fun j hj => by first | rfl | exact up2_ne hj) (fun j hj => by first | rfl | exact up2_ne hj)]
  exact hP1
theorem K_putR {p0 k ci i idx NF : Nat} {C : String} {T : u_T} {ty : Nat → FieldType} {x : Option Nat} (hp : ks[p0]? = some k) (hnd : va_nd ks = true) (hs : sh k = some (.inl ci)) (hF : ClF ci C T NF ty) (hi : i < NF) (hR : isR ci i = true) (hlink : Cond.fieldLink own idx (T i).1 (T i).2.1 (T i).2.2.1 ∈ lw_g) (hfin : (T i).2.2.2 = false) (hty : (∃ n, ty i = .object n) ∨ ∃ t, ty i = .array t) (hd : decode cc pc = .ok (.putfield idx, 3)) (kk : Jg ad ca D (wsL ad ca ks) cc own nL d Γ (pc + 3) lv st (M.1, up2 M.2 k i x)) : Jg ad ca D (wsL ad ca ks) cc own nL d Γ pc lv (vR x :: vR (some k) :: st) M := by
  have hn : i < nf ci := by rw [hF.2.2.1]; exact hi
  have e1 : fv ad (M.1, up2 M.2 k i x) ci k i = va_rf (x.map ad) := by
    rw [fv_ref hR]
    show _ = _
    simp only [up2_eq, va_up, if_true]
  have e2 : ∀ j, j ≠ i → fv ad (M.1, up2 M.2 k i x) ci k j = fv ad M ci k j := by
    intro j hj
    unfold fv
    simp only [up2_eq, va_up, if_neg hj]
  intro p l e R s m args below meth c H locs cells slots Z ls hg hc hP hD hS hl
  refine va_put (D := D) (cl := vwCl) (tys := tysOf ca) (C := C) (T := T) (N := NF) (ci := ci) (ty := ty i) (v := va_rf (x.map ad)) hc.1 hc.2.1 hc.2.2.2.2.1 hF.2.1 ty hF.2.2.2.1 hF.2.2.2.2 hc.2.2.2.1 hc.2.2.2.2.2.1 hP hD hS p0 (wsL_at hp hs) hF.1 i hi (hc.2.2.2.2.1 _ hlink) (fun _ h => h) hfin (hF.2.2.2.1 i hi) (by rcases hty with ⟨n, e⟩ | ⟨n, e⟩ <;> rw [e] <;> cases x <;> rfl) (by rcases hty with ⟨n, e⟩ | ⟨n, e⟩ <;> rw [e] <;> cases x <;> rfl) (by unfold objF; simp; exact hn) hd (fun H1 locs1 hP1 _ hS1 => ?_)
  refine kk p l e R s m args below meth c H1 locs1 cells slots Z ls hg hc ?_ (wsL_Dc hD) hS1 hl
  rw [← wsL_set (M := M) (M' := (M.1, up2 M.2 k i x)) hnd hp hs (e := .inr (ci, (objF ad M k ci).set i (va_rf (x.map ad)))) (by rw [← e1, objF_set hn e2]; rfl) (fun j hj => by first | rfl | exact up2_ne hj) (fun j hj => by first | rfl | exact up2_ne hj)]
  exact hP1
theorem K_putRF {p0 k ci i idx NF : Nat} {C : String} {T : u_T} {ty : Nat → FieldType} {x : Option Nat} (hp : ks[p0]? = some k) (hnd : va_nd ks = true) (hs : sh k = some (.inl ci)) (hF : ClF ci C T NF ty) (hi : i < NF) (hR : isR ci i = true) (hlink : Cond.fieldLink own idx (T i).1 (T i).2.1 (T i).2.2.1 ∈ lw_g) (hfin : (T i).2.2.2 = true) (hdecl : (T i).1 = own) (hty : (∃ n, ty i = .object n) ∨ ∃ t, ty i = .array t) (hd : decode cc pc = .ok (.putfield idx, 3)) (kk : Jg ad ca D (wsL ad ca ks) cc own nL d (Gk ad0 ca D new ks' N mc ms cl sl) (pc + 3) lv st (M.1, up2 M.2 k i x)) : Jg ad ca D (wsL ad ca ks) cc own nL d (Gk ad0 ca D new ks' N mc ms cl sl) pc lv (vR x :: vR (some k) :: st) M := by
  have hn : i < nf ci := by rw [hF.2.2.1]; exact hi
  have e1 : fv ad (M.1, up2 M.2 k i x) ci k i = va_rf (x.map ad) := by
    rw [fv_ref hR]
    show _ = _
    simp only [up2_eq, va_up, if_true]
  have e2 : ∀ j, j ≠ i → fv ad (M.1, up2 M.2 k i x) ci k j = fv ad M ci k j := by
    intro j hj
    unfold fv
    simp only [up2_eq, va_up, if_neg hj]
  intro p l e R s m args below meth c H locs cells slots Z ls hg hc hP hD hS hl
  have hin2 := hg.2.2.2.2.2.2.2.1
  refine va_putF (D := D) (cl := vwCl) (tys := tysOf ca) (C := C) (T := T) (N := NF) (ci := ci) (ty := ty i) (v := va_rf (x.map ad)) hc.1 hc.2.1 hc.2.2.2.2.1 hF.2.1 ty hF.2.2.2.1 hF.2.2.2.2 hc.2.2.2.1 hc.2.2.2.2.2.1 hP hD hS p0 (wsL_at hp hs) hF.1 i hi (hc.2.2.2.2.1 _ hlink) (fun _ h => h) hfin hin2 hdecl (hF.2.2.2.1 i hi) (by rcases hty with ⟨n, e⟩ | ⟨n, e⟩ <;> rw [e] <;> cases x <;> rfl) (by rcases hty with ⟨n, e⟩ | ⟨n, e⟩ <;> rw [e] <;> cases x <;> rfl) (by unfold objF; simp; exact hn) hd (fun H1 locs1 hP1 _ hS1 => ?_)
  refine kk p l e R s m args below meth c H1 locs1 cells slots Z ls hg hc ?_ (wsL_Dc hD) hS1 hl
  rw [← wsL_set (M := M) (M' := (M.1, up2 M.2 k i x)) hnd hp hs (e := .inr (ci, (objF ad M k ci).set i (va_rf (x.map ad)))) (by rw [← e1, objF_set hn e2]; rfl) (fun j hj => by first | rfl | exact up2_ne hj) (fun j hj => by first | rfl | exact up2_ne hj)]
  exact hP1
theorem K_ret (hE : Ext new ad0 ad) (h4 : ad 400 = ad0 400) (hd : decode cc pc = .ok (.return_, 1)) : Jg ad ca D (wsL ad ca ks') cc own nL d (Gk ad0 ca D new ks' N mc ms 0 0) pc lv [] N := by
  intro p l e R s m args below meth c H locs cells slots Z ls hg hc hP hD hS hl
  obtain ⟨rfl, g2, g3, g4, g5, g6, g7, g8, g9, g10⟩ := hg
  have hA : AA ad = AA ad0 := by unfold AA; rw [h4]
  rw [hA] at hS
  refine W.widen (k := mc) (n := ms) (by omega) (by omega) ?_
  exact W.vret hc.1 hc.2.1 g6 (fun t ht hW => ⟨⟨ad, rfl, hE, (by rw [ht]; exact hP), hD⟩, hS.F ht⟩) hS.2.2 hd g7
-- oi
theorem K_objInit {wf : Mem → va_W} {idx k : Nat} (hlink : Cond.methodLink own idx objectInit ∈ lw_g) (hw1 : Cond.instanceMethod objectInit ∈ lw_g) (hw2 : Cond.code objectInit ⟨#[0xb1]⟩ 1 none ∈ lw_g) (hdc : 1 ≤ d) (hst : (st.map catA).sum ≤ 8) (hd : decode cc pc = .ok (.invokespecial idx, 3)) (kk : Jg ad ca D wf cc own nL d Γ (pc + 3) lv st M) : Jg ad ca D wf cc own nL d Γ pc lv (vR (some k) :: st) M := by
  intro p l e R s m args below meth c H locs cells slots Z ls hg hc hP hD hS hl
  have hfr := hc.2.2.2.2.2.2.2.2.1
  refine W.objInit hc.1 hc.2.1 hc.2.2.2.1 (hc.2.2.2.2.1 _ hlink) (hc.2.2.2.2.1 _ hw1) (hc.2.2.2.2.1 _ hw2) rfl (hl.1.trans hc.2.2.1.symm) rfl hd (by omega) ?_ ?_
  · show 2 * 0 + ((st.map (cv ad)).map fun v => v.category).sum + 12 ≤ R.locals
    rw [cat_sum]
    omega
  · exact kk p l e R s m args below meth c H locs cells slots Z ls hg hc hP hD hS hl
/-- a context's step by mc1 cells of ms1 slots -/
def StpG (ad : Nat → Nat) (Γ Γ' : Gm) (mc1 ms1 : Nat) : Prop := ∀ (p : Program) (l : Launch) (e : Env) (R : Room) (s : State) (m : MethodId) (args : Array Value) (below : List Frame) (meth : Method) (c : Code) (cells slots : Nat) (Z : State → Prop), Γ p l e R s m args below meth c cells slots Z → Γ' p l e R s m args below meth c (cells + mc1) (slots + ms1) Z ∧ cells + mc1 ≤ R.cells ∧ slots + ms1 ≤ R.slots ∧ ad 400 ≤ s.heap.size ∧ NW s
theorem Gk_stp {c1 s1 : Nat} (h0 : ad0 400 = ad 400) : StpG ad (Gk ad0 ca D new ks' N mc ms (cl + c1) (sl + s1)) (Gk ad0 ca D new ks' N mc ms cl sl) c1 s1 := by
  intro p l e R s m args below meth c cells slots Z hg
  obtain ⟨g1, g2, g3, g4, g5, g6, g7, g8, g9, g10⟩ := hg
  exact ⟨⟨g1, by omega, by omega, g4, g5, g6, g7, g8, g9, g10⟩, by omega, by omega, by omega, g10⟩
variable {Γ' : Gm}
theorem K_new {k ci idx NF : Nat} {C : String} {T : u_T} {ty : Nat → FieldType} (hΓ : StpG ad Γ Γ' 1 NF) (hk : sh k = some (.inl ci)) (hfr : k ∉ ks) (h2 : k < 200) (hM : M.1 k = fun _ => 0) (hn : ∀ i, M.2 k i = none) (hr : Rf ks M) (hF : ClF ci C T NF ty) (hdf : ∀ j, j < NF → defaultValue (ty j) = if isR ci j = true then .null else .int 0) (hlv : lv.all (fun q => okv [k] q.2) = true) (hst : st.all (okv [k]) = true) (hcl : Cond.classLink own idx C ∈ lw_g) (hin : Cond.instantiable C NF ∈ lw_g) (hini : Cond.initialized C ∈ lw_g) (hd : decode cc pc = .ok (.new idx, 3)) (kk : ∀ ad', Ext [k] ad ad' → Jg ad' ca D (wsL ad' ca (ks ++ [k])) cc own nL d Γ' (pc + 3) lv (vR (some k) :: st) M) : Jg ad ca D (wsL ad ca ks) cc own nL d Γ pc lv st M := by
  intro p l e R s m args below meth c H locs cells slots Z ls hg hc hP hD hS hl
  obtain ⟨g1, g2, g3, g4, g5⟩ := hΓ _ _ _ _ _ _ _ _ _ _ _ _ _ hg
  have hts := hc.2.2.2.2.1
  refine va_new (D := D) (cl := vwCl) (tys := tysOf ca) (A := AA ad) (H0 := s.heap) (C := C) (T := T) (N := NF) (ci := ci) (fs := objF ad M k ci) hc.1 hc.2.1 hts hF.2.1 ty hF.2.2.2.1 hc.2.2.2.1 (hts _ hcl) (hts _ hin) (hts _ hini) hc.2.2.2.2.2.1 hP hD hS (fun q hq => by show ad 400 ≤ q; omega) hF.1 (fun j hj => ?_) g2 g3 hd (fun q H1 hP1 hD1 hS1 => ?_)
  · rw [hdf j hj]
    have e1 := objF_at (ad := ad) (M := M) (ci := ci) (k := k) (i := j) (by rw [hF.2.2.1]; exact hj)
    have e2 : fv ad M ci k j = if isR ci j = true then .null else .int 0 := by
      unfold fv
      rw [hn j, hM]
      rfl
    rw [e2] at e1
    simp [vp_V, e1]
  obtain ⟨he, hw⟩ := K_grow (ad := ad) (ca := ca) (q := q) hk hfr hr hn
  have hl0 : ∀ j, 200 ≤ j → j ∉ [k] := fun j hj h9 => by rw [List.mem_singleton.mp h9] at hj; omega
  have hA := K_AA he hl0
  have hk' := kk (va_up ad k q) he p l e R s m args below meth c H1 locs (cells + 1) (slots + NF) Z ls g1 (K_cx he hl0 hc g2 g3) (by rw [hw]; exact hP1) (by rw [hw, hA]; exact hD1) (by rw [hA]; exact hS1) (by rw [cvl_ad he hlv]; exact hl)
  have e9 : (vR (some k) :: st).map (cv (va_up ad k q)) = .ref q :: st.map (cv ad) := by
    show (Value.ref (va_up ad k q k)) :: st.map (cv (va_up ad k q)) = _
    rw [cvs_ad he hst]
    unfold va_up
    rw [if_pos rfl]
  rw [e9] at hk'
  exact hk'
/-- a constructor's contract: its cells come behind ks -/
def Ck (ad : Nat → Nat) (ca : Nat → ClassId) (D : va_G) (y : MethodName) (cb : ByteArray) (mL d mc ms : Nat) (ks new ks' : List Nat) (as : List AV) (M N : Mem) : Prop := ∀ l : Launch, Met l y (.code y cb mL none :: lw_g) ({ frames := d, cells := mc, slots := ms, locals := 40 * d } : Room) (va_Pc (as.map (cv ad)) (fun U => Wdg ad ca D (wsL ad ca ks) M U ∧ ad 400 ≤ U.heap.size ∧ NW U)) (Qk ad ca D new ks' N) mc ms (AA ad)
theorem Ck_of {y : MethodName} {cb : ByteArray} {mL : Nat} {as : List AV} (hy : plainName y.cls = true) (hyn : y.name = "<init>") (hn : (as.map catA).sum ≤ mL) (h : Jg ad ca D (wsL ad ca ks) cb y.cls mL d (Gk ad ca D new ks' N mc ms mc ms) 0 (lvA 0 as) [] M) : Ck ad ca D y cb mL d mc ms ks new ks' as M N := by
  intro l
  refine Met.ofW (cc := cb) (maxL := mL) (ret := none) hy rfl ?_
  intro p e s m args below meth c s₁ B hml hv
  obtain ⟨rfl, ⟨hP, hK, hSC, hD⟩, h4, hNW⟩ := hv
  have hts := atoms_spec (ws := (.code y cb mL none :: lw_g)) B.pre
  have hl := lv_entry (as.map (cv ad)) (n := mL) (by rw [sl_len]; exact hn)
  rw [lg_entry_eq]
  rw [lvA_ok] at hl
  exact h p l e _ s m _ below meth c s.heap [] 0 0 _ _ ⟨rfl, by omega, by omega, Nat.le_refl _, Nat.le_refl _, B.returns, B.notSynchronized, (name_of_methodNamed B.named B.method).1.trans hyn, h4, hNW⟩ ⟨B.exec, B.bytes, hml, findClass_of_methodNamed B.named, fun w hw => hts w (List.mem_cons_of_mem _ hw), hK, hSC, trivial, ⟨Nat.le_refl _, Nat.le_refl _⟩, Nat.zero_le _, Nat.zero_le _⟩ hP hD va_S.rf hl
theorem K_run {N1 : Mem} {new1 ks1 : List Nat} {mc1 ms1 : Nat} {p : Program} {l : Launch} {e : Env} {R : Room} {s : State} {m : MethodId} {args : Array Value} {below : List Frame} {meth : Method} {c : Code} {H : Heap} {locs : List Loc} {cells slots : Nat} {Z : State → Prop} {ls : Array Slot} {st0 : List Value} {a : Array Value}
    (hr : va_Run p l e R s m args below meth c H locs cells slots mc1 ms1 (F0 m pc ls st0) (st.map (cv ad)) (Qk ad ca D new1 ks1 N1 a) (AA ad))
    (hl0 : ∀ j, 200 ≤ j → j ∉ new1) (hg' : Γ' p l e R s m args below meth c (cells + mc1) (slots + ms1) Z) (hc : Cx ad ca D cc own nL d p R s m args c cells slots) (h1 : cells + mc1 ≤ R.cells) (h2 : slots + ms1 ≤ R.slots) (hS : va_S (AA ad) s.heap H locs) (hl : lv_has ls nL (cvl ad lv)) (hlv : lv.all (fun q => okv new1 q.2) = true) (hst : st.all (okv new1) = true)
    (k : ∀ ad', Ext new1 ad ad' → Jg ad' ca D (wsL ad' ca ks1) cc own nL d Γ' (pc + 3) lv st N1) : W p l e R s m args below meth c H locs cells slots Z (F0 m pc ls st0) := by
  intro T hT X
  obtain ⟨v, st₀, t, T', L, h0, X', hL, e1, e2, ⟨⟨ad', hv, hE, hP1, hD1⟩, hz, hk⟩, sp⟩ := hr T hT X
  have hv : v = none := by cases hv; rfl
  subst hv
  rw [h0] at hz hk
  have hS1 : va_S (AA ad) s.heap T'.heap (locs ++ L) := ⟨Nat.le_trans hS.1 (by rw [e1]; exact hz), fun q h1 h2 => by rw [e1, hk q (Nat.lt_of_lt_of_le h1 hS.1) h2]; exact hS.2.1 q h1 h2, fun q hq => by
    rcases List.mem_append.mp hq with h | h
    · exact hS.2.2 q h
    · exact hL q h⟩
  have hA := K_AA hE hl0
  have hW := k ad' hE p l e R s m args below meth c T'.heap (locs ++ L) (cells + mc1) (slots + ms1) Z ls hg' (K_cx hE hl0 hc h1 h2) (by rw [e1]; exact hP1) hD1 (by rw [hA]; exact hS1) (by rw [cvl_ad hE hlv]; exact hl)
  obtain ⟨t2, a1, b1⟩ := hW T' rfl X'
  rw [cvs_ad hE hst] at a1
  exact ⟨t2, sp t2 a1, b1⟩
theorem blindK (as : List AV) : FrameBlind (va_Pc (as.map (cv ad)) (fun U => Wdg ad ca D (wsL ad ca ks) M U ∧ ad 400 ≤ U.heap.size ∧ NW U)) := by
  intro a U g mk h
  obtain ⟨h1, ⟨h2, h3, h4, h5⟩, h6, h7⟩ := h
  exact ⟨h1, ⟨h2, va_K.moved (u := U) (U := U.calling g mk a) (Vm.Alike.refl U.vm) h3, SC.same (u := U) (U := U.calling g mk a) rfl h4, h5⟩, h6, NW.same (u := U) (U := U.calling g mk a) rfl h7⟩
theorem K_call {y : MethodName} {cb : ByteArray} {mL dc idx k mc1 ms1 : Nat} {as : List AV} {N1 : Mem} {new1 ks1 : List Nat} (hlink : Cond.methodLink own idx y ∈ lw_g) (hΓ : StpG ad Γ Γ' mc1 ms1) (hM : Ck ad ca D y cb mL dc mc1 ms1 ks new1 ks1 (vR (some k) :: as) M N1) (hl0 : ∀ j, 200 ≤ j → j ∉ new1) (hC : CalF y cb mL none as.length) (hyn : y.name = "<init>") (hV : Cond.instanceMethod y ∈ lw_g) (hlv : lv.all (fun q => okv new1 q.2) = true) (hst : st.all (okv new1) = true) (hdc : dc + 1 ≤ d) (hsc : (st.map catA).sum ≤ 8) (hd : decode cc pc = .ok (.invokespecial idx, 3)) (kk : ∀ ad', Ext new1 ad ad' → Jg ad' ca D (wsL ad' ca ks1) cc own nL d Γ' (pc + 3) lv st N1) : Jg ad ca D (wsL ad ca ks) cc own nL d Γ pc lv (as.reverse ++ vR (some k) :: st) M := by
  intro p l e R s m args below meth c H locs cells slots Z ls hg hc hP hD hS hl
  obtain ⟨g1, g2, g3, g4, g5⟩ := hΓ _ _ _ _ _ _ _ _ _ _ _ _ _ hg
  have hts := hc.2.2.2.2.1
  have hfr := hc.2.2.2.2.2.2.2.2.1
  have hcb : CallB R s args own idx y cb mL none (.code y cb mL none :: lw_g) ({ frames := dc, cells := mc1, slots := ms1, locals := 40 * dc } : Room) mc1 ms1 as.length := by
    refine callB_of as.length hts (good_in hC.1) rfl rfl rfl (hts _ hC.2.1) (hts _ hlink) ⟨hC.2.2.1.1, hC.2.2.1.2, hC.2.2.2.1⟩ ⟨?_, ?_⟩
    · show dc + 1 ≤ R.frames
      omega
    · show 8 + (mL + 11) + 40 * dc ≤ R.locals
      have := hC.2.2.2.2
      omega
  have hpre : ∀ U : State, U.heap = H → s.WarmedH U.vm → va_Pc ((vR (some k) :: as).map (cv ad)) (fun U => Wdg ad ca D (wsL ad ca ks) M U ∧ ad 400 ≤ U.heap.size ∧ NW U) ((vR (some k) :: as).map (cv ad)).toArray U := fun U hU hW => ⟨rfl, ⟨by rw [hU]; exact hP, va_K.moved hW.alike hc.2.2.2.2.2.1, by rw [hU]; exact (hc.2.2.2.2.2.2.1.kept hS.2.1).warm hW, hD⟩, by rw [hU]; exact Nat.le_trans g4 hS.1, g5.warm hW⟩
  have hstk : ((as.reverse ++ vR (some k) :: st).map (cv ad)) = (as.map (cv ad)).reverse ++ .ref (ad k) :: st.map (cv ad) := by
    rw [List.map_append, List.map_reverse]
    rfl
  have hr := va_runI (e := e) (As := as.map (cv ad)) (rest := st.map (cv ad)) (g := F0 m pc ls ((as.reverse ++ vR (some k) :: st).map (cv ad))) (H := H) (locs := locs) (cells := cells) (slots := slots) (R := R) (below := below) (meth := meth) (b := ad k) (n := as.length) ⟨hc.1, hc.2.1, hc.2.2.1, hc.2.2.2.1, hts⟩ (hM l) ⟨hcb, hyn, hts _ hV⟩ ⟨blindK _, hpre⟩ rfl (by simp) hl.1 hstk (lv_room (by rw [cat_sum]; exact hsc)) hd ⟨g2, g3⟩
  exact K_run hr hl0 g1 hc g2 g3 hS hl hlv hst kk
theorem K_callN {y : MethodName} {cb : ByteArray} {mL dc idx k mc1 ms1 : Nat} {as : List AV} {N1 : Mem} {new1 ks1 : List Nat} {host : String} (hlink : ∀ s, NW s → va_Nw (.methodLinkNest own idx y host) s) (hΓ : StpG ad Γ Γ' mc1 ms1) (hM : Ck ad ca D y cb mL dc mc1 ms1 ks new1 ks1 (vR (some k) :: as) M N1) (hl0 : ∀ j, 200 ≤ j → j ∉ new1) (hC : CalF y cb mL none as.length) (hyn : y.name = "<init>") (hV : Cond.instanceMethod y ∈ lw_g) (hlv : lv.all (fun q => okv new1 q.2) = true) (hst : st.all (okv new1) = true) (hdc : dc + 1 ≤ d) (hsc : (st.map catA).sum ≤ 8) (hd : decode cc pc = .ok (.invokespecial idx, 3)) (kk : ∀ ad', Ext new1 ad ad' → Jg ad' ca D (wsL ad' ca ks1) cc own nL d Γ' (pc + 3) lv st N1) : Jg ad ca D (wsL ad ca ks) cc own nL d Γ pc lv (as.reverse ++ vR (some k) :: st) M := by
  intro p l e R s m args below meth c H locs cells slots Z ls hg hc hP hD hS hl
  obtain ⟨g1, g2, g3, g4, g5⟩ := hΓ _ _ _ _ _ _ _ _ _ _ _ _ _ hg
  have hts := hc.2.2.2.2.1
  have hfr := hc.2.2.2.2.2.2.2.2.1
  have hcb : va_CN R s args own idx y host cb mL none (.code y cb mL none :: lw_g) ({ frames := dc, cells := mc1, slots := ms1, locals := 40 * dc } : Room) mc1 ms1 as.length := by
    refine va_cnB as.length hts (good_in hC.1) rfl rfl rfl (hlink s g5) (hts _ hC.2.1) ⟨hC.2.2.1.1, hC.2.2.1.2, hC.2.2.2.1⟩ ⟨?_, ?_⟩
    · show dc + 1 ≤ R.frames
      omega
    · show 8 + (mL + 11) + 40 * dc ≤ R.locals
      have := hC.2.2.2.2
      omega
  have hpre : ∀ U : State, U.heap = H → s.WarmedH U.vm → va_Pc ((vR (some k) :: as).map (cv ad)) (fun U => Wdg ad ca D (wsL ad ca ks) M U ∧ ad 400 ≤ U.heap.size ∧ NW U) ((vR (some k) :: as).map (cv ad)).toArray U := fun U hU hW => ⟨rfl, ⟨by rw [hU]; exact hP, va_K.moved hW.alike hc.2.2.2.2.2.1, by rw [hU]; exact (hc.2.2.2.2.2.2.1.kept hS.2.1).warm hW, hD⟩, by rw [hU]; exact Nat.le_trans g4 hS.1, g5.warm hW⟩
  have hstk : ((as.reverse ++ vR (some k) :: st).map (cv ad)) = (as.map (cv ad)).reverse ++ .ref (ad k) :: st.map (cv ad) := by
    rw [List.map_append, List.map_reverse]
    rfl
  have hr := va_runIN (e := e) (As := as.map (cv ad)) (rest := st.map (cv ad)) (g := F0 m pc ls ((as.reverse ++ vR (some k) :: st).map (cv ad))) (H := H) (locs := locs) (cells := cells) (slots := slots) (R := R) (below := below) (meth := meth) (b := ad k) (n := as.length) ⟨hc.1, hc.2.1, hc.2.2.1, hc.2.2.2.1, hts⟩ (hM l) ⟨hcb, hyn, hts _ hV⟩ ⟨blindK _, hpre⟩ rfl (by simp) hl.1 hstk (lv_room (by rw [cat_sum]; exact hsc)) hd ⟨g2, g3⟩
  exact K_run hr hl0 g1 hc g2 g3 hS hl hlv hst kk
end JK
