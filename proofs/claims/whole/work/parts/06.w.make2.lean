section JK2
variable {ad ad0 : Nat → Nat} {ca : Nat → ClassId} {D : va_G} {cc : ByteArray} {own : String} {nL d : Nat} {pc : Nat} {lv : List (Nat × AV)} {st : List AV} {M N : Mem} {ks new ks' : List Nat} {mc ms cl sl : Nat} {Γ : Gm}
theorem K_ast0 {p0 k n : Nat} {i x : Int32} (hp : ks[p0]? = some k) (hnd : va_nd ks = true) (hs : sh k = some (.inr (0, n))) (hin : vp_in i n) (hd : decode cc pc = .ok (.iastore, 1)) (kk : Jg ad ca D (wsL ad ca ks) cc own nL d Γ (pc + 1) lv st (up2 M.1 k i.toNatClampNeg (narA 0 x), M.2)) : Jg ad ca D (wsL ad ca ks) cc own nL d Γ pc lv (vI x :: vI i :: vR (some k) :: st) M := by
  intro p l e R s m args below meth c H locs cells slots Z ls hg hc hP hD hS hl
  refine va_iast (D := D) (cl := vwCl) (tys := tysOf ca) hc.1 hc.2.1 hc.2.2.2.2.2.1 hP hD hS p0 0 ((wsL_at hp hs).trans (by rw [cell_arr (by decide)])) rfl hin hd (fun H1 locs1 hP1 _ hS1 => ?_)
  refine kk p l e R s m args below meth c H1 locs1 cells slots Z ls hg hc ?_ (wsL_Dc hD) hS1 hl
  rw [← wsL_set (M := M) (M' := (up2 M.1 k i.toNatClampNeg (narA 0 x), M.2)) hnd hp hs (e := .inl (ca 0, n, .inl (upd (M.1 k) i.toNatClampNeg (x)))) (by rw [cell_arr (by decide)]; show _ = (Sum.inl (ca 0, n, .inl (up2 M.1 k i.toNatClampNeg (narA 0 x) k)) : va_E); rw [up2_eq]; rfl) (fun j hj => up2_ne hj) (fun j hj => rfl)]
  exact hP1
theorem K_ast2 {p0 k n : Nat} {i x : Int32} (hp : ks[p0]? = some k) (hnd : va_nd ks = true) (hs : sh k = some (.inr (2, n))) (hin : vp_in i n) (hd : decode cc pc = .ok (.bastore, 1)) (kk : Jg ad ca D (wsL ad ca ks) cc own nL d Γ (pc + 1) lv st (up2 M.1 k i.toNatClampNeg (narA 2 x), M.2)) : Jg ad ca D (wsL ad ca ks) cc own nL d Γ pc lv (vI x :: vI i :: vR (some k) :: st) M := by
  intro p l e R s m args below meth c H locs cells slots Z ls hg hc hP hD hS hl
  refine va_bast (D := D) (cl := vwCl) (tys := tysOf ca) hc.1 hc.2.1 hc.2.2.2.2.2.1 hP hD hS p0 2 ((wsL_at hp hs).trans (by rw [cell_arr (by decide)])) rfl hin hd (fun H1 locs1 hP1 _ hS1 => ?_)
  refine kk p l e R s m args below meth c H1 locs1 cells slots Z ls hg hc ?_ (wsL_Dc hD) hS1 hl
  rw [← wsL_set (M := M) (M' := (up2 M.1 k i.toNatClampNeg (narA 2 x), M.2)) hnd hp hs (e := .inl (ca 2, n, .inl (upd (M.1 k) i.toNatClampNeg (vp_nar .byte x)))) (by rw [cell_arr (by decide)]; show _ = (Sum.inl (ca 2, n, .inl (up2 M.1 k i.toNatClampNeg (narA 2 x) k)) : va_E); rw [up2_eq]; rfl) (fun j hj => up2_ne hj) (fun j hj => rfl)]
  exact hP1
theorem K_ald0 {p0 k n : Nat} {i : Int32} (hp : ks[p0]? = some k) (hs : sh k = some (.inr (0, n))) (hin : vp_in i n) (hd : decode cc pc = .ok (.iaload, 1)) (kk : Jg ad ca D (wsL ad ca ks) cc own nL d Γ (pc + 1) lv (vI (M.1 k i.toNatClampNeg) :: st) M) : Jg ad ca D (wsL ad ca ks) cc own nL d Γ pc lv (vI i :: vR (some k) :: st) M := by
  intro p l e R s m args below meth c H locs cells slots Z ls hg hc hP hD hS hl
  exact va_iald (D := D) (cl := vwCl) (tys := tysOf ca) hc.1 hc.2.1 hc.2.2.2.2.2.1 hP p0 0 ((wsL_at hp hs).trans (by rw [cell_arr (by decide)])) rfl hin hd (kk p l e R s m args below meth c H locs cells slots Z ls hg hc hP hD hS hl)
theorem K_aldR3 {p0 k n : Nat} {i : Int32} (hp : ks[p0]? = some k) (hs : sh k = some (.inr (3, n))) (hin : vp_in i n) (hd : decode cc pc = .ok (.aaload, 1)) (kk : Jg ad ca D (wsL ad ca ks) cc own nL d Γ (pc + 1) lv (vR (M.2 k i.toNatClampNeg) :: st) M) : Jg ad ca D (wsL ad ca ks) cc own nL d Γ pc lv (vI i :: vR (some k) :: st) M := by
  intro p l e R s m args below meth c H locs cells slots Z ls hg hc hP hD hS hl
  have ha : (wsL ad ca ks M)[p0]? = some (ad k, .inl (ca 3, n, .inr (.inr (.inr (.inr (fun j => (M.2 k j).map ad)))))) := (wsL_at hp hs).trans (by rw [cell_arrR (by decide)])
  have hlt : i.toNatClampNeg < n := Nat.not_le.mp fun z => hin (Or.inr z)
  have ht : (tysOf ca)[3]? = some (ca 3, .array .byte) := rfl
  exact W.aald (v := va_rf ((M.2 k i.toNatClampNeg).map ad)) (ty := .array .byte) hc.1 hc.2.1 (hP p0 _ ha) ((hc.2.2.2.2.2.1.2 3 _ ht).1 n (fun j => va_rf ((M.2 k j).map ad))) rfl (fun z => by cases z) (by show ¬ (i < 0 ∨ (arrV _ _ _).slots.size ≤ _); rw [arrV_size]; exact hin) (by show (arrV _ _ _).slots[_]? = _; rw [arrV_read _ _ hlt]) rfl rfl hd (kk p l e R s m args below meth c H locs cells slots Z ls hg hc hP hD hS hl)
theorem K_getR {p0 k ci i idx NF : Nat} {C : String} {T : u_T} {ty : Nat → FieldType} (hp : ks[p0]? = some k) (hs : sh k = some (.inl ci)) (hF : ClF ci C T NF ty) (hi : i < NF) (hR : isR ci i = true) (hlink : Cond.fieldLink own idx (T i).1 (T i).2.1 (T i).2.2.1 ∈ lw_g) (hd : decode cc pc = .ok (.getfield idx, 3)) (kk : Jg ad ca D (wsL ad ca ks) cc own nL d Γ (pc + 3) lv (vR (M.2 k i) :: st) M) : Jg ad ca D (wsL ad ca ks) cc own nL d Γ pc lv (vR (some k) :: st) M := by
  intro p l e R s m args below meth c H locs cells slots Z ls hg hc hP hD hS hl
  exact va_get (D := D) (cl := vwCl) (tys := tysOf ca) (C := C) (T := T) (N := NF) (ci := ci) hc.1 hc.2.1 hc.2.2.2.2.1 hF.2.1 hc.2.2.2.1 hc.2.2.2.2.2.1 hP p0 (wsL_at hp hs) hF.1 i hi (hc.2.2.2.2.1 _ hlink) (fun _ h => h) ((objF_at (by rw [hF.2.2.1]; exact hi)).trans (congrArg some (fv_ref hR))) hd (kk p l e R s m args below meth c H locs cells slots Z ls hg hc hP hD hS hl)
theorem K_putZ {p0 k ci i idx NF : Nat} {C : String} {T : u_T} {ty : Nat → FieldType} {x : Int32} (hp : ks[p0]? = some k) (hnd : va_nd ks = true) (hs : sh k = some (.inl ci)) (hF : ClF ci C T NF ty) (hi : i < NF) (hR : isR ci i = false) (hlink : Cond.fieldLink own idx (T i).1 (T i).2.1 (T i).2.2.1 ∈ lw_g) (hfin : (T i).2.2.2 = false) (hty : ty i = .boolean) (hz : x = 0 ∨ x = 1) (hd : decode cc pc = .ok (.putfield idx, 3)) (kk : Jg ad ca D (wsL ad ca ks) cc own nL d Γ (pc + 3) lv st (up2 M.1 k i x, M.2)) : Jg ad ca D (wsL ad ca ks) cc own nL d Γ pc lv (vI x :: vR (some k) :: st) M := by
  have hn : i < nf ci := by rw [hF.2.2.1]; exact hi
  have e1 : fv ad (up2 M.1 k i x, M.2) ci k i = .int x := by
    rw [fv_int hR]
    show _ = _
    simp only [up2_eq, va_up, if_true]
  have e2 : ∀ j, j ≠ i → fv ad (up2 M.1 k i x, M.2) ci k j = fv ad M ci k j := by
    intro j hj
    unfold fv
    simp only [up2_eq, va_up, if_neg hj]
  intro p l e R s m args below meth c H locs cells slots Z ls hg hc hP hD hS hl
  refine va_put (D := D) (cl := vwCl) (tys := tysOf ca) (C := C) (T := T) (N := NF) (ci := ci) (ty := ty i) (v := .int x) hc.1 hc.2.1 hc.2.2.2.2.1 hF.2.1 ty hF.2.2.2.1 hF.2.2.2.2 hc.2.2.2.1 hc.2.2.2.2.2.1 hP hD hS p0 (wsL_at hp hs) hF.1 i hi (hc.2.2.2.2.1 _ hlink) (fun _ h => h) hfin (hF.2.2.2.1 i hi) (by rw [hty]; rcases hz with rfl | rfl <;> rfl) (by rw [hty]; rcases hz with rfl | rfl <;> rfl) (by unfold objF; simp; exact hn) hd (fun H1 locs1 hP1 _ hS1 => ?_)
  refine kk p l e R s m args below meth c H1 locs1 cells slots Z ls hg hc ?_ (wsL_Dc hD) hS1 hl
  rw [← wsL_set (M := M) (M' := (up2 M.1 k i x, M.2)) hnd hp hs (e := .inr (ci, (objF ad M k ci).set i (.int x))) (by rw [← e1, objF_set hn e2]; rfl) (fun j hj => up2_ne hj) (fun j hj => rfl)]
  exact hP1
theorem ks_sh {k : Nat} (h : k < NC) : ∃ x, sh k = some x := ⟨_, List.getElem?_eq_getElem h⟩
theorem full_P {H : Heap} (hf : ∀ k, k < NC → k ∈ ks) (h : va_P D vwCl (wsL ad ca ks M) H) : va_P D vwCl (wsOf ad ca M) H := by
  intro i q hi
  obtain ⟨x, hx, rfl⟩ := ws_inv hi
  obtain ⟨p, hp⟩ := List.getElem?_of_mem (hf i (sh_lt hx))
  exact h p _ (wsL_at hp hx)
theorem full_D {A : Nat → Prop} (hf : ∀ k, k < NC → k ∈ ks) (h : va_D A (wsL ad ca ks M)) : va_D A (wsOf ad ca M) := by
  refine ⟨fun i j a b hi hj e => ?_, fun i q hi => ?_⟩
  · obtain ⟨x, hx, rfl⟩ := ws_inv hi
    obtain ⟨y, hy, rfl⟩ := ws_inv hj
    obtain ⟨p, hp⟩ := List.getElem?_of_mem (hf i (sh_lt hx))
    obtain ⟨p', hp'⟩ := List.getElem?_of_mem (hf j (sh_lt hy))
    have e9 := h.1 p p' _ _ (wsL_at hp hx) (wsL_at hp' hy) e
    subst e9
    exact Option.some.inj (hp.symm.trans hp')
  · obtain ⟨x, hx, rfl⟩ := ws_inv hi
    obtain ⟨p, hp⟩ := List.getElem?_of_mem (hf i (sh_lt hx))
    exact h.2 p (ad i, cellOf ad ca M i x) (wsL_at hp hx)
theorem wsL_inv {i : Nat} {q : Nat × va_E} (hlt : ∀ k, k ∈ ks → k < NC) (h : (wsL ad ca ks M)[i]? = some q) : ∃ k x, ks[i]? = some k ∧ sh k = some x ∧ q = (ad k, cellOf ad ca M k x) := by
  unfold wsL at h
  rw [List.getElem?_map] at h
  cases hk : ks[i]? with
  | none => rw [hk] at h; cases h
  | some k =>
    rw [hk] at h
    cases h
    obtain ⟨x, hx⟩ := ks_sh (hlt k (List.mem_of_getElem? hk))
    exact ⟨k, x, rfl, hx, by show (ad k, cellK ad ca M k) = _; rw [cellK_eq hx]⟩
theorem part_P {H : Heap} (hlt : ∀ k, k ∈ ks → k < NC) (h : va_P D vwCl (wsOf ad ca M) H) : va_P D vwCl (wsL ad ca ks M) H := by
  intro i q hi
  obtain ⟨k, x, -, hx, rfl⟩ := wsL_inv hlt hi
  exact h k _ (ws_get hx)
theorem part_D {A : Nat → Prop} (hlt : ∀ k, k ∈ ks → k < NC) (hnd : va_nd ks = true) (h : va_D A (wsOf ad ca M)) : va_D A (wsL ad ca ks M) := by
  refine ⟨fun i j a b hi hj e => ?_, fun i q hi => ?_⟩
  · obtain ⟨k, x, hk, hx, rfl⟩ := wsL_inv hlt hi
    obtain ⟨k', y, hk', hy, rfl⟩ := wsL_inv hlt hj
    have e9 := h.1 k k' _ _ (ws_get hx) (ws_get hy) e
    subst e9
    exact va_nd_inj ks hnd i j k hk hk'
  · obtain ⟨k, x, -, hx, rfl⟩ := wsL_inv hlt hi
    exact h.2 k (ad k, cellOf ad ca M k x) (ws_get hx)
theorem J_full (hf : ∀ k, k < NC → k ∈ ks) (h : J ad ca D cc own nL d Γ pc lv st M) : Jg ad ca D (wsL ad ca ks) cc own nL d Γ pc lv st M := by
  intro p l e R s m args below meth c H locs cells slots Z ls hg hc hP hD hS hl
  exact h p l e R s m args below meth c H locs cells slots Z ls hg hc (full_P hf hP) (full_D hf hD) hS hl
theorem J_part (hlt : ∀ k, k ∈ ks → k < NC) (hnd : va_nd ks = true) (h : Jg ad ca D (wsL ad ca ks) cc own nL d Γ pc lv st M) : J ad ca D cc own nL d Γ pc lv st M := by
  intro p l e R s m args below meth c H locs cells slots Z ls hg hc hP hD hS hl
  exact h p l e R s m args below meth c H locs cells slots Z ls hg hc (part_P hlt hP) (part_D hlt hnd hD) hS hl
end JK2
theorem Ct_ofF {wf : Mem → va_W} {ad : Nat → Nat} {ca : Nat → ClassId} {D : va_G} {d : Nat} {M : Mem} {Q : Option AV → Mem → Prop} {y : MethodName} {cb : ByteArray} {mL : Nat} {ret : Option FieldType} {as : List AV} (hy : plainFor y = true) (hn : (as.map catA).sum ≤ mL) (h : Jg ad ca D wf cb y.cls mL d (Gtg ad wf D ret Q) 0 (lvA 0 as) [] M) : Ctg ad ca D wf y cb mL ret d as M Q := by
  intro l
  refine va_MetF (cc := cb) (maxL := mL) (ret := ret) hy rfl ?_
  intro p e s m args below meth c s₁ B hml hv
  obtain ⟨rfl, hP, hK, hSC, hD⟩ := hv
  have hts := atoms_spec (ws := (.code y cb mL ret :: lw_g)) B.pre
  have hl := lv_entry (as.map (cv ad)) (n := mL) (by rw [sl_len]; exact hn)
  rw [lg_entry_eq]
  rw [lvA_ok] at hl
  exact h p l e (rmd d) s m _ below meth c s.heap [] 0 0 _ _ ⟨rfl, B.returns, B.notSynchronized⟩ ⟨B.exec, B.bytes, hml, findClass_of_methodNamed B.named, fun w hw => hts w (List.mem_cons_of_mem _ hw), hK, hSC, trivial, ⟨Nat.le_refl _, Nat.le_refl _⟩, Nat.zero_le _, Nat.zero_le _⟩ hP hD va_S.rf hl
theorem pf_fm : plainFor yJ9_floorMod_7cf53 = true := by decide +kernel
def fmJ (x y : Int32) : Int32 := if 0 ≤ x ^^^ y then x - x / y * y else if x - x / y * y = 0 then x - x / y * y else (x - x / y * y) + y
set_option maxRecDepth 100000 in
theorem tJ9_floorMod {wf : Mem → va_W} {ad : Nat → Nat} {ca : Nat → ClassId} {D : va_G} {d : Nat} {M : Mem} {x y : Int32} (hy : ¬ y = 0) : Ctg ad ca D wf yJ9_floorMod_7cf53 cJ9_floorMod_7cf53 3 (some .int) (d + 0) [vI x, vI y] M (QI (fmJ x y) M) := by
  refine Ct_ofF pf_fm (Nat.le_of_ble_eq_true rfl) ?_
  show Jg ad ca D wf cJ9_floorMod_7cf53 "java/lang/Math" 3 (d + 0) (Gtg ad wf D (some .int) (QI (fmJ x y) M)) 0 [(0, vI x), (1, vI y)] [] M
  refine J_iload_n (pc := 0) (q := 0) rfl rfl dJ9_floorMod_7cf53_0 ?_
  refine J_iload_n (pc := 1) (q := 1) rfl rfl dJ9_floorMod_7cf53_1 ?_
  refine J_irem (pc := 2) hy dJ9_floorMod_7cf53_2 ?_
  refine J_istore_n (pc := 3) rfl (by decide) (lv' := [(0, vI x), (1, vI y), (2, vI (x - x / y * y))]) rfl dJ9_floorMod_7cf53_3 ?_
  refine J_iload_n (pc := 4) (q := 0) rfl rfl dJ9_floorMod_7cf53_4 ?_
  refine J_iload_n (pc := 5) (q := 1) rfl rfl dJ9_floorMod_7cf53_5 ?_
  refine J_ixor (pc := 6) dJ9_floorMod_7cf53_6 ?_
  refine J_ifge (pc := 7) (tgt := 18) (by decide) dJ9_floorMod_7cf53_7 (fun hc => ?_) (fun hc => ?_)
  · refine J_iload_n (pc := 18) (q := 2) rfl rfl dJ9_floorMod_7cf53_18 ?_
    exact J_iret (pc := 19) ⟨by unfold fmJ; rw [if_pos hc], rfl⟩ dJ9_floorMod_7cf53_19
  · refine J_iload_n (pc := 10) (q := 2) rfl rfl dJ9_floorMod_7cf53_10 ?_
    refine J_ifeq (pc := 11) (tgt := 18) (by decide) dJ9_floorMod_7cf53_11 (fun hc2 => ?_) (fun hc2 => ?_)
    · refine J_iload_n (pc := 18) (q := 2) rfl rfl dJ9_floorMod_7cf53_18 ?_
      exact J_iret (pc := 19) ⟨by unfold fmJ; rw [if_neg hc, if_pos hc2], rfl⟩ dJ9_floorMod_7cf53_19
    · refine J_iload_n (pc := 14) (q := 2) rfl rfl dJ9_floorMod_7cf53_14 ?_
      refine J_iload_n (pc := 15) (q := 1) rfl rfl dJ9_floorMod_7cf53_15 ?_
      refine J_iadd (pc := 16) dJ9_floorMod_7cf53_16 ?_
      exact J_iret (pc := 17) ⟨by unfold fmJ; rw [if_neg hc, if_neg hc2], rfl⟩ dJ9_floorMod_7cf53_17
