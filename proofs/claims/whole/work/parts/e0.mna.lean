/-! constructors: new byte[6][120], by the library's law of two dimensions -/
section JKM
variable {ad ad0 : Nat → Nat} {ca : Nat → ClassId} {D : va_G} {cc : ByteArray} {own : String} {nL d : Nat} {pc : Nat} {lv : List (Nat × AV)} {st : List AV} {M N : Mem} {ks new ks' : List Nat} {mc ms cl sl : Nat} {Γ Γ' : Gm}
def l46 : List Nat := [40, 41, 42, 43, 44, 45, 46]
/-- where the seven new cells lie -/
def ad46 (ad : Nat → Nat) (h : Nat) : Nat → Nat := fun j => if 40 ≤ j ∧ j ≤ 46 then h + (j - 40) else ad j
theorem ad46_ext (h : Nat) : Ext l46 ad (ad46 ad h) := by
  intro j hj
  unfold ad46
  rw [if_neg]
  intro z
  apply hj
  obtain y | y | y | y | y | y | y : j = 40 ∨ j = 41 ∨ j = 42 ∨ j = 43 ∨ j = 44 ∨ j = 45 ∨ j = 46 := by omega
  all_goals subst y; decide
def row0 (ca : Nat → ClassId) : va_E := .inl (ca 2, 120, .inl (fun _ => 0))
def out6 (ca : Nat → ClassId) (h : Nat) : va_E := .inl (ca 3, 6, .inr (.inr (.inr (.inr (fun i => if i < 6 then some (h + 1 + i) else none)))))
theorem ws46 {h : Nat} (hfr : ∀ k, k ∈ l46 → k ∉ ks) (hr : Rf ks M) (h40 : ∀ i, M.2 40 i = if i < 6 then some (41 + i) else none) (hM : ∀ k, 41 ≤ k → k ≤ 46 → M.1 k = fun _ => 0) : wsL (ad46 ad h) ca (ks ++ l46) M = (wsL ad ca ks M ++ [(h, out6 ca h)]) ++ (List.range 6).map (fun i => (h + 1 + i, row0 ca)) := by
  have h1 : wsL (ad46 ad h) ca ks M = wsL ad ca ks M := wsL_ad hr (fun c hc => ad46_ext h c (fun z => hfr c z hc))
  have c40 : cellK (ad46 ad h) ca M 40 = out6 ca h := by
    rw [cellK_eq (x := .inr (3, 6)) rfl, cell_arrR (by decide)]
    unfold out6
    congr 6
    funext i
    rw [h40 i]
    by_cases z : i < 6
    · rw [if_pos z, if_pos z]
      show some (ad46 ad h (41 + i)) = _
      unfold ad46
      rw [if_pos (by omega)]
      congr 1
      omega
    · rw [if_neg z, if_neg z]
      rfl
  have cr : ∀ k, 41 ≤ k → k ≤ 46 → sh k = some (.inr (2, 120)) → cellK (ad46 ad h) ca M k = row0 ca := by
    intro k h1 h2 hs
    rw [cellK_eq hs]
    unfold row0 cellOf
    rw [hM k h1 h2]
    rfl
  unfold wsL at h1 ⊢
  rw [List.map_append, h1]
  unfold l46
  simp only [List.map_cons, List.map_nil]
  rw [c40, cr 41 (by decide) (by decide) rfl, cr 42 (by decide) (by decide) rfl, cr 43 (by decide) (by decide) rfl, cr 44 (by decide) (by decide) rfl, cr 45 (by decide) (by decide) rfl, cr 46 (by decide) (by decide) rfl]
  rw [List.append_assoc]
  rfl
/-- the outer array, filled -/
theorem out_c (c : ClassId) (n h0 : Nat) : ∀ i : Nat, Jvm.Free.Multi.outerC c n h0 i = arrV c n (fun j => va_rf (if j < i then some (h0 + 1 + j) else none)) := by
  intro i
  induction i with
  | zero =>
    show ({ cls := c, slots := Array.replicate n .null, vm := .none } : Cell) = _
    rw [arrV_new]
    exact congrArg (arrV c n) (funext fun j => by rw [if_neg (Nat.not_lt_zero j)]; rfl)
  | succ i ih =>
    show (Jvm.Free.Multi.outerC c n h0 i).setSlot i (.ref (h0 + 1 + i)) = _
    rw [ih, arrV_store]
    refine congrArg (arrV c n) (funext fun j => ?_)
    unfold updV
    by_cases e : j = i
    · rw [if_pos e, e, if_pos (Nat.lt_succ_self i)]
      rfl
    · rw [if_neg e]
      by_cases z : j < i
      · rw [if_pos z, if_pos (Nat.lt_succ_of_lt z)]
      · rw [if_neg z, if_neg (by omega)]
theorem K_mna {idx : Nat} (hΓ : StpG ad Γ Γ' 7 726) (hfr : ∀ k, k ∈ l46 → k ∉ ks) (h40 : ∀ i, M.2 40 i = if i < 6 then some (41 + i) else none) (hM : ∀ k, 41 ≤ k → k ≤ 46 → M.1 k = fun _ => 0) (hr : Rf ks M) (hlv : lv.all (fun q => okv l46 q.2) = true) (hst : st.all (okv l46) = true) (hcl : Cond.classLink own idx ("[" ++ (FieldType.array .byte).toString) ∈ lw_g) (harr : Cond.arrayClass .byte ∈ lw_g) (hd : decode cc pc = .ok (.multianewarray idx 2, 4)) (kk : ∀ ad', Ext l46 ad ad' → Jg ad' ca D (wsL ad' ca (ks ++ l46)) cc own nL d Γ' (pc + 4) lv (vR (some 40) :: st) M) : Jg ad ca D (wsL ad ca ks) cc own nL d Γ pc lv (vI (nI 120) :: vI (nI 6) :: st) M := by
  intro p l e R s m args below meth c H locs cells slots Z ls hg hc hP hD hS hl
  obtain ⟨g1, g2, g3, g4, g5⟩ := hΓ _ _ _ _ _ _ _ _ _ _ _ _ _ hg
  have hts := hc.2.2.2.2.1
  have hov : (Cond.arrayOver (.array .byte)).before args s = true := g5.2.2.2.2.2.2.2
  intro T hT Xs
  have n6 : (nI 6).toNatClampNeg = 6 := nI_clamp (by decide)
  have n120 : (nI 120).toNatClampNeg = 120 := nI_clamp (by decide)
  obtain ⟨vm₁, cA, comp, -, fA, fC, hO, -, X', step⟩ := Xs.multianewarray2F hc.1 hc.2.2.2.1 (hts _ hcl) hov (hts _ harr) (g := F0 m pc ls (.int (nI 120) :: .int (nI 6) :: st.map (cv ad))) rfl (by rw [hc.2.1]; exact hd) rfl (by decide) (by decide) (by rw [n6]; decide) (by rw [n120]; decide) (by rw [n120]; decide) rfl rfl (by rw [n6]; exact g2) (by rw [n6, n120]; exact g3)
  rw [n6, n120] at X' step
  have e3 : cA = ca 3 := Option.some.inj (fA.symm.trans (hc.2.2.2.2.2.1.2 3 (ca 3, .array .byte) rfl).2)
  have e2 : comp = ca 2 := Option.some.inj (fC.symm.trans (hc.2.2.2.2.2.1.2 2 (ca 2, .byte) rfl).2)
  subst e3
  subst e2
  generalize hF : Jvm.Free.Multi.fill (T.setVm vm₁) (ca 3) (ca 2) 6 120 (defaultValue .byte) 6 = F at X' step
  have hTh : (T.setVm vm₁).heap = H := hT
  obtain ⟨f1, f2, -, -⟩ := Jvm.Free.Multi.fill_facts (T.setVm vm₁) (ca 3) (ca 2) 6 120 (defaultValue .byte) 6
  rw [hF, hTh] at f1 f2
  have hold : ∀ x : Nat, x < H.size → F.heap[x]? = H[x]? := fun x hx => by
    have := Jvm.Free.Multi.fill_old (T.setVm vm₁) (ca 3) (ca 2) 6 120 (defaultValue .byte) (a := x) (by rw [hTh]; exact hx) 6
    rw [hF, hTh] at this
    exact this
  have hrow : ∀ j : Nat, j < 6 → F.heap[H.size + 1 + j]? = some (Jvm.Free.Multi.innerC (ca 2) 120 (defaultValue .byte)) := fun j hj => by
    have := Jvm.Free.Multi.fill_inner (T.setVm vm₁) (ca 3) (ca 2) 6 120 (defaultValue .byte) 6 j hj
    rw [hF, hTh] at this
    exact this
  have q2 : F.heap[H.size]? = some (vp_cell (ca 3) (6, .inr (.inr (.inr (.inr (fun i => if i < 6 then some (H.size + 1 + i) else none)))))) := by
    rw [f2, out_c]
    rfl
  have q3 : ∀ j : Nat, j < 6 → F.heap[H.size + 1 + j]? = some (vp_cell (ca 2) (120, .inl (fun _ => 0))) := fun j hj => by
    rw [hrow j hj, vp_cell_i, ← arrV_new]
    rfl
  have P0 : va_P D vwCl (wsL ad ca ks M) F.heap := hP.kept (fun k9 x hx => hold x.1 ((hP k9 x hx).lt))
  have P1 : va_P D vwCl (wsL ad ca ks M ++ [(H.size, out6 ca H.size)]) F.heap := P0.app (fun k9 x hx => by
    have h0 : k9 < 1 := (List.getElem?_eq_some_iff.mp hx).1
    rw [show k9 = 0 by omega] at hx
    cases hx
    exact q2)
  have rows : ∀ (k9 : Nat) (x : Nat × va_E), ((List.range 6).map (fun i => (H.size + 1 + i, row0 ca)))[k9]? = some x → k9 < 6 ∧ x = (H.size + 1 + k9, row0 ca) := by
    intro k9 x hx
    rw [List.getElem?_map] at hx
    by_cases h9 : k9 < 6
    · rw [List.getElem?_range h9] at hx
      exact ⟨h9, (Option.some.inj hx).symm⟩
    · rw [List.getElem?_eq_none (by rw [List.length_range]; omega)] at hx
      cases hx
  have P2 : va_P D vwCl ((wsL ad ca ks M ++ [(H.size, out6 ca H.size)]) ++ (List.range 6).map (fun i => (H.size + 1 + i, row0 ca))) F.heap := P1.app (fun k9 x hx => by
    obtain ⟨h9, e9⟩ := rows k9 x hx
    subst e9
    exact q3 k9 h9)
  have hA : ∀ q, H.size ≤ q → AA ad q := fun q hq => by
    show ad 400 ≤ q
    have := hS.1
    omega
  have D1 : va_D (AA ad) (wsL ad ca ks M ++ [(H.size, out6 ca H.size)]) := hD.push hP rfl (hA _ (Nat.le_refl _))
  have le1 : ∀ (k9 : Nat) (x : Nat × va_E), (wsL ad ca ks M ++ [(H.size, out6 ca H.size)])[k9]? = some x → x.1 ≤ H.size := by
    intro k9 x hx
    by_cases h9 : k9 < (wsL ad ca ks M).length
    · rw [List.getElem?_append_left h9] at hx
      exact Nat.le_of_lt ((hP k9 x hx).lt)
    · rw [List.getElem?_append_right (by omega)] at hx
      have h0 : k9 - (wsL ad ca ks M).length < 1 := (List.getElem?_eq_some_iff.mp hx).1
      rw [show k9 - (wsL ad ca ks M).length = 0 by omega] at hx
      cases hx
      exact Nat.le_refl _
  have D2 : va_D (AA ad) ((wsL ad ca ks M ++ [(H.size, out6 ca H.size)]) ++ (List.range 6).map (fun i => (H.size + 1 + i, row0 ca))) := by
    refine D1.app ⟨fun i j x y hi hj hxy => ?_, fun k9 x hx => ?_⟩ (fun i j x y hi hj hxy => ?_)
    · obtain ⟨_, e1⟩ := rows i x hi
      obtain ⟨_, e2⟩ := rows j y hj
      subst e1
      subst e2
      have : H.size + 1 + i = H.size + 1 + j := hxy
      omega
    · obtain ⟨_, e1⟩ := rows k9 x hx
      subst e1
      exact hA _ (by show H.size ≤ H.size + 1 + k9; omega)
    · obtain ⟨_, e2⟩ := rows j y hj
      subst e2
      have h1 := le1 i x hi
      have h2 : x.1 = H.size + 1 + j := hxy
      omega
  have hw := ws46 (ad := ad) (ca := ca) (h := H.size) hfr hr h40 hM
  have he := ad46_ext (ad := ad) H.size
  have hl0 : ∀ j, 200 ≤ j → j ∉ l46 := fun j hj h9 => by
    unfold l46 at h9
    simp only [List.mem_cons, List.not_mem_nil, or_false] at h9
    omega
  have hAA := K_AA he hl0
  have hS1 : va_S (AA ad) s.heap F.heap locs := ⟨by rw [f1]; have := hS.1; omega, fun x h1 h2 => (hold x (Nat.lt_of_lt_of_le h1 hS.1)).trans (hS.2.1 x h1 h2), hS.2.2⟩
  have hk' := kk (ad46 ad H.size) he p l e R s m args below meth c F.heap locs (cells + 7) (slots + 726) Z ls g1 (K_cx he hl0 hc g2 g3) (by rw [hw]; exact P2) (by rw [hw, hAA]; exact D2) (by rw [hAA]; exact hS1) (by rw [cvl_ad he hlv]; exact hl)
  have e9 : (vR (some 40) :: st).map (cv (ad46 ad H.size)) = .ref H.size :: st.map (cv ad) := by
    show (Value.ref (ad46 ad H.size 40)) :: st.map (cv (ad46 ad H.size)) = _
    rw [cvs_ad he hst]
    rfl
  rw [e9] at hk'
  obtain ⟨t, a1, b1⟩ := hk' F rfl X'
  refine ⟨t, step t ?_, b1⟩
  have eT : T.heap.size = H.size := by rw [hT]
  rw [eT]
  exact a1
end JKM
