/-! constructors: new byte[6][120], by the library's law of two dimensions -/
section JKM
variable {ad ad0 : Nat → Nat} {ca : Nat → ClassId} {D : va_G} {cc : ByteArray} {own : String} {nL d : Nat} {pc : Nat} {lv : List (Nat × AV)} {st : List AV} {M N : Mem} {ks new ks' : List Nat} {mc ms cl sl : Nat} {Γ Γ' : Gm}
def l46 : List Nat := [40, 41, 42, 43, 44, 45, 46]
/-- where the seven new cells lie -/
def ad46 (ad : Nat → Nat) (h : Nat) : Nat → Nat := fun j => if 40 ≤ j ∧ j ≤ 46 then h + (j - 40) else ad j
theorem ad46_ext (h : Nat) : Ext l46 ad (ad46 ad h) := by
  intro j hj
  unfold ad46
  rw [if_neg]
  intro z
  apply hj
  obtain y | y | y | y | y | y | y : j = 40 ∨ j = 41 ∨ j = 42 ∨ j = 43 ∨ j = 44 ∨ j = 45 ∨ j = 46 := by omega
  all_goals subst y; decide
def row0 (ca : Nat → ClassId) : va_E := .inl (ca 2, 120, .inl (fun _ => 0))
def out6 (ca : Nat → ClassId) (h : Nat) : va_E := .inl (ca 3, 6, .inr (.inr (.inr (.inr (fun i => if i < 6 then some (h + 1 + i) else none)))))
theorem ws46 {h : Nat} (hfr : ∀ k, k ∈ l46 → k ∉ ks) (hr : Rf ks M) (h40 : ∀ i, M.2 40 i = if i < 6 then some (41 + i) else none) (hM : ∀ k, 41 ≤ k → k ≤ 46 → M.1 k = fun _ => 0) : wsL (ad46 ad h) ca (ks ++ l46) M = (wsL ad ca ks M ++ [(h, out6 ca h)]) ++ (List.range 6).map (fun i => (h + 1 + i, row0 ca)) := by
  have h1 : wsL (ad46 ad h) ca ks M = wsL ad ca ks M := wsL_ad hr (fun c hc => ad46_ext h c (fun z => hfr c z hc))
  have c40 : cellK (ad46 ad h) ca M 40 = out6 ca h := by
    rw [cellK_eq (x := .inr (3, 6)) rfl, cell_arrR (by decide)]
    unfold out6
    congr 6
    funext i
    rw [h40 i]
    by_cases z : i < 6
    · rw [if_pos z, if_pos z]
      show some (ad46 ad h (41 + i)) = _
      unfold ad46
      rw [if_pos (by omega)]
      congr 1
      omega
    · rw [if_neg z, if_neg z]
      rfl
  have cr : ∀ k, 41 ≤ k → k ≤ 46 → sh k = some (.inr (2, 120)) → cellK (ad46 ad h) ca M k = row0 ca := by
    intro k h1 h2 hs
    rw [cellK_eq hs]
    unfold row0 cellOf
    rw [hM k h1 h2]
    rfl
  unfold wsL at h1 ⊢
  rw [List.map_append, h1]
  unfold l46
  simp only [List.map_cons, List.map_nil]
  rw [c40, cr 41 (by decide) (by decide) rfl, cr 42 (by decide) (by decide) rfl, cr 43 (by decide) (by decide) rfl, cr 44 (by decide) (by decide) rfl, cr 45 (by decide) (by decide) rfl, cr 46 (by decide) (by decide) rfl]
  rw [List.append_assoc]
  rfl
theorem K_mna {idx : Nat} (hΓ : StpG ad Γ Γ' 7 726) (hfr : ∀ k, k ∈ l46 → k ∉ ks) (h40 : ∀ i, M.2 40 i = if i < 6 then some (41 + i) else none) (hM : ∀ k, 41 ≤ k → k ≤ 46 → M.1 k = fun _ => 0) (hr : Rf ks M) (hlv : lv.all (fun q => okv l46 q.2) = true) (hst : st.all (okv l46) = true) (hcl : Cond.classLink own idx ("[" ++ (FieldType.array .byte).toString) ∈ lw_g) (harr : Cond.arrayClass .byte ∈ lw_g) (hd : decode cc pc = .ok (.multianewarray idx 2, 4)) (kk : ∀ ad', Ext l46 ad ad' → Jg ad' ca D (wsL ad' ca (ks ++ l46)) cc own nL d Γ' (pc + 4) lv (vR (some 40) :: st) M) : Jg ad ca D (wsL ad ca ks) cc own nL d Γ pc lv (vI (nI 120) :: vI (nI 6) :: st) M := by
  sorry
end JKM
