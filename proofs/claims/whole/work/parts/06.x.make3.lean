section JK3
variable {ad ad0 : Nat → Nat} {ca : Nat → ClassId} {D : va_G} {cc : ByteArray} {own : String} {nL d : Nat} {pc : Nat} {lv : List (Nat × AV)} {st : List AV} {M N : Mem} {ks new ks' : List Nat} {mc ms cl sl : Nat} {Γ Γ' : Gm}
theorem K_anew {k n idx : Nat} {z : Int32} (hΓ : StpG ad Γ Γ' 1 n) (hk : sh k = some (.inr (4, n))) (hfr : k ∉ ks) (h2 : k < 200) (hn : ∀ i, M.2 k i = none) (hr : Rf ks M) (hz : ¬ z < 0) (hzn : z.toNatClampNeg = n) (hb : n * 4 ≤ 536870912) (hlv : lv.all (fun q => okv [k] q.2) = true) (hst : st.all (okv [k]) = true) (hcl : Cond.classLink own idx "WolfVillage$Sheet" ∈ lw_g) (hd : decode cc pc = .ok (.anewarray idx, 3)) (kk : ∀ ad', Ext [k] ad ad' → Jg ad' ca D (wsL ad' ca (ks ++ [k])) cc own nL d Γ' (pc + 3) lv (vR (some k) :: st) M) : Jg ad ca D (wsL ad ca ks) cc own nL d Γ pc lv (vI z :: st) M := by
  intro p l e R s m args below meth c H locs cells slots Z ls hg hc hP hD hS hl
  obtain ⟨g1, g2, g3, g4, g5⟩ := hΓ _ _ _ _ _ _ _ _ _ _ _ _ _ hg
  have hts := hc.2.2.2.2.1
  refine va_newq (D := D) (cl := vwCl) (tys := tysOf ca) (A := AA ad) (H0 := s.heap) (C := "WolfVillage$Sheet") hc.1 hc.2.1 hc.2.2.2.1 (hts _ hcl) g5.2.2.2.2.2.2.1 hc.2.2.2.2.2.1 hP hD hS (fun q hq => by show ad 400 ≤ q; omega) hz hzn hb g2 g3 hd (fun q cA H1 hK1 hP1 hD1 hS1 => ?_)
  have ec : cA = ca 4 := by
    obtain ⟨kA, comp, -, -, -, a1⟩ := (hK1.2 5 (cA, .object "WolfVillage$Sheet") rfl).2
    obtain ⟨kB, comp2, -, -, -, a2⟩ := (hc.2.2.2.2.2.1.2 4 (ca 4, .object "WolfVillage$Sheet") rfl).2
    exact Option.some.inj (a1.symm.trans a2)
  subst ec
  obtain ⟨he, hw⟩ := K_grow (ad := ad) (ca := ca) (q := q) hk hfr hr hn
  rw [cell_arrR (by decide), show (fun j => (M.2 k j).map ad) = (fun _ => (none : Option Nat)) from funext fun j => by rw [hn j]; rfl] at hw
  have hl0 : ∀ j, 200 ≤ j → j ∉ [k] := fun j hj h9 => by rw [List.mem_singleton.mp h9] at hj; omega
  have hA := K_AA he hl0
  have hk' := kk (va_up ad k q) he p l e R s m args below meth c H1 locs (cells + 1) (slots + n) Z ls g1 (K_cx he hl0 hc g2 g3) (by rw [hw]; exact hP1) (by rw [hw, hA]; exact hD1) (by rw [hA]; exact hS1) (by rw [cvl_ad he hlv]; exact hl)
  have e9 : (vR (some k) :: st).map (cv (va_up ad k q)) = .ref q :: st.map (cv ad) := by
    show (Value.ref (va_up ad k q k)) :: st.map (cv (va_up ad k q)) = _
    rw [cvs_ad he hst]
    unfold va_up
    rw [if_pos rfl]
  rw [e9] at hk'
  exact hk'
theorem K_aast {p0 p1 k v n : Nat} {i : Int32} (hp : ks[p0]? = some k) (hnd : va_nd ks = true) (hs : sh k = some (.inr (4, n))) (hp1 : ks[p1]? = some v) (hs1 : sh v = some (.inl 5)) (hin : vp_in i n) (hd : decode cc pc = .ok (.aastore, 1)) (kk : Jg ad ca D (wsL ad ca ks) cc own nL d Γ (pc + 1) lv st (pKR M k i.toNatClampNeg (some v))) : Jg ad ca D (wsL ad ca ks) cc own nL d Γ pc lv (vR (some v) :: vI i :: vR (some k) :: st) M := by
  intro p l e R s m args below meth c H locs cells slots Z ls hg hc hP hD hS hl
  refine va_astq (D := D) (cl := vwCl) (tys := tysOf ca) (r := (RX5, TX5, 3)) hc.1 hc.2.1 hc.2.2.2.2.2.1 hP hD hS p0 4 p1 5 ((wsL_at hp hs).trans (by rw [cell_arrR (by decide)])) rfl (wsL_at hp1 hs1) rfl hin hd (fun H1 locs1 hP1 _ hS1 => ?_)
  refine kk p l e R s m args below meth c H1 locs1 cells slots Z ls hg hc ?_ (wsL_Dc hD) hS1 hl
  rw [← wsL_set (M := M) (M' := pKR M k i.toNatClampNeg (some v)) hnd hp hs (e := .inl (ca 4, n, .inr (.inr (.inr (.inr (va_up (fun j => (M.2 k j).map ad) i.toNatClampNeg (some (ad v)))))))) (by
    rw [cell_arrR (by decide)]
    have e : (fun j => ((pKR M k i.toNatClampNeg (some v)).2 k j).map ad) = va_up (fun j => (M.2 k j).map ad) i.toNatClampNeg (some (ad v)) := by
      funext j
      show (up2 M.2 k i.toNatClampNeg (some v) k j).map ad = _
      rw [up2_eq]
      unfold va_up
      by_cases hj : j = i.toNatClampNeg
      · rw [if_pos hj, if_pos hj]; rfl
      · rw [if_neg hj, if_neg hj]
    rw [e]) (fun j hj => rfl) (fun j hj => up2_ne hj)]
  exact hP1
end JK3
