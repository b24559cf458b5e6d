theorem rf_X6_init_17 {M : Mem} (hr : Rf ks_X6_init_17 M) (hz : Zr new_X6_init_17 M) : Rf kz_X6_init_17 (nX6_init_17 M) := by
  unfold nX6_init_17
  exact Rf.pR (Rf.pR (Rf.pR (Rf.pI (Rf.pR (Rf.pR (Rf.pR (Rf.pR (Rf.pR (Rf.pR (Rf.pR (Rf.pI (Rf.adds hr (fun k hk => (hz k hk).2))) (by decide)) (by decide)) (by decide)) (by decide)) (by decide)) (by decide)) (by decide))) (by decide)) (by decide)) (by decide)
theorem zr_X6_init_17 {M : Mem} {l : List Nat} (h : Zr l M) (hk : 17 ∉ l) : Zr l (nX6_init_17 M) := by
  unfold nX6_init_17
  exact Zr.pR (Zr.pR (Zr.pR (Zr.pI (Zr.pR (Zr.pR (Zr.pR (Zr.pR (Zr.pR (Zr.pR (Zr.pR (Zr.pI (h) hk) hk) hk) hk) hk) hk) hk) hk) hk) hk) hk) hk
theorem hf_X6_init_17 {M : Mem} (h : H40 M) : H40 (nX6_init_17 M) := by
  unfold nX6_init_17
  exact H40.pR (H40.pR (H40.pR (H40.pI (H40.pR (H40.pR (H40.pR (H40.pR (H40.pR (H40.pR (H40.pR (H40.pI (h)) (by decide)) (by decide)) (by decide)) (by decide)) (by decide)) (by decide)) (by decide))) (by decide)) (by decide)) (by decide)
theorem rf_X2_init_28 {M : Mem} (hr : Rf ks_X2_init_28 M) (hz : Zr new_X2_init_28 M) : Rf kz_X2_init_28 (nX2_init_28 M) := by
  unfold nX2_init_28
  exact Rf.pR (Rf.pR (Rf.pI (Rf.pI (Rf.adds hr (fun k hk => (hz k hk).2)))) (by decide)) (by decide)
theorem zr_X2_init_28 {M : Mem} {l : List Nat} (h : Zr l M) (hk : 28 ∉ l) : Zr l (nX2_init_28 M) := by
  unfold nX2_init_28
  exact Zr.pR (Zr.pR (Zr.pI (Zr.pI (h) hk) hk) hk) hk
theorem hf_X2_init_28 {M : Mem} (h : H40 M) : H40 (nX2_init_28 M) := by
  unfold nX2_init_28
  exact H40.pR (H40.pR (H40.pI (H40.pI (h))) (by decide)) (by decide)
theorem rf_X1_init_31 {M : Mem} (hr : Rf ks_X1_init_31 M) (hz : Zr new_X1_init_31 M) : Rf kz_X1_init_31 (nX1_init_31 M) := by
  unfold nX1_init_31
  exact Rf.pR (Rf.pR (Rf.pR (Rf.pI (Rf.adds hr (fun k hk => (hz k hk).2))) (by decide)) (by decide)) (by decide)
theorem zr_X1_init_31 {M : Mem} {l : List Nat} (h : Zr l M) (hk : 31 ∉ l) : Zr l (nX1_init_31 M) := by
  unfold nX1_init_31
  exact Zr.pR (Zr.pR (Zr.pR (Zr.pI (h) hk) hk) hk) hk
theorem hf_X1_init_31 {M : Mem} (h : H40 M) : H40 (nX1_init_31 M) := by
  unfold nX1_init_31
  exact H40.pR (H40.pR (H40.pR (H40.pI (h)) (by decide)) (by decide)) (by decide)
theorem rf_X0_init_35 {M : Mem} (hr : Rf ks_X0_init_35 M) (hz : Zr new_X0_init_35 M) : Rf kz_X0_init_35 (nX0_init_35 M) := by
  unfold nX0_init_35
  exact Rf.pR (Rf.pR (Rf.adds hr (fun k hk => (hz k hk).2)) (by decide)) (by decide)
theorem zr_X0_init_35 {M : Mem} {l : List Nat} (h : Zr l M) (hk : 35 ∉ l) : Zr l (nX0_init_35 M) := by
  unfold nX0_init_35
  exact Zr.pR (Zr.pR (h) hk) hk
theorem hf_X0_init_35 {M : Mem} (h : H40 M) : H40 (nX0_init_35 M) := by
  unfold nX0_init_35
  exact H40.pR (H40.pR (h) (by decide)) (by decide)
theorem rf_X4_init_48 {M : Mem} (hr : Rf ks_X4_init_48 M) (hz : Zr new_X4_init_48 M) : Rf kz_X4_init_48 (nX4_init_48 M) := by
  unfold nX4_init_48
  exact Rf.pI (Rf.pR (Rf.pI (Rf.pR (Rf.adds hr (fun k hk => (hz k hk).2)) (by decide))) (by decide))
theorem zr_X4_init_48 {M : Mem} {l : List Nat} (h : Zr l M) (hk : 48 ∉ l) : Zr l (nX4_init_48 M) := by
  unfold nX4_init_48
  exact Zr.pI (Zr.pR (Zr.pI (Zr.pR (h) hk) hk) hk) hk
theorem hf_X4_init_48 {M : Mem} (h : H40 M) : H40 (nX4_init_48 M) := by
  unfold nX4_init_48
  exact H40.pI (H40.pR (H40.pI (H40.pR (h) (by decide))) (by decide))
theorem rf_X3_init_1 {M : Mem} {x1 : Int32} (hr : Rf ks_X3_init_1 M) (hz : Zr new_X3_init_1 M) : Rf kz_X3_init_1 (nX3_init_1 x1 M) := by
  unfold nX3_init_1
  exact Rf.pI (Rf.pI (Rf.pI (Rf.pR (Rf.pR (Rf.pR (Rf.pR (Rf.pR (Rf.pR (Rf.pR (Rf.adds hr (fun k hk => (hz k hk).2)) (by decide)) (by decide)) (by decide)) (by decide)) (by decide)) (by decide)) (by decide))))
theorem zr_X3_init_1 {M : Mem} {x1 : Int32} {l : List Nat} (h : Zr l M) (hk : 1 ∉ l) : Zr l (nX3_init_1 x1 M) := by
  unfold nX3_init_1
  exact Zr.pI (Zr.pI (Zr.pI (Zr.pR (Zr.pR (Zr.pR (Zr.pR (Zr.pR (Zr.pR (Zr.pR (h) hk) hk) hk) hk) hk) hk) hk) hk) hk) hk
theorem hf_X3_init_1 {M : Mem} {x1 : Int32} (h : H40 M) : H40 (nX3_init_1 x1 M) := by
  unfold nX3_init_1
  exact H40.pI (H40.pI (H40.pI (H40.pR (H40.pR (H40.pR (H40.pR (H40.pR (H40.pR (H40.pR (h) (by decide)) (by decide)) (by decide)) (by decide)) (by decide)) (by decide)) (by decide))))
theorem rf_X3_init_9 {M : Mem} {x1 : Int32} (hr : Rf ks_X3_init_9 M) (hz : Zr new_X3_init_9 M) : Rf kz_X3_init_9 (nX3_init_9 x1 M) := by
  unfold nX3_init_9
  exact Rf.pI (Rf.pI (Rf.pI (Rf.pR (Rf.pR (Rf.pR (Rf.pR (Rf.pR (Rf.pR (Rf.pR (Rf.adds hr (fun k hk => (hz k hk).2)) (by decide)) (by decide)) (by decide)) (by decide)) (by decide)) (by decide)) (by decide))))
theorem zr_X3_init_9 {M : Mem} {x1 : Int32} {l : List Nat} (h : Zr l M) (hk : 9 ∉ l) : Zr l (nX3_init_9 x1 M) := by
  unfold nX3_init_9
  exact Zr.pI (Zr.pI (Zr.pI (Zr.pR (Zr.pR (Zr.pR (Zr.pR (Zr.pR (Zr.pR (Zr.pR (h) hk) hk) hk) hk) hk) hk) hk) hk) hk) hk
theorem hf_X3_init_9 {M : Mem} {x1 : Int32} (h : H40 M) : H40 (nX3_init_9 x1 M) := by
  unfold nX3_init_9
  exact H40.pI (H40.pI (H40.pI (H40.pR (H40.pR (H40.pR (H40.pR (H40.pR (H40.pR (H40.pR (h) (by decide)) (by decide)) (by decide)) (by decide)) (by decide)) (by decide)) (by decide))))
theorem rf_X5_init_52 {M : Mem} (hr : Rf ks_X5_init_52 M) (hz : Zr new_X5_init_52 M) : Rf kz_X5_init_52 (nX5_init_52 M) := by
  unfold nX5_init_52
  exact Rf.pR (Rf.pI (Rf.adds hr (fun k hk => (hz k hk).2))) (by decide)
theorem zr_X5_init_52 {M : Mem} {l : List Nat} (h : Zr l M) (hk : 52 ∉ l) : Zr l (nX5_init_52 M) := by
  unfold nX5_init_52
  exact Zr.pR (Zr.pI (h) hk) hk
theorem hf_X5_init_52 {M : Mem} (h : H40 M) : H40 (nX5_init_52 M) := by
  unfold nX5_init_52
  exact H40.pR (H40.pI (h)) (by decide)
theorem rf_X5_init_54 {M : Mem} (hr : Rf ks_X5_init_54 M) (hz : Zr new_X5_init_54 M) : Rf kz_X5_init_54 (nX5_init_54 M) := by
  unfold nX5_init_54
  exact Rf.pR (Rf.pI (Rf.adds hr (fun k hk => (hz k hk).2))) (by decide)
theorem zr_X5_init_54 {M : Mem} {l : List Nat} (h : Zr l M) (hk : 54 ∉ l) : Zr l (nX5_init_54 M) := by
  unfold nX5_init_54
  exact Zr.pR (Zr.pI (h) hk) hk
theorem hf_X5_init_54 {M : Mem} (h : H40 M) : H40 (nX5_init_54 M) := by
  unfold nX5_init_54
  exact H40.pR (H40.pI (h)) (by decide)
theorem rf_X5_init_56 {M : Mem} (hr : Rf ks_X5_init_56 M) (hz : Zr new_X5_init_56 M) : Rf kz_X5_init_56 (nX5_init_56 M) := by
  unfold nX5_init_56
  exact Rf.pR (Rf.pI (Rf.adds hr (fun k hk => (hz k hk).2))) (by decide)
theorem zr_X5_init_56 {M : Mem} {l : List Nat} (h : Zr l M) (hk : 56 ∉ l) : Zr l (nX5_init_56 M) := by
  unfold nX5_init_56
  exact Zr.pR (Zr.pI (h) hk) hk
theorem hf_X5_init_56 {M : Mem} (h : H40 M) : H40 (nX5_init_56 M) := by
  unfold nX5_init_56
  exact H40.pR (H40.pI (h)) (by decide)
theorem rf_X5_init_58 {M : Mem} (hr : Rf ks_X5_init_58 M) (hz : Zr new_X5_init_58 M) : Rf kz_X5_init_58 (nX5_init_58 M) := by
  unfold nX5_init_58
  exact Rf.pR (Rf.pI (Rf.adds hr (fun k hk => (hz k hk).2))) (by decide)
theorem zr_X5_init_58 {M : Mem} {l : List Nat} (h : Zr l M) (hk : 58 ∉ l) : Zr l (nX5_init_58 M) := by
  unfold nX5_init_58
  exact Zr.pR (Zr.pI (h) hk) hk
theorem hf_X5_init_58 {M : Mem} (h : H40 M) : H40 (nX5_init_58 M) := by
  unfold nX5_init_58
  exact H40.pR (H40.pI (h)) (by decide)
theorem Zr.cp {M : Mem} {l : List Nat} (h : Zr l M) (hk : 41 ∉ l) : ∀ n, Zr l (cpy M n)
  | 0 => h
  | n + 1 => Zr.pI (Zr.cp h hk n) hk
theorem Rf.cp {M : Mem} {ks : List Nat} (h : Rf ks M) (n : Nat) : Rf ks (cpy M n) := by
  intro j hj i c hc
  rw [cpy_2] at hc
  exact h j hj i c hc
theorem zr_X7_init_38 {M : Mem} {l : List Nat} (h : Zr l M) (h1 : 38 ∉ l) (h2 : 41 ∉ l) (h3 : 47 ∉ l) (h4 : 48 ∉ l) : Zr l (nX7_init M) := by
  unfold nX7_init mX7_0
  exact Zr.cp (Zr.pI (Zr.pR (zr_X4_init_48 (Zr.pI (Zr.pR (Zr.pR (Zr.pR h h1) h1) h1) h1) h4) h1) h3) h2 51
theorem rf_X7_init_38 {M : Mem} (hr : Rf ks_X7_init_38 M) (hz : Zr zz_X7_init_38 M) (h40 : H40 M) : Rf kz_X7_init_38 (nX7_init M) := by
  have a := Rf.adds (new := [39]) hr (fun k hk => (hz k ((by decide : ∀ k, k ∈ [39] → k ∈ zz_X7_init_38) k hk)).2)
  have b := Rf.m46 a h40 hz rfl
  have c := Rf.adds (new := [47, 48]) b (fun k hk => (hz k ((by decide : ∀ k, k ∈ [47, 48] → k ∈ zz_X7_init_38) k hk)).2)
  have z : Zr [49, 50] (pKI (pKR (pKR (pKR M 38 0 (some 39)) 38 2 (some 40)) 38 3 (some 47)) 38 4 (1 : Int32)) := Zr.pI (Zr.pR (Zr.pR (Zr.pR (hz.sub (by decide)) (by decide)) (by decide)) (by decide)) (by decide)
  have d : Rf ks_X4_init_48 (pKI (pKR (pKR (pKR M 38 0 (some 39)) 38 2 (some 40)) 38 3 (some 47)) 38 4 (1 : Int32)) := Rf.pI (Rf.pR (Rf.pR (Rf.pR c (by decide)) (by decide)) (by decide))
  have e := rf_X4_init_48 d z
  unfold nX7_init mX7_0
  exact Rf.cp (Rf.pI (Rf.pR e (by decide))) 51
