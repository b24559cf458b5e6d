/-! constructors: Texts -/
theorem Zr.sub {l l' : List Nat} {M : Mem} (h : Zr l M) (hs : ∀ k, k ∈ l' → k ∈ l) : Zr l' M := fun j hj => h j (hs j hj)
def H40 (M : Mem) : Prop := ∀ i, M.2 40 i = if i < 6 then some (41 + i) else none
theorem H40.pI {M : Mem} {k i0 : Nat} {x : Int32} (h : H40 M) : H40 (pKI M k i0 x) := h
theorem H40.pR {M : Mem} {k i0 : Nat} {x : Option Nat} (h : H40 M) (hk : 40 ≠ k) : H40 (pKR M k i0 x) := fun i => by
  show up2 M.2 k i0 x 40 i = _
  rw [up2_ne hk]
  exact h i
theorem Zr.m46 {l : List Nat} {M : Mem} (h : Zr l M) (hl : [41, 42, 43, 44, 45, 46].all (fun k => decide (k ∈ l)) = true) : ∀ k, 41 ≤ k → k ≤ 46 → M.1 k = (fun _ => 0) ∧ ∀ i, M.2 k i = none := by
  intro k h1 h2
  have hk : k ∈ [41, 42, 43, 44, 45, 46] := by
    obtain y | y | y | y | y | y : k = 41 ∨ k = 42 ∨ k = 43 ∨ k = 44 ∨ k = 45 ∨ k = 46 := by omega
    all_goals subst y; decide
  exact h k (of_decide_eq_true (List.all_eq_true.mp hl k hk))
theorem Rf.m46 {ks l : List Nat} {M : Mem} (h : Rf ks M) (h4 : H40 M) (hz : Zr l M) (hl : [41, 42, 43, 44, 45, 46].all (fun k => decide (k ∈ l)) = true) : Rf (ks ++ l46) M := by
  intro j hj i c hc
  rcases List.mem_append.mp hj with z | z
  · exact List.mem_append_left _ (h j z i c hc)
  · apply List.mem_append_right
    have z0 : 40 ≤ j ∧ j ≤ 46 := by
      unfold l46 at z
      simp only [List.mem_cons, List.not_mem_nil, or_false] at z
      omega
    by_cases e : j = 40
    · subst e
      rw [h4 i] at hc
      split at hc
      · rename_i hi
        have := Option.some.inj hc
        subst this
        obtain y | y | y | y | y | y : i = 0 ∨ i = 1 ∨ i = 2 ∨ i = 3 ∨ i = 4 ∨ i = 5 := by omega
        all_goals subst y; decide
      · cases hc
    · rw [(hz.m46 hl j (by omega) (by omega)).2 i] at hc
      cases hc
theorem Rf.adds {ks new : List Nat} {M : Mem} (h : Rf ks M) (hz : ∀ k, k ∈ new → ∀ i, M.2 k i = none) : Rf (ks ++ new) M := by
  intro j hj i c hc
  rcases List.mem_append.mp hj with z | z
  · exact List.mem_append_left _ (h j z i c hc)
  · rw [hz j z i] at hc
    cases hc
section K7
variable {ad ad0 : Nat → Nat} {ca : Nat → ClassId} {D : va_G} {cc : ByteArray} {own : String} {nL d : Nat} {pc : Nat} {lv : List (Nat × AV)} {st : List AV} {M N : Mem} {ks new ks' : List Nat} {mc ms cl sl : Nat} {Γ : Gm}
theorem K_mmin {wf : Mem → va_W} {idx : Nat} {x y r : Int32} (hr : (if y < x then y else x) = r) (hlink : Cond.methodLink own idx Lib.Math.min.name ∈ lw_g) (hdc : 1 ≤ d) (hst : (st.map catA).sum ≤ 8) (hd : decode cc pc = .ok (.invokestatic idx, 3)) (k : Jg ad ca D wf cc own nL d Γ (pc + 3) lv (vI r :: st) M) : Jg ad ca D wf cc own nL d Γ pc lv (vI y :: vI x :: st) M := by
  subst hr
  intro p l e R s m args below meth c H locs cells slots Z ls hg hc hP hD hS hl
  have hts := hc.2.2.2.2.1
  have hfr := hc.2.2.2.2.2.2.2.2.1
  exact va_mmin hc.1 hc.2.1 (hc.2.2.1.trans hl.1.symm) hc.2.2.2.1 (hts _ hlink) (hts _ mmin_s.1) (hts _ mmin_s.2.1) (hts _ mmin_s.2.2) (by omega) (by rw [cat_sum]; omega) hc.2.2.2.2.2.2.2.2.2.1 hc.2.2.2.2.2.2.2.2.2.2 hd (k p l e R s m args below meth c H locs cells slots Z ls hg hc hP hD hS hl)
theorem K_getRv {p0 k ci i idx NF : Nat} {C : String} {T : u_T} {ty : Nat → FieldType} {r : Option Nat} (hv : M.2 k i = r) (hp : ks[p0]? = some k) (hs : sh k = some (.inl ci)) (hF : ClF ci C T NF ty) (hi : i < NF) (hR : isR ci i = true) (hlink : Cond.fieldLink own idx (T i).1 (T i).2.1 (T i).2.2.1 ∈ lw_g) (hd : decode cc pc = .ok (.getfield idx, 3)) (kk : Jg ad ca D (wsL ad ca ks) cc own nL d Γ (pc + 3) lv (vR r :: st) M) : Jg ad ca D (wsL ad ca ks) cc own nL d Γ pc lv (vR (some k) :: st) M := by
  subst hv
  exact K_getR hp hs hF hi hR hlink hd kk
theorem K_ald0v {p0 k n j : Nat} {i x : Int32} (hj : i.toNatClampNeg = j) (hv : M.1 k j = x) (hp : ks[p0]? = some k) (hs : sh k = some (.inr (0, n))) (hin : vp_in i n) (hd : decode cc pc = .ok (.iaload, 1)) (kk : Jg ad ca D (wsL ad ca ks) cc own nL d Γ (pc + 1) lv (vI x :: st) M) : Jg ad ca D (wsL ad ca ks) cc own nL d Γ pc lv (vI i :: vR (some k) :: st) M := by
  subst hj
  subst hv
  exact K_ald0 hp hs hin hd kk
theorem K_aldR3v {p0 k n j : Nat} {i : Int32} {r : Option Nat} (hj : i.toNatClampNeg = j) (hv : M.2 k j = r) (hp : ks[p0]? = some k) (hs : sh k = some (.inr (3, n))) (hin : vp_in i n) (hd : decode cc pc = .ok (.aaload, 1)) (kk : Jg ad ca D (wsL ad ca ks) cc own nL d Γ (pc + 1) lv (vR r :: st) M) : Jg ad ca D (wsL ad ca ks) cc own nL d Γ pc lv (vI i :: vR (some k) :: st) M := by
  subst hj
  subst hv
  exact K_aldR3 hp hs hin hd kk
theorem K_ast0v {p0 k n j : Nat} {i x y : Int32} (hj : i.toNatClampNeg = j) (hy : narA 0 x = y) (hp : ks[p0]? = some k) (hnd : va_nd ks = true) (hs : sh k = some (.inr (0, n))) (hin : vp_in i n) (hd : decode cc pc = .ok (.iastore, 1)) (kk : Jg ad ca D (wsL ad ca ks) cc own nL d Γ (pc + 1) lv st (pKI M k j y)) : Jg ad ca D (wsL ad ca ks) cc own nL d Γ pc lv (vI x :: vI i :: vR (some k) :: st) M := by
  subst hj
  subst hy
  exact K_ast0 hp hnd hs hin hd kk
theorem K_ast2v {p0 k n j : Nat} {i x y : Int32} (hj : i.toNatClampNeg = j) (hy : narA 2 x = y) (hp : ks[p0]? = some k) (hnd : va_nd ks = true) (hs : sh k = some (.inr (2, n))) (hin : vp_in i n) (hd : decode cc pc = .ok (.bastore, 1)) (kk : Jg ad ca D (wsL ad ca ks) cc own nL d Γ (pc + 1) lv st (pKI M k j y)) : Jg ad ca D (wsL ad ca ks) cc own nL d Γ pc lv (vI x :: vI i :: vR (some k) :: st) M := by
  subst hj
  subst hy
  exact K_ast2 hp hnd hs hin hd kk
end K7
/-- the first text, copied -/
def cpy (M : Mem) : Nat → Mem
  | 0 => M
  | k + 1 => pKI (cpy M k) 41 k (b0 k)
theorem cpy_2 (M : Mem) : ∀ k, (cpy M k).2 = M.2
  | 0 => rfl
  | k + 1 => cpy_2 M k
theorem cpy_1 (M : Mem) {j : Nat} (hj : j ≠ 41) : ∀ k, (cpy M k).1 j = M.1 j
  | 0 => rfl
  | k + 1 => by
    show up2 (cpy M k).1 41 k (b0 k) j = _
    rw [up2_ne hj]
    exact cpy_1 M hj k
theorem cpy_b : ∀ k, k < 51 → narA 2 ((txc 1 (nI k)).toInt8.toInt32) = b0 k := by decide +kernel
theorem df_X0 : ∀ j, j < 7 → defaultValue (tyX0 j) = if isR 0 j = true then .null else .int 0
  | 0, _ => rfl
  | 1, _ => rfl
  | 2, _ => rfl
  | 3, _ => rfl
  | 4, _ => rfl
  | 5, _ => rfl
  | 6, _ => rfl
  | n + 7, h => absurd h (by omega)
theorem df_X1 : ∀ j, j < 6 → defaultValue (tyX1 j) = if isR 1 j = true then .null else .int 0
  | 0, _ => rfl
  | 1, _ => rfl
  | 2, _ => rfl
  | 3, _ => rfl
  | 4, _ => rfl
  | 5, _ => rfl
  | n + 6, h => absurd h (by omega)
theorem df_X2 : ∀ j, j < 6 → defaultValue (tyX2 j) = if isR 2 j = true then .null else .int 0
  | 0, _ => rfl
  | 1, _ => rfl
  | 2, _ => rfl
  | 3, _ => rfl
  | 4, _ => rfl
  | 5, _ => rfl
  | n + 6, h => absurd h (by omega)
theorem df_X3 : ∀ j, j < 13 → defaultValue (tyX3 j) = if isR 3 j = true then .null else .int 0
  | 0, _ => rfl
  | 1, _ => rfl
  | 2, _ => rfl
  | 3, _ => rfl
  | 4, _ => rfl
  | 5, _ => rfl
  | 6, _ => rfl
  | 7, _ => rfl
  | 8, _ => rfl
  | 9, _ => rfl
  | 10, _ => rfl
  | 11, _ => rfl
  | 12, _ => rfl
  | n + 13, h => absurd h (by omega)
theorem df_X4 : ∀ j, j < 11 → defaultValue (tyX4 j) = if isR 4 j = true then .null else .int 0
  | 0, _ => rfl
  | 1, _ => rfl
  | 2, _ => rfl
  | 3, _ => rfl
  | 4, _ => rfl
  | 5, _ => rfl
  | 6, _ => rfl
  | 7, _ => rfl
  | 8, _ => rfl
  | 9, _ => rfl
  | 10, _ => rfl
  | n + 11, h => absurd h (by omega)
theorem df_X5 : ∀ j, j < 3 → defaultValue (tyX5 j) = if isR 5 j = true then .null else .int 0
  | 0, _ => rfl
  | 1, _ => rfl
  | 2, _ => rfl
  | n + 3, h => absurd h (by omega)
theorem df_X6 : ∀ j, j < 19 → defaultValue (tyX6 j) = if isR 6 j = true then .null else .int 0
  | 0, _ => rfl
  | 1, _ => rfl
  | 2, _ => rfl
  | 3, _ => rfl
  | 4, _ => rfl
  | 5, _ => rfl
  | 6, _ => rfl
  | 7, _ => rfl
  | 8, _ => rfl
  | 9, _ => rfl
  | 10, _ => rfl
  | 11, _ => rfl
  | 12, _ => rfl
  | 13, _ => rfl
  | 14, _ => rfl
  | 15, _ => rfl
  | 16, _ => rfl
  | 17, _ => rfl
  | 18, _ => rfl
  | n + 19, h => absurd h (by omega)
theorem df_X7 : ∀ j, j < 7 → defaultValue (tyX7 j) = if isR 7 j = true then .null else .int 0
  | 0, _ => rfl
  | 1, _ => rfl
  | 2, _ => rfl
  | 3, _ => rfl
  | 4, _ => rfl
  | 5, _ => rfl
  | 6, _ => rfl
  | n + 7, h => absurd h (by omega)
theorem df_X8 : ∀ j, j < 10 → defaultValue (tyX8 j) = if isR 8 j = true then .null else .int 0
  | 0, _ => rfl
  | 1, _ => rfl
  | 2, _ => rfl
  | 3, _ => rfl
  | 4, _ => rfl
  | 5, _ => rfl
  | 6, _ => rfl
  | 7, _ => rfl
  | 8, _ => rfl
  | 9, _ => rfl
  | n + 10, h => absurd h (by omega)
theorem df_X9 : ∀ j, j < 46 → defaultValue (tyX9 j) = if isR 9 j = true then .null else .int 0
  | 0, _ => rfl
  | 1, _ => rfl
  | 2, _ => rfl
  | 3, _ => rfl
  | 4, _ => rfl
  | 5, _ => rfl
  | 6, _ => rfl
  | 7, _ => rfl
  | 8, _ => rfl
  | 9, _ => rfl
  | 10, _ => rfl
  | 11, _ => rfl
  | 12, _ => rfl
  | 13, _ => rfl
  | 14, _ => rfl
  | 15, _ => rfl
  | 16, _ => rfl
  | 17, _ => rfl
  | 18, _ => rfl
  | 19, _ => rfl
  | 20, _ => rfl
  | 21, _ => rfl
  | 22, _ => rfl
  | 23, _ => rfl
  | 24, _ => rfl
  | 25, _ => rfl
  | 26, _ => rfl
  | 27, _ => rfl
  | 28, _ => rfl
  | 29, _ => rfl
  | 30, _ => rfl
  | 31, _ => rfl
  | 32, _ => rfl
  | 33, _ => rfl
  | 34, _ => rfl
  | 35, _ => rfl
  | 36, _ => rfl
  | 37, _ => rfl
  | 38, _ => rfl
  | 39, _ => rfl
  | 40, _ => rfl
  | 41, _ => rfl
  | 42, _ => rfl
  | 43, _ => rfl
  | 44, _ => rfl
  | 45, _ => rfl
  | n + 46, h => absurd h (by omega)
abbrev ks_X7_init_38 : List Nat := [0, 17, 18, 19, 20, 21, 22, 23, 24, 25, 26, 27, 28, 29, 30, 31, 32, 33, 34, 35, 36, 37, 38]
abbrev new_X7_init_38 : List Nat := [39, 40, 41, 42, 43, 44, 45, 46, 47, 48, 49, 50]
abbrev kz_X7_init_38 : List Nat := [0, 17, 18, 19, 20, 21, 22, 23, 24, 25, 26, 27, 28, 29, 30, 31, 32, 33, 34, 35, 36, 37, 38, 39, 40, 41, 42, 43, 44, 45, 46, 47, 48, 49, 50]
abbrev zz_X7_init_38 : List Nat := [39, 41, 42, 43, 44, 45, 46, 47, 48, 49, 50]
theorem ml_RX7_3 : Cond.methodLink RX7 3 objectInit ∈ lw_g := mg (i := 312) (by decide +kernel) rfl
theorem cl_RX7_15 : Cond.classLink RX7 15 ("[" ++ (FieldType.array .byte).toString) ∈ lw_g := mg (i := 313) (by decide +kernel) rfl
theorem cl_RX7_28 : Cond.classLink RX7 28 RX4 ∈ lw_g := mg (i := 315) (by decide +kernel) rfl
theorem in_X4 : Cond.instantiable RX4 11 ∈ lw_g := mg (i := 316) (by decide +kernel) rfl
theorem iz_X4 : Cond.initialized RX4 ∈ lw_g := mg (i := 132) (by decide +kernel) rfl
theorem cf_X4_init : CalF yX4_init cX4_init 1 none 0 := ⟨mg (i := 319) (by decide +kernel) rfl, mg (i := 132) (by decide +kernel) rfl, ⟨by decide, by decide⟩, by decide +kernel, by decide⟩
theorem iv_X4_init : Cond.instanceMethod yX4_init ∈ lw_g := mg (i := 318) (by decide +kernel) rfl
theorem Zr.x48 {M : Mem} (_h : Zr [] M) : Zr [] (nX4_init_48 M) := fun k hk => by cases hk
theorem ml_RX7_37 : Cond.methodLink RX7 37 yJ0_length_8abf5 ∈ lw_g := mg (i := 361) (by decide +kernel) rfl
theorem ml_RX7_49 : Cond.methodLink RX7 49 yJ0_charAt_5068e ∈ lw_g := mg (i := 374) (by decide +kernel) rfl
theorem ml_RX7_43 : Cond.methodLink RX7 43 Lib.Math.min.name ∈ lw_g := mg (i := 371) (by decide +kernel) rfl
def mX7_0 (M : Mem) : Mem := (pKR (nX4_init_48 (pKI (pKR (pKR (pKR M 38 0 (some 39)) 38 2 (some 40)) 38 3 (some 47)) 38 4 (1 : Int32))) 38 6 (some 48))
def nX7_init (M : Mem) : Mem := cpy (pKI (mX7_0 M) 47 0 (nI 51)) 51
theorem inc_nI (k : Nat) : nI k + Int32.ofInt 1 = nI (k + 1) := by
  show nI k + nI 1 = nI (k + 1)
  rw [nI_add]
set_option maxRecDepth 100000 in
theorem l7 {ad : Nat → Nat} {ca : Nat → ClassId} {D : va_G} {d : Nat} {M : Mem} {Γ : Gm} (hS : M.2 38 3 = some 47) (hL : M.1 47 0 = nI 51) (hR : M.2 38 2 = some 40) (h0 : M.2 40 0 = some 41) (fin : Jg ad ca D (wsL ad ca kz_X7_init_38) cX7_init RX7 2 (d + 5) Γ 97 [(0, vR (some 38)), (1, vI (nI 51))] [] (cpy M 51)) : ∀ n k, k + n = 51 → Jg ad ca D (wsL ad ca kz_X7_init_38) cX7_init RX7 2 (d + 5) Γ 66 [(0, vR (some 38)), (1, vI (nI k))] [] (cpy M k) := by
  intro n
  induction n with
  | zero =>
    intro k hk
    have e : k = 51 := by omega
    subst e
    refine J_iload_n (pc := 66) (q := 1) rfl rfl dX7_init_66 ?_
    refine J_aload_n (pc := 67) (q := 0) rfl rfl dX7_init_67 ?_
    refine K_getRv (pc := 68) (p0 := 22) (i := 3) (r := some 47) ((congrFun (congrFun (cpy_2 M 51) 38) 3).trans hS) rfl rfl clF7 (by decide) rfl fl_RX7_20 dX7_init_68 ?_
    refine J_iconst (pc := 71) (v := nI 0) (by decide) dX7_init_71 ?_
    refine K_ald0v (pc := 72) (p0 := 31) (j := 0) (n := 6) (x := nI 51) rfl ((congrFun (cpy_1 M (by decide) 51) 0).trans hL) rfl rfl (vp_in_nI (by decide) (by decide)) dX7_init_72 ?_
    exact J_icge (pc := 73) (tgt := 97) (by decide) dX7_init_73 (fun _ => fin) (fun hc => absurd (Int32.le_refl _) hc)
  | succ n ih =>
    intro k hk
    have hlt : k < 51 := by omega
    refine J_iload_n (pc := 66) (q := 1) rfl rfl dX7_init_66 ?_
    refine J_aload_n (pc := 67) (q := 0) rfl rfl dX7_init_67 ?_
    refine K_getRv (pc := 68) (p0 := 22) (i := 3) (r := some 47) ((congrFun (congrFun (cpy_2 M k) 38) 3).trans hS) rfl rfl clF7 (by decide) rfl fl_RX7_20 dX7_init_68 ?_
    refine J_iconst (pc := 71) (v := nI 0) (by decide) dX7_init_71 ?_
    refine K_ald0v (pc := 72) (p0 := 31) (j := 0) (n := 6) (x := nI 51) rfl ((congrFun (cpy_1 M (by decide) k) 0).trans hL) rfl rfl (vp_in_nI (by decide) (by decide)) dX7_init_72 ?_
    refine J_icge (pc := 73) (tgt := 97) (by decide) dX7_init_73 (fun hc => absurd hc (by rw [w_le (by decide) (by omega)]; omega)) (fun _ => ?_)
    refine J_aload_n (pc := 76) (q := 0) rfl rfl dX7_init_76 ?_
    refine K_getRv (pc := 77) (p0 := 22) (i := 2) (r := some 40) ((congrFun (congrFun (cpy_2 M k) 38) 2).trans hR) rfl rfl clF7 (by decide) rfl fl_RX7_17 dX7_init_77 ?_
    refine J_iconst (pc := 80) (v := nI 0) (by decide) dX7_init_80 ?_
    refine K_aldR3v (pc := 81) (p0 := 24) (j := 0) (n := 6) (r := some 41) rfl ((congrFun (congrFun (cpy_2 M k) 40) 0).trans h0) rfl rfl (vp_in_nI (by decide) (by decide)) dX7_init_81 ?_
    refine J_iload_n (pc := 82) (q := 1) rfl rfl dX7_init_82 ?_
    refine J_ldcF (pc := 83) rfl dX7_init_83 ?_
    refine J_iload_n (pc := 85) (q := 1) rfl rfl dX7_init_85 ?_
    refine J_callT (pc := 86) (i := 1) (as := [vI (nI k)]) (by decide) (tJ0_charAt (d := d) (by decide) (vp_in_nI hlt (by decide))) cf_J0_charAt_5068e cv_J0_charAt_5068e ml_RX7_49 (by omega) (Nat.le_of_ble_eq_true rfl) dX7_init_86 ?_
    refine J_i2b (pc := 89) dX7_init_89 ?_
    refine K_ast2v (pc := 90) (p0 := 25) (k := 41) (j := k) (n := 120) (y := b0 k) (nI_clamp (by omega)) (cpy_b k hlt) rfl rfl rfl (vp_in_nI (by omega) (by decide)) dX7_init_90 ?_
    refine J_iinc (pc := 91) (q := 1) (v := nI (k + 1)) rfl (inc_nI k) (by decide) (lv' := [(0, vR (some 38)), (1, vI (nI (k + 1)))]) rfl dX7_init_91 ?_
    exact J_goto (pc := 94) (tgt := 66) (by decide) dX7_init_94 (ih (k + 1) (by omega))
set_option maxRecDepth 100000 in
theorem t7 {ad : Nat → Nat} {ca : Nat → ClassId} {D : va_G} {d : Nat} {M : Mem} {Γ : Gm} (hS : M.2 38 3 = some 47) (hR : M.2 38 2 = some 40) (h0 : M.2 40 0 = some 41) (fin : True → Jg ad ca D (wsL ad ca kz_X7_init_38) cX7_init RX7 2 (d + 5) Γ 97 [(0, vR (some 38)), (1, vI (nI 51))] [] (cpy (pKI M 47 0 (nI 51)) 51)) : Jg ad ca D (wsL ad ca kz_X7_init_38) cX7_init RX7 2 (d + 5) Γ 48 [(0, vR (some 38))] [] M := by
  refine J_aload_n (pc := 48) (q := 0) rfl rfl dX7_init_48 ?_
  refine K_getRv (pc := 49) (p0 := 22) (i := 3) (r := some 47) hS rfl rfl clF7 (by decide) rfl fl_RX7_20 dX7_init_49 ?_
  refine J_iconst (pc := 52) (v := nI 0) (by decide) dX7_init_52 ?_
  refine J_bipush (pc := 53) (v := nI 120) (by decide) dX7_init_53 ?_
  refine J_ldcF (pc := 55) rfl dX7_init_55 ?_
  refine J_callT (pc := 57) (i := 1) (as := []) (by decide) (tJ0_length (d := d) (by decide)) cf_J0_length_8abf5 cv_J0_length_8abf5 ml_RX7_37 (by omega) (Nat.le_of_ble_eq_true rfl) dX7_init_57 ?_
  refine K_mmin (pc := 60) (r := nI 51) (by decide) ml_RX7_43 (by omega) (Nat.le_of_ble_eq_true rfl) dX7_init_60 ?_
  refine K_ast0v (pc := 63) (p0 := 31) (k := 47) (j := 0) (n := 6) (y := nI 51) rfl rfl rfl rfl rfl (vp_in_nI (by decide) (by decide)) dX7_init_63 ?_
  refine J_iconst (pc := 64) (v := nI 0) (by decide) dX7_init_64 ?_
  refine J_istore_n (pc := 65) rfl (by decide) (lv' := [(0, vR (some 38)), (1, vI (nI 0))]) rfl dX7_init_65 ?_
  exact l7 (M := pKI M 47 0 (nI 51)) hS rfl hR h0 (fin trivial) 51 0 rfl
set_option maxRecDepth 100000 in
set_option maxHeartbeats 1000000 in
theorem kX7_init_38 {ad : Nat → Nat} {ca : Nat → ClassId} {D : va_G} {d : Nat} {M : Mem} (hr : Rf ks_X7_init_38 M) (hz : Zr zz_X7_init_38 M) (h40 : H40 M) : Ck ad ca D yX7_init cX7_init 2 (d + 5) 12 869 ks_X7_init_38 new_X7_init_38 kz_X7_init_38 [vR (some 38)] M (nX7_init M) := by
  have h400 : M.2 40 0 = some 41 := h40 0
  refine Ck_of (by decide) rfl (Nat.le_of_ble_eq_true rfl) ?_
  show Jg ad ca D (wsL ad ca ks_X7_init_38) cX7_init RX7 2 (d + 5) (Gk ad ca D new_X7_init_38 kz_X7_init_38 (nX7_init M) 12 869 12 869) 0 [(0, vR (some 38))] [] M
  have hE0 : Ext [] ad ad := Ext.rfl
  refine J_aload_n (pc := 0) (q := 0) rfl rfl dX7_init_0 ?_
  refine K_objInit (pc := 1) ml_RX7_3 oi_1 oi_2 (by omega) (Nat.le_of_ble_eq_true rfl) dX7_init_1 ?_
  refine J_aload_n (pc := 4) (q := 0) rfl rfl dX7_init_4 ?_
  refine J_bipush (pc := 5) (v := (120 : Int32)) (by decide) dX7_init_5 ?_
  obtain ⟨hm1, hn1⟩ := hz 39 (by decide)
  refine K_newa2 (pc := 7) (k := 39) (n := 120) (cl := 11) (sl := 749) rfl (by decide) (by decide) (hE0 400 (by decide)).symm hm1 hn1 hr (by decide) (by decide) (by decide) rfl rfl ar_byte dX7_init_7 (fun ad1 he1 => ?_)
  have hE1 := Ext.trans hE0 he1
  have hr := Rf.grow (k := 39) hr hn1
  have hz := Zr.tl hz
  refine K_putRFk (pc := 9) (p0 := 22) (i := 0) rfl rfl rfl clF7 (by decide) rfl fl_RX7_9 rfl rfl (Or.inr ⟨_, rfl⟩) dX7_init_9 ?_
  have hr := Rf.pR (k := 38) (i0 := 0) (c0 := 39) hr (by decide)
  have hz := Zr.pR (k := 38) (i0 := 0) (x := some 39) hz (by decide)
  refine J_aload_n (pc := 12) (q := 0) rfl rfl dX7_init_12 ?_
  have h40 := H40.pR (k := 38) (i0 := 0) (x := some 39) h40 (by decide)
  refine J_bipush (pc := 13) (v := nI 6) (by decide) dX7_init_13 ?_
  refine J_bipush (pc := 15) (v := nI 120) (by decide) dX7_init_15 ?_
  refine K_mna (pc := 17) (Gk_stp (cl := 4) (sl := 23) (c1 := 7) (s1 := 726) (hE1 400 (by decide)).symm) (by decide) h40 (fun k h1 h2 => (hz.m46 rfl k h1 h2).1) hr rfl rfl cl_RX7_15 ar_byte dX7_init_17 (fun ad2 he2 => ?_)
  have hE2 := Ext.trans hE1 he2
  have hr := Rf.m46 hr h40 hz rfl
  have hz : Zr [47, 48, 49, 50] _ := hz.sub (by decide)
  refine K_putRFk (pc := 21) (p0 := 22) (i := 2) rfl rfl rfl clF7 (by decide) rfl fl_RX7_17 rfl rfl (Or.inr ⟨_, rfl⟩) dX7_init_21 ?_
  have hr := Rf.pR (k := 38) (i0 := 2) (c0 := 40) hr (by decide)
  have hz := Zr.pR (k := 38) (i0 := 2) (x := some 40) hz (by decide)
  refine J_aload_n (pc := 24) (q := 0) rfl rfl dX7_init_24 ?_
  refine J_bipush (pc := 25) (v := (6 : Int32)) (by decide) dX7_init_25 ?_
  obtain ⟨hm3, hn3⟩ := hz 47 (by decide)
  refine K_newa0 (pc := 27) (k := 47) (n := 6) (cl := 3) (sl := 17) rfl (by decide) (by decide) (hE2 400 (by decide)).symm hm3 hn3 hr (by decide) (by decide) (by decide) rfl rfl ar_int dX7_init_27 (fun ad3 he3 => ?_)
  have hE3 := Ext.trans hE2 he3
  have hr := Rf.grow (k := 47) hr hn3
  have hz := Zr.tl hz
  refine K_putRFk (pc := 29) (p0 := 22) (i := 3) rfl rfl rfl clF7 (by decide) rfl fl_RX7_20 rfl rfl (Or.inr ⟨_, rfl⟩) dX7_init_29 ?_
  have hr := Rf.pR (k := 38) (i0 := 3) (c0 := 47) hr (by decide)
  have hz := Zr.pR (k := 38) (i0 := 3) (x := some 47) hz (by decide)
  refine J_aload_n (pc := 32) (q := 0) rfl rfl dX7_init_32 ?_
  refine J_iconst (pc := 33) (v := (1 : Int32)) (by decide) dX7_init_33 ?_
  refine K_putIk (pc := 34) (p0 := 22) (i := 4) rfl rfl rfl clF7 (by decide) rfl fl_RX7_24 rfl rfl dX7_init_34 ?_
  have hr := Rf.pI (k := 38) (i0 := 4) (x := (1 : Int32)) hr
  have hz := Zr.pI (k := 38) (i0 := 4) (x := (1 : Int32)) hz (by decide)
  refine J_aload_n (pc := 37) (q := 0) rfl rfl dX7_init_37 ?_
  obtain ⟨hm4, hn4⟩ := hz 48 (by decide)
  refine K_new (pc := 38) (k := 48) (ci := 4) (Gk_stp (cl := 2) (sl := 6) (c1 := 1) (s1 := 11) (hE3 400 (by decide)).symm) rfl (by decide) (by decide) hm4 hn4 hr clF4 df_X4 rfl rfl cl_RX7_28 in_X4 iz_X4 dX7_init_38 (fun ad4 he4 => ?_)
  have hE4 := Ext.trans hE3 he4
  have hr := Rf.grow (k := 48) hr hn4
  have hz := Zr.tl hz
  refine J_dup (pc := 41) rfl dX7_init_41 ?_
  have hza : Zr new_X4_init_48 _ := hz.sub (by decide)
  have hzb : Zr [] _ := hz.sub (by decide)
  refine K_callN (pc := 42) (k := 48) (as := []) (new1 := new_X4_init_48) (N1 := nX4_init_48 _) (fun s h => h.2.2.2.2.2.1) (Gk_stp (cl := 0) (sl := 0) (c1 := 2) (s1 := 6) (hE4 400 (by decide)).symm) (kX4_init_48 (d := d) hr hza) (by intro j hj h9; revert h9; intro h9; have := List.all_eq_true.mp (show new_X4_init_48.all (fun z => decide (z < 200)) = true from rfl) j h9; have := of_decide_eq_true this; omega) cf_X4_init rfl iv_X4_init rfl rfl (by omega) (Nat.le_of_ble_eq_true rfl) dX7_init_42 (fun ad5 he5 => ?_)
  have hE5 := Ext.trans hE4 he5
  have hr : Rf kz_X4_init_48 (nX4_init_48 _) := Rf.pI (Rf.pR (Rf.pI (Rf.pR (Rf.adds (new := [49, 50]) hr (fun k hk => (hza k hk).2)) (by decide))) (by decide))
  have hz := hzb.x48
  refine K_putRFk (pc := 45) (p0 := 22) (i := 6) rfl rfl rfl clF7 (by decide) rfl fl_RX7_31 rfl rfl (Or.inl ⟨_, rfl⟩) dX7_init_45 ?_
  have hr := Rf.pR (k := 38) (i0 := 6) (c0 := 48) hr (by decide)
  have hz := Zr.pR (k := 38) (i0 := 6) (x := some 48) hz (by decide)
  show Jg ad5 ca D (wsL ad5 ca kz_X7_init_38) cX7_init RX7 2 (d + 5) (Gk ad ca D new_X7_init_38 kz_X7_init_38 (nX7_init M) 12 869 0 0) 48 [(0, vR (some 38))] [] (mX7_0 M)
  exact t7 (M := mX7_0 M) rfl rfl h400 (fun h => K_ret (pc := 97) hE5 (hE5 400 (by decide)) dX7_init_97)
