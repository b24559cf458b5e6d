/-! memory at the start -/
def puts {α : Type} : List (Nat × Nat × α) → (Nat → Nat → α) → Nat → Nat → α
  | [], R => R
  | q :: l, R => up2 (puts l R) q.1 q.2.1 q.2.2
theorem puts_hi {α : Type} {n : Nat} : ∀ {l : List (Nat × Nat × α)} {R : Nat → Nat → α} {k : Nat}, l.all (fun q => decide (q.1 < n)) = true → n ≤ k → puts l R k = R k
  | [], _, _, _, _ => rfl
  | q :: l, R, k, h, hk => by
    rw [List.all_cons, Bool.and_eq_true] at h
    have h1 := of_decide_eq_true h.1
    show up2 (puts l R) q.1 q.2.1 q.2.2 k = R k
    rw [up2_ne (by omega)]
    exact puts_hi h.2 hk
theorem puts_out {α : Type} {n : Nat} : ∀ {l : List (Nat × Nat × α)} {R : Nat → Nat → α} {k i : Nat}, l.all (fun q => decide (q.2.1 < n)) = true → n ≤ i → puts l R k i = R k i
  | [], _, _, _, _, _ => rfl
  | q :: l, R, k, i, h, hk => by
    rw [List.all_cons, Bool.and_eq_true] at h
    have h1 := of_decide_eq_true h.1
    show up2 (puts l R) q.1 q.2.1 q.2.2 k i = R k i
    by_cases e : k = q.1
    · subst e
      rw [up2_eq]
      unfold va_up
      rw [if_neg (by omega)]
      exact puts_out h.2 hk
    · rw [up2_ne e]
      exact puts_out h.2 hk
theorem puts_app {α : Type} : ∀ (l l' : List (Nat × Nat × α)) (R : Nat → Nat → α), puts (l ++ l') R = puts l (puts l' R)
  | [], _, _ => rfl
  | q :: l, l', R => by
    show up2 (puts (l ++ l') R) q.1 q.2.1 q.2.2 = up2 (puts l (puts l' R)) q.1 q.2.1 q.2.2
    rw [puts_app l l' R]
theorem puts_rf {ks : List Nat} {I : Nat → Nat → Int32} : ∀ {l : List (Nat × Nat × Option Nat)} {R : Nat → Nat → Option Nat}, l.all (fun q => match q.2.2 with
    | some c => decide (c ∈ ks)
    | none => true) = true → Rf ks (I, R) → Rf ks (I, puts l R)
  | [], _, _, h => h
  | (k, i0, v) :: l, R, h, hr => by
    rw [List.all_cons, Bool.and_eq_true] at h
    have ih := puts_rf h.2 hr
    cases v with
    | none =>
      intro j hj i c hc
      by_cases e : j = k
      · subst e
        have hc : up2 (puts l R) j i0 none j i = some c := hc
        rw [up2_eq] at hc
        unfold va_up at hc
        split at hc
        · cases hc
        · exact ih j hj i c hc
      · have hc : up2 (puts l R) k i0 none j i = some c := hc
        rw [up2_ne e] at hc
        exact ih j hj i c hc
    | some c => exact Rf.put (M := (I, puts l R)) ih (of_decide_eq_true h.1)
def M0 : Mem := (fun _ _ => 0, fun k i => if k = 40 then (if i < 6 then some (41 + i) else none) else none)
theorem h40_0 : H40 M0 := fun i => rfl
theorem zr_0 {l : List Nat} (h : 40 ∉ l) : Zr l M0 := fun k hk => ⟨rfl, fun i => if_neg (fun e : k = 40 => h (by rw [← e]; exact hk))⟩
theorem rf_0 : Rf kz_X8_init_0 M0 := by
  intro j hj i c hc
  have hc : (if j = 40 then (if i < 6 then some (41 + i) else none) else none) = some c := hc
  split at hc
  · split at hc
    · have e := Option.some.inj hc
      subst e
      obtain y | y | y | y | y | y : i = 0 ∨ i = 1 ∨ i = 2 ∨ i = 3 ∨ i = 4 ∨ i = 5 := by omega
      all_goals subst y; decide
    · cases hc
  · cases hc
def lr8 : List (Nat × Nat × Option Nat) := [(51, 3, (some 58)), (58, 2, (some 59)), (51, 2, (some 56)), (56, 2, (some 57)), (51, 1, (some 54)), (54, 2, (some 55)), (51, 0, (some 52)), (52, 2, (some 53)), (0, 1, (some 9)), (9, 7, (some 16)), (9, 6, (some 15)), (9, 5, (some 14)), (9, 4, (some 13)), (9, 3, (some 12)), (9, 2, (some 11)), (9, 1, (some 10)), (0, 0, (some 1)), (1, 7, (some 8)), (1, 6, (some 7)), (1, 5, (some 6)), (1, 4, (some 5)), (1, 3, (some 4)), (1, 2, (some 3)), (1, 1, (some 2)), (0, 7, (some 51)), (0, 6, (some 38)), (38, 6, (some 48)), (48, 4, (some 50)), (48, 0, (some 49)), (38, 3, (some 47)), (38, 2, (some 40)), (38, 0, (some 39)), (0, 5, (some 35)), (35, 6, (some 37)), (35, 5, (some 36)), (0, 4, (some 31)), (31, 4, (some 34)), (31, 3, (some 33)), (31, 2, (some 32)), (0, 3, (some 28)), (28, 4, (some 30)), (28, 3, (some 29)), (0, 2, (some 17)), (17, 17, (some 27)), (17, 16, (some 26)), (17, 15, (some 25)), (17, 12, (some 24)), (17, 11, (some 23)), (17, 10, (some 22)), (17, 9, (some 21)), (17, 7, (some 20)), (17, 6, (some 19)), (17, 5, (some 18))]
def lr9 : List (Nat × Nat × Option Nat) := [(60, 45, (some 84)), (60, 44, (some 83)), (60, 43, (some 82)), (60, 42, (some 81)), (60, 37, (some 80)), (60, 36, (some 79)), (60, 31, (some 78)), (60, 30, (some 77)), (60, 26, (some 76)), (60, 25, (some 75)), (60, 24, (some 74)), (60, 18, (some 73)), (60, 17, (some 72)), (60, 16, (some 71)), (60, 14, (some 70)), (60, 13, (some 69)), (60, 12, (some 68)), (60, 11, (some 67)), (60, 10, (some 66)), (60, 8, (some 65)), (60, 7, (some 64)), (60, 6, (some 63)), (60, 5, (some 62)), (60, 4, (some 61))]
def li8 (x1 : Int32) : List (Nat × Nat × Int32) := [(58, 0, (-1 : Int32)), (56, 0, (-1 : Int32)), (54, 0, (-1 : Int32)), (52, 0, (-1 : Int32)), (9, 0, ((3 : Int32) + fmJ x1 (6 : Int32))), (9, 11, (1 : Int32)), (9, 10, (1 : Int32)), (1, 0, ((3 : Int32) + fmJ x1 (6 : Int32))), (1, 11, (1 : Int32)), (1, 10, (1 : Int32)), (0, 9, (-1 : Int32)), (0, 8, (-1 : Int32)), (41, 50, (b0 50)), (41, 49, (b0 49)), (41, 48, (b0 48)), (41, 47, (b0 47)), (41, 46, (b0 46)), (41, 45, (b0 45)), (41, 44, (b0 44)), (41, 43, (b0 43)), (41, 42, (b0 42)), (41, 41, (b0 41)), (41, 40, (b0 40)), (41, 39, (b0 39)), (41, 38, (b0 38)), (41, 37, (b0 37)), (41, 36, (b0 36)), (41, 35, (b0 35)), (41, 34, (b0 34)), (41, 33, (b0 33)), (41, 32, (b0 32)), (41, 31, (b0 31)), (41, 30, (b0 30)), (41, 29, (b0 29)), (41, 28, (b0 28)), (41, 27, (b0 27)), (41, 26, (b0 26)), (41, 25, (b0 25)), (41, 24, (b0 24)), (41, 23, (b0 23)), (41, 22, (b0 22)), (41, 21, (b0 21)), (41, 20, (b0 20)), (41, 19, (b0 19)), (41, 18, (b0 18)), (41, 17, (b0 17)), (41, 16, (b0 16)), (41, 15, (b0 15)), (41, 14, (b0 14)), (41, 13, (b0 13)), (41, 12, (b0 12)), (41, 11, (b0 11)), (41, 10, (b0 10)), (41, 9, (b0 9)), (41, 8, (b0 8)), (41, 7, (b0 7)), (41, 6, (b0 6)), (41, 5, (b0 5)), (41, 4, (b0 4)), (41, 3, (b0 3)), (41, 2, (b0 2)), (41, 1, (b0 1)), (41, 0, (b0 0)), (47, 0, (nI 51)), (48, 7, (12 : Int32)), (48, 3, (-1 : Int32)), (38, 4, (1 : Int32)), (31, 0, (-1 : Int32)), (28, 2, (-1 : Int32)), (28, 1, (-1 : Int32)), (17, 14, (1 : Int32)), (17, 1, (-1 : Int32))]
def li9 (x1 : Int32) : List (Nat × Nat × Int32) := [(60, 0, ((3 : Int32) + (((x1 - x1 / (6 : Int32) * (6 : Int32)) + (6 : Int32)) - ((x1 - x1 / (6 : Int32) * (6 : Int32)) + (6 : Int32)) / (6 : Int32) * (6 : Int32)))), (82, 3, (-1 : Int32)), (82, 2, (-1 : Int32)), (82, 1, (-1 : Int32)), (82, 0, (-1 : Int32)), (60, 41, (0 : Int32)), (60, 40, (0 : Int32)), (60, 39, (0 : Int32)), (60, 38, (0 : Int32)), (60, 35, (0 : Int32)), (60, 34, (0 : Int32)), (60, 33, (0 : Int32)), (60, 32, (0 : Int32)), (60, 29, (0 : Int32)), (60, 28, (1 : Int32)), (60, 27, (0 : Int32)), (60, 23, (0 : Int32)), (60, 22, (0 : Int32)), (60, 21, (0 : Int32)), (60, 20, (0 : Int32)), (60, 19, (0 : Int32)), (60, 15, (0 : Int32)), (60, 9, (0 : Int32)), (60, 3, (1 : Int32)), (60, 2, (1 : Int32)), (60, 1, (0 : Int32))]
def lz0 : List (Nat × Nat × Int32) := [(78, 124, (-5 : Int32)), (78, 123, (10001 : Int32)), (78, 122, (-8 : Int32)), (78, 121, (2 : Int32)), (78, 120, (10000 : Int32)), (77, 1, (5 : Int32)), (78, 4, (-6 : Int32)), (78, 3, (10003 : Int32)), (78, 2, (-8 : Int32)), (78, 1, (10 : Int32)), (78, 0, (10002 : Int32)), (77, 0, (5 : Int32))]
set_option maxRecDepth 100000 in
theorem n8_2 (x : Int32) (M : Mem) : (n8 x M).2 = puts lr8 M.2 := rfl
set_option maxRecDepth 100000 in
theorem n8_1 (x : Int32) (M : Mem) : (n8 x M).1 = puts (li8 x) M.1 := rfl
set_option maxRecDepth 100000 in
theorem n9_2 (x : Int32) (M : Mem) : (n9 x M).2 = puts lr9 M.2 := rfl
set_option maxRecDepth 100000 in
theorem n9_1 (x : Int32) (M : Mem) : (n9 x M).1 = puts (li9 x) M.1 := rfl
theorem rf_8 (x : Int32) : Rf kz_X8_init_0 (n8 x M0) := by
  have h := puts_rf (ks := kz_X8_init_0) (I := (n8 x M0).1) (l := lr8) (R := M0.2) (by decide +kernel) rf_0
  rw [← n8_2 x M0] at h
  exact h
theorem li8_lo (x : Int32) : (li8 x).all (fun q => decide (q.1 < 60)) = true := rfl
theorem lr8_lo : lr8.all (fun q => decide (q.1 < 60)) = true := by decide +kernel
theorem zr_8 (x : Int32) {l : List Nat} (hl : ∀ k, k ∈ l → 60 ≤ k) : Zr l (n8 x M0) := by
  intro k hk
  have h6 := hl k hk
  refine ⟨?_, fun i => ?_⟩
  · rw [n8_1, puts_hi (li8_lo x) h6]
    rfl
  · rw [n8_2, puts_hi lr8_lo h6]
    exact if_neg (by omega)
theorem lr_in : ∀ k, k < 85 → ∀ i, i < 47 → puts (lr9 ++ lr8) M0.2 k i = R0 none none none (some 50) k i := by decide +kernel
theorem rfL_len : rfL.length ≤ 85 ∧ rfL.all (fun r => decide (r.length ≤ 47)) = true := by decide +kernel
theorem gd_out {α : Type} {l : List α} {i : Nat} {d : α} (h : l.length ≤ i) : l.getD i d = d := by
  rw [List.getD_eq_getElem?_getD, List.getElem?_eq_none h]
  rfl
theorem gd_in {α : Type} {l : List α} {i : Nat} {d : α} (h : i < l.length) : l.getD i d ∈ l := by
  rw [List.getD_eq_getElem?_getD, List.getElem?_eq_getElem h]
  exact List.getElem_mem h
theorem r0_out {k i : Nat} (h : 85 ≤ k ∨ 47 ≤ i) : R0 none none none (some 50) k i = none := by
  unfold R0
  rw [if_neg (by omega), if_neg (by omega), if_neg (by omega), if_neg (by omega)]
  by_cases hk : 85 ≤ k
  · rw [gd_out (l := rfL) (by have := rfL_len.1; omega)]
    rfl
  · have hi : 47 ≤ i := by omega
    apply gd_out
    by_cases h9 : k < rfL.length
    · have e := List.all_eq_true.mp rfL_len.2 (rfL.getD k []) (gd_in h9)
      have := of_decide_eq_true e
      omega
    · rw [gd_out (l := rfL) (by omega)]
      exact Nat.zero_le _
theorem lr_all : (lr9 ++ lr8).all (fun q => decide (q.1 < 85)) = true ∧ (lr9 ++ lr8).all (fun q => decide (q.2.1 < 47)) = true := by decide +kernel
theorem m9_2 (x : Int32) : (n9 x (n8 x M0)).2 = R0 none none none (some 50) := by
  rw [n9_2, n8_2, ← puts_app]
  funext k i
  by_cases hk : k < 85
  · by_cases hi : i < 47
    · exact lr_in k hk i hi
    · rw [r0_out (by omega), puts_out lr_all.2 (by omega)]
      show (if k = 40 then (if i < 6 then some (41 + i) else none) else none) = none
      split
      · rw [if_neg (by omega)]
      · rfl
  · rw [r0_out (by omega), puts_hi lr_all.1 (by omega)]
    exact if_neg (by omega)
def JJ (x : Int32) : Nat → Nat → Int32 := puts lz0 (puts (li9 x) (puts (li8 x) (fun _ _ => 0)))
theorem cpy_41 (M : Mem) : ∀ n j, j < n → (cpy M n).1 41 j = b0 j
  | 0, _, h => absurd h (Nat.not_lt_zero _)
  | n + 1, j, h => by
    show up2 (cpy M n).1 41 n (b0 n) 41 j = b0 j
    rw [up2_eq]
    unfold va_up
    by_cases e : j = n
    · rw [if_pos e, e]
    · rw [if_neg e]
      exact cpy_41 M n j (by omega)
theorem cf_L_cell : CalF yL_cell cL_cell 2 (some .int) 2 := ⟨mg (i := 1117) (by decide +kernel) rfl, mg (i := 125) (by decide +kernel) rfl, ⟨by decide, by decide⟩, by decide +kernel, by decide⟩
theorem cv_L_cell : Cond.static yL_cell ∈ lw_g := mg (i := 1116) (by decide +kernel) rfl
theorem ml_RL_9 : Cond.methodLink RL 9 yL_cell ∈ lw_g := mg (i := 1115) (by decide +kernel) rfl
theorem ml_RL_15 : Cond.methodLink RL 15 yX8_init ∈ lw_g := mg (i := 144) (by decide +kernel) rfl
theorem ml_RL_20 : Cond.methodLink RL 20 yX9_init ∈ lw_g := mg (i := 1120) (by decide +kernel) rfl
theorem cf_X8_init : CalF yX8_init cX8_init 4 none 1 := ⟨mg (i := 146) (by decide +kernel) rfl, mg (i := 126) (by decide +kernel) rfl, ⟨by decide, by decide⟩, by decide +kernel, by decide⟩
theorem cf_X9_init : CalF yX9_init cX9_init 2 none 1 := ⟨mg (i := 1122) (by decide +kernel) rfl, mg (i := 140) (by decide +kernel) rfl, ⟨by decide, by decide⟩, by decide +kernel, by decide⟩
theorem iv_X8_init : Cond.instanceMethod yX8_init ∈ lw_g := mg (i := 145) (by decide +kernel) rfl
theorem iv_X9_init : Cond.instanceMethod yX9_init ∈ lw_g := mg (i := 1121) (by decide +kernel) rfl
theorem cl_RL_7 : Cond.classLink RL 7 RX8 ∈ lw_g := mg (i := 142) (by decide +kernel) rfl
theorem cl_RL_18 : Cond.classLink RL 18 RX9 ∈ lw_g := mg (i := 1118) (by decide +kernel) rfl
theorem in_X8 : Cond.instantiable RX8 10 ∈ lw_g := mg (i := 143) (by decide +kernel) rfl
theorem iz_X8 : Cond.initialized RX8 ∈ lw_g := mg (i := 126) (by decide +kernel) rfl
theorem in_X9 : Cond.instantiable RX9 46 ∈ lw_g := mg (i := 1119) (by decide +kernel) rfl
theorem iz_X9 : Cond.initialized RX9 ∈ lw_g := mg (i := 140) (by decide +kernel) rfl
theorem wt_int : Cond.arrayClass .int ∈ lw_tbl := List.mem_of_getElem? (i := 221) (by decide +kernel)
theorem wt_boolean : Cond.arrayClass .boolean ∈ lw_tbl := List.mem_of_getElem? (i := 222) (by decide +kernel)
theorem wt_byte : Cond.arrayClass .byte ∈ lw_tbl := List.mem_of_getElem? (i := 359) (by decide +kernel)
theorem wt_bb : Cond.arrayOver (.array .byte) ∈ lw_tbl := List.mem_of_getElem? (i := 314) (by decide +kernel)
theorem wt_sh : Cond.arrayOver (.object "WolfVillage$Sheet") ∈ lw_tbl := List.mem_of_getElem? (i := 441) (by decide +kernel)
theorem wt_lcs : Cond.laysStatic "java/lang/String" "COMPACT_STRINGS" "Z" ∈ lw_tbl := List.mem_of_getElem? (i := 370) (by decide +kernel)
theorem wt_ics : Cond.initialized "java/lang/String" ∈ lw_tbl := List.mem_of_getElem? (i := 133) (by decide +kernel)
theorem wt_lfm : Cond.laysStatic "jdk/internal/util/Preconditions" "SIOOBE_FORMATTER" "Ljava/util/function/BiFunction;" ∈ lw_tbl := List.mem_of_getElem? (i := 389) (by decide +kernel)
theorem wt_ifm : Cond.initialized "jdk/internal/util/Preconditions" ∈ lw_tbl := List.mem_of_getElem? (i := 136) (by decide +kernel)
theorem wt_lks : Cond.laysStatic "WolfVillage" "KIND_SHUT_FOR" "[I" ∈ lw_tbl := List.mem_of_getElem? (i := 579) (by decide +kernel)
theorem wt_iks : Cond.initialized "WolfVillage" ∈ lw_tbl := List.mem_of_getElem? (i := 126) (by decide +kernel)
theorem wt_lka : Cond.laysStatic "WolfVillage" "KIND_ABOVE" "[I" ∈ lw_tbl := List.mem_of_getElem? (i := 1114) (by decide +kernel)
theorem wt_ika : Cond.initialized "WolfVillage" ∈ lw_tbl := List.mem_of_getElem? (i := 126) (by decide +kernel)
theorem wt_fn : Cond.fieldLinkNest "WolfVillage$Plan" 50 "WolfVillage" "KIND_SHUT_FOR" "[I" "WolfVillage" ∈ lw_tbl := List.mem_of_getElem? (i := 578) (by decide +kernel)
theorem wt_sr : Cond.stringRef "WolfVillage$Reader" 84 "won all longest puzzles ways turnings grade fair or and not " ∈ lw_tbl := List.mem_of_getElem? (i := 1004) (by decide +kernel)
theorem wt_st : Cond.stringRef "WolfVillage$Texts" 35 "grade longest * 10 + puzzles ; fair won * 2 = all ;" ∈ lw_tbl := List.mem_of_getElem? (i := 360) (by decide +kernel)
theorem wt_n0 : Cond.methodLinkNest "WolfVillage" 11 yX6_init "WolfVillage" ∈ lw_tbl := List.mem_of_getElem? (i := 152) (by decide +kernel)
theorem wt_n1 : Cond.methodLinkNest "WolfVillage" 18 yX2_init "WolfVillage" ∈ lw_tbl := List.mem_of_getElem? (i := 225) (by decide +kernel)
theorem wt_n2 : Cond.methodLinkNest "WolfVillage" 25 yX1_init "WolfVillage" ∈ lw_tbl := List.mem_of_getElem? (i := 250) (by decide +kernel)
theorem wt_n3 : Cond.methodLinkNest "WolfVillage" 32 yX0_init "WolfVillage" ∈ lw_tbl := List.mem_of_getElem? (i := 276) (by decide +kernel)
theorem wt_n4 : Cond.methodLinkNest "WolfVillage" 75 yX5_init "WolfVillage" ∈ lw_tbl := List.mem_of_getElem? (i := 519) (by decide +kernel)
theorem wt_n5 : Cond.methodLinkNest "WolfVillage$Texts" 30 yX4_init "WolfVillage" ∈ lw_tbl := List.mem_of_getElem? (i := 317) (by decide +kernel)
