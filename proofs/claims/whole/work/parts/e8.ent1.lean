/-! the law's entry: what the statement gives of the start -/
section Ent1
variable {p : Program} {s : State} {m : MethodId} {meth : Method} {c : Code} {b L : Nat} {xs : Nat → Int32} {args : Array Value}
def gvn : List Cond := flatC (Jvm.Cond.and given_1 narrow_1)
def tmS (i : Nat) : Term := if i = 0 then .string "WolfVillage$Reader" 84 else .string "WolfVillage$Texts" 35
theorem gv_a : ∀ j, j < 6 → Cond.eq (.elem (.static "WolfVillage" "KIND_ABOVE" "[I") (.int (Int32.ofNat j))) (.int (tbA.getD j 0)) ∈ gvn := by decide +kernel
theorem gv_b : ∀ j, j < 6 → Cond.eq (.elem (.static "WolfVillage" "KIND_SHUT_FOR" "[I") (.int (Int32.ofNat j))) (.int (tbB.getD j 0)) ∈ gvn := by decide +kernel
theorem gv_la : Cond.eq (.length (.static "WolfVillage" "KIND_ABOVE" "[I")) (.int (Int32.ofNat 6)) ∈ gvn := by decide +kernel
theorem gv_lb : Cond.eq (.length (.static "WolfVillage" "KIND_SHUT_FOR" "[I")) (.int (Int32.ofNat 6)) ∈ gvn := by decide +kernel
theorem gv_ra : Cond.arrayOf (.static "WolfVillage" "KIND_ABOVE" "[I") .int ∈ gvn := by decide +kernel
theorem gv_rb : Cond.arrayOf (.static "WolfVillage" "KIND_SHUT_FOR" "[I") .int ∈ gvn := by decide +kernel
theorem gv_cs : Cond.eq (.static "java/lang/String" "COMPACT_STRINGS" "Z") (.int 1) ∈ gvn := by decide +kernel
theorem gv_fm : Cond.isRef (.static "jdk/internal/util/Preconditions" "SIOOBE_FORMATTER" "Ljava/util/function/BiFunction;") ∈ gvn := by decide +kernel
theorem gv_ex : ∀ i, i < 2 → Cond.exactly (tmS i) "java/lang/String" ∈ gvn := by decide +kernel
theorem gv_co : ∀ i, i < 2 → Cond.eq (.field (tmS i) "java/lang/String" "coder" "B") (.int 0) ∈ gvn := by decide +kernel
theorem gv_ar : ∀ i, i < 2 → Cond.arrayOf (.field (tmS i) "java/lang/String" "value" "[B") .byte ∈ gvn := by decide +kernel
theorem gv_le : ∀ i, i < 2 → Cond.eq (.length (.field (tmS i) "java/lang/String" "value" "[B")) (.int (Int32.ofNat (([60, 51] : List Nat).getD i 0))) ∈ gvn := by decide +kernel
theorem gv_el : ∀ i, i < 2 → ∀ j, j < ([60, 51] : List Nat).getD i 0 → Cond.eq (.elem (.field (tmS i) "java/lang/String" "value" "[B") (.int (Int32.ofNat j))) (.int ((([txW, txF] : List (List Int32)).getD i []).getD j 0)) ∈ gvn := by decide +kernel
theorem gv_ne : Cond.not (Cond.eq (tmS 1) (tmS 0)) ∈ gvn := by decide +kernel
/-- the addresses of what stands outside the world -/
def adE (a0 a1 : Nat) (k v : Nat → Nat) (q b n : Nat) : Nat → Nat := fun j => if j = 200 then a0 else if j = 201 then a1 else if j = 202 then k 0 else if j = 203 then k 1 else if j = 204 then v 0 else if j = 205 then v 1 else if j = 206 then q else if j = 300 then b else n
theorem sc_ent (C0 : lw_At p s m meth c b L xs) : ∃ ad : Nat → Nat, ad 300 = b ∧ ad 400 = s.heap.size ∧ SC ad s s.heap := by
  obtain ⟨-, -, -, -, -, hts, -, -, -, hgv⟩ := C0
  have hf : ∀ w ∈ gvn, w.before #[Value.ref b] s = true := flat_of_before _ hgv
  have hA : ∀ a : Nat, a < s.heap.size → ¬ (fun q : Nat => s.heap.size ≤ q) a := fun a h z => absurd (show s.heap.size ≤ a from z) (Nat.not_le.mpr h)
  obtain ⟨t0, e0, T0⟩ := va_Tof (tm := .static "WolfVillage" "KIND_ABOVE" "[I") (ty := .int) (N := 6) (f := fun j => .int (tbA.getD j 0)) (A := fun q : Nat => s.heap.size ≤ q) (by decide) (hf _ gv_ra) (va_eqt (hf _ gv_la)) (fun j hj => va_eqt (hf _ (gv_a j hj))) hA
  obtain ⟨t1, e1, T1⟩ := va_Tof (tm := .static "WolfVillage" "KIND_SHUT_FOR" "[I") (ty := .int) (N := 6) (f := fun j => .int (tbB.getD j 0)) (A := fun q : Nat => s.heap.size ≤ q) (by decide) (hf _ gv_rb) (va_eqt (hf _ gv_lb)) (fun j hj => va_eqt (hf _ (gv_b j hj))) hA
  obtain ⟨aK, aV, hS, hT⟩ := vk_Sof (s := s) (N := 2) (tm := tmS) (len := [60, 51]) (byt := [txW, txF]) (A := fun q : Nat => s.heap.size ≤ q) (by decide) (fun i hi => hf _ (gv_ex i hi)) (fun i hi => hf _ (gv_co i hi)) (fun i hi => hf _ (gv_ar i hi)) (fun i hi => hf _ (gv_le i hi)) (fun i hi j hj => hf _ (gv_el i hi j hj)) (fun i j hi hj hij => by
    obtain y | y : i = 0 ∨ i = 1 := by omega
    · obtain z : j = 1 := by omega
      subst y
      subst z
      exact Or.inr (hf _ gv_ne)
    · obtain z : j = 0 := by omega
      subst y
      subst z
      exact Or.inl (hf _ gv_ne)) hA
  have Z0 := va_Zof (A := fun q : Nat => s.heap.size ≤ q) (hts _ wt_lka) (hts _ wt_ika) e0 hA
  have Z1 := va_Zof (A := fun q : Nat => s.heap.size ≤ q) (hts _ wt_lks) (hts _ wt_iks) e1 hA
  have Z2 := va_Zof (A := fun q : Nat => s.heap.size ≤ q) (hts _ wt_lcs) (hts _ wt_ics) (va_eqi (hf _ gv_cs)) hA
  obtain ⟨v, ev, hv⟩ := Cond.isRef_spec (args := #[Value.ref b]) (first := s) (o := none) (s := s) (idx := []) (hf _ gv_fm)
  have Z3 := va_Zof (A := fun q : Nat => s.heap.size ≤ q) (hts _ wt_lfm) (hts _ wt_ifm) ev hA
  obtain ⟨q, f, ef⟩ : ∃ (q : Nat) (f : Option Nat), v = va_rf (f.map (fun _ => q)) := by
    cases v with
    | ref q => exact ⟨q, some 0, rfl⟩
    | null => exact ⟨0, none, rfl⟩
    | _ => cases hv
  refine ⟨adE t0 t1 aK aV q b s.heap.size, rfl, rfl, Z0, T0, Z1, T1, ?_, vk_R.of (hts _ wt_sr) (hT 0 (by decide)), vk_R.of (hts _ wt_st) (hT 1 (by decide)), Z2, va_Nw.of rfl (hts _ wt_fn), ?_⟩
  · have key : ∀ i, i < 2 → adE t0 t1 aK aV q b s.heap.size (202 + i) = aK i ∧ adE t0 t1 aK aV q b s.heap.size (204 + i) = aV i := by
      intro i hi
      obtain y | y : i = 0 ∨ i = 1 := by omega
      all_goals subst y; exact ⟨rfl, rfl⟩
    refine ⟨fun i hi => ?_, fun i j hi hj e => hS.2 i j hi hj ?_⟩
    · obtain ⟨k1, k2⟩ := key i hi
      show va_O "java/lang/String" (adE t0 t1 aK aV q b s.heap.size (202 + i)) _ _ _ ∧ va_OF "java/lang/String" "coder" "B" (.int 0) (adE t0 t1 aK aV q b s.heap.size (202 + i)) _ _ _ ∧ va_OF "java/lang/String" "value" "[B" (.ref (adE t0 t1 aK aV q b s.heap.size (204 + i))) (adE t0 t1 aK aV q b s.heap.size (202 + i)) _ _ _ ∧ va_T .byte (adE t0 t1 aK aV q b s.heap.size (204 + i)) _ _ _ _ _
      rw [k1, k2]
      exact hS.1 i hi
    · have e : adE t0 t1 aK aV q b s.heap.size (202 + i) = adE t0 t1 aK aV q b s.heap.size (202 + j) := e
      rw [(key i hi).1, (key j hj).1] at e
      exact e
  · refine ⟨f.map (fun _ => 206), fun c hc => ?_, ?_⟩
    · cases f with
      | none => cases hc
      | some z => have h6 : 206 = c := Option.some.inj hc; omega
    · rw [ef] at Z3
      cases f with
      | none => exact Z3
      | some z => exact Z3
theorem k_ent (hts : ∀ w ∈ lw_tbl, w.before args s = true) : ∃ (D : va_G) (ca : Nat → ClassId), va_K D vwCl (tysOf ca) s := by
  have hg : ∀ w ∈ lw_g, w.before args s = true := fun w hw => hts w (List.mem_filter.mp hw).1
  obtain ⟨c_0, i_0, h_0⟩ := u_known (C := RX0) (T := TX0) (N := 7) (n := 7) hg clF0.2.1 (hg _ in_X0)
  obtain ⟨c_1, i_1, h_1⟩ := u_known (C := RX1) (T := TX1) (N := 6) (n := 6) hg clF1.2.1 (hg _ in_X1)
  obtain ⟨c_2, i_2, h_2⟩ := u_known (C := RX2) (T := TX2) (N := 6) (n := 6) hg clF2.2.1 (hg _ in_X2)
  obtain ⟨c_3, i_3, h_3⟩ := u_known (C := RX3) (T := TX3) (N := 13) (n := 13) hg clF3.2.1 (hg _ in_X3)
  obtain ⟨c_4, i_4, h_4⟩ := u_known (C := RX4) (T := TX4) (N := 11) (n := 11) hg clF4.2.1 (hg _ in_X4)
  obtain ⟨c_5, i_5, h_5⟩ := u_known (C := RX5) (T := TX5) (N := 3) (n := 3) hg clF5.2.1 (hg _ in_X5)
  obtain ⟨c_6, i_6, h_6⟩ := u_known (C := RX6) (T := TX6) (N := 19) (n := 19) hg clF6.2.1 (hg _ in_X6)
  obtain ⟨c_7, i_7, h_7⟩ := u_known (C := RX7) (T := TX7) (N := 7) (n := 7) hg clF7.2.1 (hg _ in_X7)
  obtain ⟨c_8, i_8, h_8⟩ := u_known (C := RX8) (T := TX8) (N := 10) (n := 10) hg clF8.2.1 (hg _ in_X8)
  obtain ⟨c_9, i_9, h_9⟩ := u_known (C := RX9) (T := TX9) (N := 46) (n := 46) hg clF9.2.1 (hg _ in_X9)
  obtain ⟨A0, B0, P0, f0, g0, k0⟩ := Cond.arrayClass_spec (args := args) (first := s) (o := none) (s := s) (idx := []) (hts _ wt_int)
  obtain ⟨A1, B1, P1, f1, g1, k1⟩ := Cond.arrayClass_spec (args := args) (first := s) (o := none) (s := s) (idx := []) (hts _ wt_boolean)
  obtain ⟨A2, B2, P2, f2, g2, k2⟩ := Cond.arrayClass_spec (args := args) (first := s) (o := none) (s := s) (idx := []) (hts _ wt_byte)
  obtain ⟨P3, A3, B3, c3, -, g3, k3, f3⟩ := arrayOverA_spec (args := args) (first := s) (o := none) (s := s) (idx := []) (hts _ wt_bb)
  obtain ⟨P4, A4, B4, c4, -, g4, k4, f4⟩ := Cond.arrayOver_spec (args := args) (first := s) (o := none) (s := s) (idx := []) (hts _ wt_sh)
  refine ⟨(fun k => ([c_0, c_1, c_2, c_3, c_4, c_5, c_6, c_7, c_8, c_9] : List ClassId).getD k c_0, fun k => ([i_0, i_1, i_2, i_3, i_4, i_5, i_6, i_7, i_8, i_9] : List (Nat → Nat)).getD k i_0), fun k => ([A0, A1, A2, A3, A4] : List ClassId).getD k A0, fun k q hq => ?_, fun k q hq => ?_⟩
  · match k, hq with
    | 0, hq => cases hq; exact h_0
    | 1, hq => cases hq; exact h_1
    | 2, hq => cases hq; exact h_2
    | 3, hq => cases hq; exact h_3
    | 4, hq => cases hq; exact h_4
    | 5, hq => cases hq; exact h_5
    | 6, hq => cases hq; exact h_6
    | 7, hq => cases hq; exact h_7
    | 8, hq => cases hq; exact h_8
    | 9, hq => cases hq; exact h_9
    | k + 10, hq => cases hq
  · match k, hq with
    | 0, hq => cases hq; exact ⟨fun n z => ⟨fun k h => (by cases h), B0, g0, P0, k0⟩, f0⟩
    | 1, hq => cases hq; exact ⟨fun n z => ⟨fun k h => (by cases h), B1, g1, P1, k1⟩, f1⟩
    | 2, hq => cases hq; exact ⟨fun n z => ⟨fun k h => (by cases h), B2, g2, P2, k2⟩, f2⟩
    | 3, hq => cases hq; exact ⟨fun n z => ⟨fun k h => (by cases h), B3, g3, P3, k3⟩, f3⟩
    | 4, hq => cases hq; exact ⟨fun n z => ⟨fun k h => (by cases h), B4, g4, P4, k4⟩, B4, P4, g4, k4, c4, f4⟩
    | k + 5, hq => cases hq
theorem nw_ent (hts : ∀ w ∈ lw_tbl, w.before args s = true) : NW s := ⟨va_Nw.of rfl (hts _ wt_n0), va_Nw.of rfl (hts _ wt_n1), va_Nw.of rfl (hts _ wt_n2), va_Nw.of rfl (hts _ wt_n3), va_Nw.of rfl (hts _ wt_n4), va_Nw.of rfl (hts _ wt_n5), va_AO.of (hts _ wt_sh), hts _ wt_bb⟩
end Ent1
