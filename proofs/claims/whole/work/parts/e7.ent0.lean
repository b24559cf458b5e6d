/-! the law's entry: cell(script, 0) -/
section Ent
variable {ad ad0 : Nat → Nat} {ca : Nat → ClassId} {D : va_G} {wf : Mem → va_W} {cc : ByteArray} {own : String} {nL d : Nat} {pc : Nat} {lv : List (Nat × AV)} {st : List AV} {M N : Mem} {Γ Γ' : Gm} {b L : Nat} {xs : Nat → Int32}
theorem Jg_mono (h : ∀ (p : Program) (l : Launch) (e : Env) (R : Room) (s : State) (m : MethodId) (args : Array Value) (below : List Frame) (meth : Method) (c : Code) (cells slots : Nat) (Z : State → Prop), Γ p l e R s m args below meth c cells slots Z → Γ' p l e R s m args below meth c cells slots Z) (k : Jg ad ca D wf cc own nL d Γ' pc lv st M) : Jg ad ca D wf cc own nL d Γ pc lv st M := by
  intro p l e R s m args below meth c H locs cells slots Z ls hg hc hP hD hS hl
  exact k p l e R s m args below meth c H locs cells slots Z ls (h _ _ _ _ _ _ _ _ _ _ _ _ _ hg) hc hP hD hS hl
/-- a context that knows the script -/
def ScG (ad : Nat → Nat) (b L : Nat) (xs : Nat → Int32) (Γ : Gm) : Prop := ∀ (p : Program) (l : Launch) (e : Env) (R : Room) (s : State) (m : MethodId) (args : Array Value) (below : List Frame) (meth : Method) (c : Code) (cells slots : Nat) (Z : State → Prop), Γ p l e R s m args below meth c cells slots Z → va_X b L xs s s.heap ∧ b < s.heap.size ∧ ad 300 = b ∧ b < ad 400
theorem K_sld {i : Int32} (hΓ : ScG ad b L xs Γ) (hin : vp_in i L) (hd : decode cc pc = .ok (.iaload, 1)) (k : Jg ad ca D wf cc own nL d Γ (pc + 1) lv (vI (xs i.toNatClampNeg) :: st) M) : Jg ad ca D wf cc own nL d Γ pc lv (vI i :: vR (some 300) :: st) M := by
  intro p l e R s m args below meth c H locs cells slots Z ls hg hc hP hD hS hl
  obtain ⟨g1, g2, g3, g4⟩ := hΓ _ _ _ _ _ _ _ _ _ _ _ _ _ hg
  have h9 : (cv ad (vR (some 300))) = .ref b := by rw [← g3]; rfl
  show W p l e R s m args below meth c H locs cells slots Z (F0 m pc ls (.int i :: cv ad (vR (some 300)) :: st.map (cv ad)))
  rw [h9]
  exact va_sld hc.1 hc.2.1 g1 g2 (fun z => absurd (show ad 400 ≤ b from z) (Nat.not_le.mpr g4)) hS hin hd (k p l e R s m args below meth c H locs cells slots Z ls hg hc hP hD hS hl)
theorem K_slen (hΓ : ScG ad b L xs Γ) (hd : decode cc pc = .ok (.arraylength, 1)) (k : Jg ad ca D wf cc own nL d Γ (pc + 1) lv (vI (Int32.ofNat L) :: st) M) : Jg ad ca D wf cc own nL d Γ pc lv (vR (some 300) :: st) M := by
  intro p l e R s m args below meth c H locs cells slots Z ls hg hc hP hD hS hl
  obtain ⟨g1, g2, g3, g4⟩ := hΓ _ _ _ _ _ _ _ _ _ _ _ _ _ hg
  have h9 : (cv ad (vR (some 300))) = .ref b := by rw [← g3]; rfl
  show W p l e R s m args below meth c H locs cells slots Z (F0 m pc ls (cv ad (vR (some 300)) :: st.map (cv ad)))
  rw [h9]
  exact va_slen hc.1 hc.2.1 g1 g2 (fun z => absurd (show ad 400 ≤ b from z) (Nat.not_le.mpr g4)) hS hd (k p l e R s m args below meth c H locs cells slots Z ls hg hc hP hD hS hl)
def Wsx (ad : Nat → Nat) (ca : Nat → ClassId) (D : va_G) (wf : Mem → va_W) (M : Mem) (b L : Nat) (xs : Nat → Int32) (U : State) : Prop := Wdg ad ca D wf M U ∧ va_X b L xs U U.heap ∧ b < U.heap.size
def Gcx (ad : Nat → Nat) (wf : Mem → va_W) (D : va_G) (b L : Nat) (xs : Nat → Int32) (Q : Option AV → Mem → Prop) : Gm := fun p l e R s m args below meth c cells slots Z => Gtg ad wf D (some .int) Q p l e R s m args below meth c cells slots Z ∧ va_X b L xs s s.heap ∧ b < s.heap.size ∧ ad 300 = b ∧ b < ad 400
def s0 (L : Nat) (xs : Nat → Int32) : Int32 := if 0 < L then xs 0 else 0
set_option maxRecDepth 100000 in
theorem tL_cell (hL : L ≤ 3073) (h3 : ad 300 = b) (h4 : b < ad 400) : ∀ l : Launch, Met l yL_cell (.code yL_cell cL_cell 2 (some .int) :: lw_g) (rmd d) (va_Pc (([vR (some 300), vI (0 : Int32)] : List AV).map (cv ad)) (Wsx ad ca D wf M b L xs)) (Qcg ad wf D (QI (s0 L xs) M)) 0 0 (AA ad) := by
  have hS : ScG ad b L xs (Gcx ad wf D b L xs (QI (s0 L xs) M)) := fun p l e R s m args below meth c cells slots Z h => h.2
  have hm : ∀ (p : Program) (l : Launch) (e : Env) (R : Room) (s : State) (m : MethodId) (args : Array Value) (below : List Frame) (meth : Method) (c : Code) (cells slots : Nat) (Z : State → Prop), (Gcx ad wf D b L xs (QI (s0 L xs) M)) p l e R s m args below meth c cells slots Z → (Gtg ad wf D (some .int) (QI (s0 L xs) M)) p l e R s m args below meth c cells slots Z := fun p l e R s m args below meth c cells slots Z h => h.1
  have h : Jg ad ca D wf cL_cell RL 2 d (Gcx ad wf D b L xs (QI (s0 L xs) M)) 0 [(0, vR (some 300)), (1, vI (0 : Int32))] [] M := by
    refine J_iload_n (pc := 0) (q := 1) rfl rfl dL_cell_0 ?_
    refine J_aload_n (pc := 1) (q := 0) rfl rfl dL_cell_1 ?_
    refine K_slen (pc := 2) hS dL_cell_2 ?_
    refine J_icge (pc := 3) (tgt := 12) (by decide) dL_cell_3 (fun hc => ?_) (fun hc => ?_)
    · have hc : nI L ≤ nI 0 := hc
      rw [w_le (by omega) (by decide)] at hc
      refine J_iconst (pc := 12) (v := (0 : Int32)) (by decide) dL_cell_12 ?_
      exact Jg_mono hm (J_iret (pc := 13) ⟨by unfold s0; rw [if_neg (by omega)], rfl⟩ dL_cell_13)
    · have hc : ¬ nI L ≤ nI 0 := hc
      rw [w_le (by omega) (by decide)] at hc
      refine J_aload_n (pc := 6) (q := 0) rfl rfl dL_cell_6 ?_
      refine J_iload_n (pc := 7) (q := 1) rfl rfl dL_cell_7 ?_
      refine K_sld (pc := 8) hS (by
        rintro (z | z)
        · exact absurd z (by decide)
        · have z : L ≤ 0 := z
          omega) dL_cell_8 ?_
      refine J_goto (pc := 9) (tgt := 13) (by decide) dL_cell_9 ?_
      exact Jg_mono hm (J_iret (pc := 13) ⟨by unfold s0; rw [if_pos (by omega)]; rfl, rfl⟩ dL_cell_13)
  intro l
  refine Met.ofW (cc := cL_cell) (maxL := 2) (ret := some .int) (by decide) rfl ?_
  intro p e s m args below meth c s₁ B hml hv
  obtain ⟨rfl, ⟨hP, hK, hSC, hD⟩, hX, hbl⟩ := hv
  have hts := atoms_spec (ws := (.code yL_cell cL_cell 2 (some .int) :: lw_g)) B.pre
  have hl := lv_entry (([vR (some 300), vI (0 : Int32)] : List AV).map (cv ad)) (n := 2) (by rw [sl_len]; exact Nat.le_of_ble_eq_true rfl)
  rw [lg_entry_eq]
  rw [lvA_ok] at hl
  exact h p l e (rmd d) s m _ below meth c s.heap [] 0 0 _ _ ⟨⟨rfl, B.returns, B.notSynchronized⟩, hX, hbl, h3, h4⟩ ⟨B.exec, B.bytes, hml, findClass_of_methodNamed B.named, fun w hw => hts w (List.mem_cons_of_mem _ hw), hK, hSC, trivial, ⟨Nat.le_refl _, Nat.le_refl _⟩, Nat.zero_le _, Nat.zero_le _⟩ hP hD va_S.rf hl
theorem blindX (as : List AV) : FrameBlind (va_Pc (as.map (cv ad)) (Wsx ad ca D wf M b L xs)) := by
  intro a U g mk h
  obtain ⟨h1, ⟨h2, h3, h4, h5⟩, h6, h7⟩ := h
  exact ⟨h1, ⟨h2, va_K.moved (u := U) (U := U.calling g mk a) (Vm.Alike.refl U.vm) h3, SC.same (u := U) (U := U.calling g mk a) rfl h4, h5⟩, va_X.moved (u := U) (U := U.calling g mk a) (Vm.Alike.refl U.vm) h6, h7⟩
theorem K_scr {idx : Nat} (hL : L ≤ 3073) (hΓ : ScG ad b L xs Γ) (hlink : Cond.methodLink own idx yL_cell ∈ lw_g) (hdc : 2 ≤ d) (hst : (st.map catA).sum ≤ 8) (hd : decode cc pc = .ok (.invokestatic idx, 3)) (k : Jg ad ca D wf cc own nL d Γ (pc + 3) lv (vI (s0 L xs) :: st) M) : Jg ad ca D wf cc own nL d Γ pc lv (vI (0 : Int32) :: vR (some 300) :: st) M := by
  intro p l e R s m args below meth c H locs cells slots Z ls hg hc hP hD hS hl
  obtain ⟨g1, g2, g3, g4⟩ := hΓ _ _ _ _ _ _ _ _ _ _ _ _ _ hg
  have hts := hc.2.2.2.2.1
  have hfr := hc.2.2.2.2.2.2.2.2.1
  have hC := cf_L_cell
  have hcb : CallB R s args own idx yL_cell cL_cell 2 (some .int) (.code yL_cell cL_cell 2 (some .int) :: lw_g) (rmd 1) 0 0 2 := by
    refine callB_of 2 hts (good_in hC.1) rfl rfl rfl (hts _ hC.2.1) (hts _ hlink) ⟨hC.2.2.1.1, hC.2.2.1.2, hC.2.2.2.1⟩ ⟨?_, ?_⟩
    · show 1 + 1 ≤ R.frames
      omega
    · show 8 + (2 + 11) + 40 * 1 ≤ R.locals
      omega
  have hnb : ¬ AA ad b := fun z => absurd (show ad 400 ≤ b from z) (Nat.not_le.mpr g4)
  have hpre : ∀ U : State, U.heap = H → s.WarmedH U.vm → va_Pc (([vR (some 300), vI (0 : Int32)] : List AV).map (cv ad)) (Wsx ad ca D wf M b L xs) (([vR (some 300), vI (0 : Int32)] : List AV).map (cv ad)).toArray U := fun U hU hW => ⟨rfl, ⟨by rw [hU]; exact hP, va_K.moved hW.alike hc.2.2.2.2.2.1, by rw [hU]; exact (hc.2.2.2.2.2.2.1.kept hS.2.1).warm hW, hD⟩, by rw [hU]; exact va_X.moved hW.alike (va_X.kept g1 (hS.2.1 b g2 hnb)), by rw [hU]; exact Nat.lt_of_lt_of_le g2 hS.1⟩
  have hr := va_runS (e := e) (As := ([vR (some 300), vI (0 : Int32)] : List AV).map (cv ad)) (rest := st.map (cv ad)) (g := F0 m pc ls ((vI (0 : Int32) :: vR (some 300) :: st).map (cv ad))) (H := H) (locs := locs) (cells := cells) (slots := slots) (R := R) (below := below) (meth := meth) (n := 2) ⟨hc.1, hc.2.1, hc.2.2.1, hc.2.2.2.1, hts⟩ (tL_cell (ca := ca) (D := D) (wf := wf) (M := M) (d := 1) hL g3 g4 l) ⟨hcb, hts _ cv_L_cell⟩ ⟨blindX _, hpre⟩ rfl rfl hl.1 rfl (lv_room (by rw [cat_sum]; exact hst)) hd ⟨hc.2.2.2.2.2.2.2.2.2.1, hc.2.2.2.2.2.2.2.2.2.2⟩
  refine J_run (y := yL_cell) (cb := cL_cell) (mL := 2) (dc := 1) (idx := idx) (ret := some .int) (as := []) hr hg hc hS hl ?_
  rintro _ _ ⟨rfl, rfl⟩
  exact k
end Ent
