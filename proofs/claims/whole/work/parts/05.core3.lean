/-! what the decompiled functions use -/
def QI (x : Int32) (N : Mem) : Option AV → Mem → Prop := fun v M' => some (vI x) = v ∧ N = M'
def QL (x : Int64) (N : Mem) : Option AV → Mem → Prop := fun v M' => some (vL x) = v ∧ N = M'
def QR (x : Option Nat) (N : Mem) : Option AV → Mem → Prop := fun v M' => some (vR x) = v ∧ N = M'
def QV (N : Mem) : Option AV → Mem → Prop := fun v M' => none = v ∧ N = M'
theorem qi_of {x r : Int32} {M N : Mem} (h : some (x, M) = some (r, N)) : QI r N (some (vI x)) M := by
  obtain ⟨h1, h2⟩ := Prod.mk.inj (Option.some.inj h)
  subst h1
  subst h2
  exact ⟨rfl, rfl⟩
theorem ql_of {x r : Int64} {M N : Mem} (h : some (x, M) = some (r, N)) : QL r N (some (vL x)) M := by
  obtain ⟨h1, h2⟩ := Prod.mk.inj (Option.some.inj h)
  subst h1
  subst h2
  exact ⟨rfl, rfl⟩
theorem qr_of {x r : Option Nat} {M N : Mem} (h : some (x, M) = some (r, N)) : QR r N (some (vR x)) M := by
  obtain ⟨h1, h2⟩ := Prod.mk.inj (Option.some.inj h)
  subst h1
  subst h2
  exact ⟨rfl, rfl⟩
theorem qv_of {M N : Mem} (h : some M = some N) : QV N none M := by
  have h2 := Option.some.inj h
  subst h2
  exact ⟨rfl, rfl⟩
def bd2 {α β γ : Type} (o : Option (α × β)) (f : α → β → Option γ) : Option γ := match o with
  | some q => f q.1 q.2
  | none => none
theorem bnd2 {α β γ : Type} {o : Option (α × β)} {f : α → β → Option γ} {y : γ} (h : bd2 o f = some y) : ∃ a b, o = some (a, b) ∧ f a b = some y := by
  cases o with
  | none => cases h
  | some q => exact ⟨q.1, q.2, rfl, h⟩
def okr (r : Option Nat) : Bool := match r with
  | some k => decide (k < NC)
  | none => true
theorem okr_lt {r : Option Nat} (h : okr r = true) : ∀ k, r = some k → k < NC := by
  intro k e
  subst e
  exact of_decide_eq_true h
def aL2 (r : Option Nat) : Option Int32 := match r with
  | some k => match sh k with
    | some (.inr (2, n)) => some (Int32.ofNat n)
    | _ => none
  | none => none
theorem i32ne {x k : Int32} {z : Int} (h : ¬ x = k) (hk : k.toInt = z) : x.toInt ≠ z := fun e => h (Int32.toInt_inj.mp (e.trans hk.symm))
section J3
variable {ad : Nat → Nat} {ca : Nat → ClassId} {D : va_G} {cc : ByteArray} {own : String} {nL d : Nat} {Γ : Gm} {pc : Nat} {lv : List (Nat × AV)} {st : List AV} {M : Mem}
theorem J_alen {r : Option Nat} {x : Int32} (hx : aL2 r = some x) (hd : decode cc pc = .ok (.arraylength, 1)) (k : J ad ca D cc own nL d Γ (pc + 1) lv (vI x :: st) M) : J ad ca D cc own nL d Γ pc lv (vR r :: st) M := by
  unfold aL2 at hx
  split at hx
  · split at hx
    · rename_i hs
      cases hx
      exact J_alen2 hs hd k
    · cases hx
  · cases hx
theorem J_lcmp {x y : Int64} (hd : decode cc pc = .ok (.lcmp, 1)) (k : J ad ca D cc own nL d Γ (pc + 1) lv (vI (lg_cmp x y) :: st) M) : J ad ca D cc own nL d Γ pc lv (vL y :: vL x :: st) M := by
  intro p l e R s m args below meth c H locs cells slots Z ls hg hc hP hD hS hl
  exact W.lcmp hc.1 hc.2.1 hd (k p l e R s m args below meth c H locs cells slots Z ls hg hc hP hD hS hl)
theorem J_acne {rx ry : Option Nat} {off : Int} {tgt : Nat} (h1 : okr rx = true) (h2 : okr ry = true) (ht : (pc : Int) + off = (tgt : Int)) (hd : decode cc pc = .ok (.if_acmp .ne off, 3)) (kt : ¬ rx = ry → J ad ca D cc own nL d Γ tgt lv st M) (kf : ¬ (¬ rx = ry) → J ad ca D cc own nL d Γ (pc + 3) lv st M) : J ad ca D cc own nL d Γ pc lv (vR ry :: vR rx :: st) M := by
  intro p l e R s m args below meth c H locs cells slots Z ls hg hc hP hD hS hl
  exact J_acne0 (okr_lt h1) (okr_lt h2) ht hd kt kf p l e R s m args below meth c H locs cells slots Z ls hg hc hP hD hS hl
theorem J_callVI {y : MethodName} {cb : ByteArray} {mL dc idx : Nat} {ret : Option FieldType} {as : List AV} {ci b N0 : Nat} {r0 : Option Nat} {C : String} {T : u_T} {ty : Nat → FieldType} {r : Int32} {N : Mem} (hM : Ct ad ca D y cb mL ret dc (vR (some b) :: as) M (QI r N)) (hC : CalF y cb mL ret as.length) (hV : Cond.instanceMethod y ∈ lw_g ∧ Cond.selects C y y ∈ lw_g) (hF : ClF ci C T N0 ty) (hb : rc ci r0 = some b) (hlink : Cond.methodLink own idx y ∈ lw_g) (hdc : dc + 1 ≤ d) (hst : (st.map catA).sum ≤ 8) (hd : decode cc pc = .ok (.invokevirtual idx, 3)) (k : J ad ca D cc own nL d Γ (pc + 3) lv (vI r :: st) N) : J ad ca D cc own nL d Γ pc lv (as.reverse ++ vR r0 :: st) M := by
  obtain ⟨rfl, hsh⟩ := rc_some hb
  refine J_callV hM hC hV hF hsh hlink hdc hst hd ?_
  rintro _ _ ⟨rfl, rfl⟩
  exact k
theorem J_callVL {y : MethodName} {cb : ByteArray} {mL dc idx : Nat} {ret : Option FieldType} {as : List AV} {ci b N0 : Nat} {r0 : Option Nat} {C : String} {T : u_T} {ty : Nat → FieldType} {r : Int64} {N : Mem} (hM : Ct ad ca D y cb mL ret dc (vR (some b) :: as) M (QL r N)) (hC : CalF y cb mL ret as.length) (hV : Cond.instanceMethod y ∈ lw_g ∧ Cond.selects C y y ∈ lw_g) (hF : ClF ci C T N0 ty) (hb : rc ci r0 = some b) (hlink : Cond.methodLink own idx y ∈ lw_g) (hdc : dc + 1 ≤ d) (hst : (st.map catA).sum ≤ 8) (hd : decode cc pc = .ok (.invokevirtual idx, 3)) (k : J ad ca D cc own nL d Γ (pc + 3) lv (vL r :: st) N) : J ad ca D cc own nL d Γ pc lv (as.reverse ++ vR r0 :: st) M := by
  obtain ⟨rfl, hsh⟩ := rc_some hb
  refine J_callV hM hC hV hF hsh hlink hdc hst hd ?_
  rintro _ _ ⟨rfl, rfl⟩
  exact k
theorem J_callVR {y : MethodName} {cb : ByteArray} {mL dc idx : Nat} {ret : Option FieldType} {as : List AV} {ci b N0 : Nat} {r0 : Option Nat} {C : String} {T : u_T} {ty : Nat → FieldType} {r : Option Nat} {N : Mem} (hM : Ct ad ca D y cb mL ret dc (vR (some b) :: as) M (QR r N)) (hC : CalF y cb mL ret as.length) (hV : Cond.instanceMethod y ∈ lw_g ∧ Cond.selects C y y ∈ lw_g) (hF : ClF ci C T N0 ty) (hb : rc ci r0 = some b) (hlink : Cond.methodLink own idx y ∈ lw_g) (hdc : dc + 1 ≤ d) (hst : (st.map catA).sum ≤ 8) (hd : decode cc pc = .ok (.invokevirtual idx, 3)) (k : J ad ca D cc own nL d Γ (pc + 3) lv (vR r :: st) N) : J ad ca D cc own nL d Γ pc lv (as.reverse ++ vR r0 :: st) M := by
  obtain ⟨rfl, hsh⟩ := rc_some hb
  refine J_callV hM hC hV hF hsh hlink hdc hst hd ?_
  rintro _ _ ⟨rfl, rfl⟩
  exact k
theorem J_callVV {y : MethodName} {cb : ByteArray} {mL dc idx : Nat} {ret : Option FieldType} {as : List AV} {ci b N0 : Nat} {r0 : Option Nat} {C : String} {T : u_T} {ty : Nat → FieldType} {N : Mem} (hM : Ct ad ca D y cb mL ret dc (vR (some b) :: as) M (QV N)) (hC : CalF y cb mL ret as.length) (hV : Cond.instanceMethod y ∈ lw_g ∧ Cond.selects C y y ∈ lw_g) (hF : ClF ci C T N0 ty) (hb : rc ci r0 = some b) (hlink : Cond.methodLink own idx y ∈ lw_g) (hdc : dc + 1 ≤ d) (hst : (st.map catA).sum ≤ 8) (hd : decode cc pc = .ok (.invokevirtual idx, 3)) (k : J ad ca D cc own nL d Γ (pc + 3) lv (st) N) : J ad ca D cc own nL d Γ pc lv (as.reverse ++ vR r0 :: st) M := by
  obtain ⟨rfl, hsh⟩ := rc_some hb
  refine J_callV hM hC hV hF hsh hlink hdc hst hd ?_
  rintro _ _ ⟨rfl, rfl⟩
  exact k
theorem J_callSI {wf : Mem → va_W} {y : MethodName} {cb : ByteArray} {mL dc idx : Nat} {ret : Option FieldType} {as : List AV} {r : Int32} {N : Mem} (hM : Ctg ad ca D wf y cb mL ret dc (as) M (QI r N)) (hC : CalF y cb mL ret as.length) (hV : Cond.static y ∈ lw_g) (hlink : Cond.methodLink own idx y ∈ lw_g) (hdc : dc + 1 ≤ d) (hst : (st.map catA).sum ≤ 8) (hd : decode cc pc = .ok (.invokestatic idx, 3)) (k : Jg ad ca D wf cc own nL d Γ (pc + 3) lv (vI r :: st) N) : Jg ad ca D wf cc own nL d Γ pc lv (as.reverse ++ st) M := by
  refine J_callS hM hC hV hlink hdc hst hd ?_
  rintro _ _ ⟨rfl, rfl⟩
  exact k
theorem J_callSL {wf : Mem → va_W} {y : MethodName} {cb : ByteArray} {mL dc idx : Nat} {ret : Option FieldType} {as : List AV} {r : Int64} {N : Mem} (hM : Ctg ad ca D wf y cb mL ret dc (as) M (QL r N)) (hC : CalF y cb mL ret as.length) (hV : Cond.static y ∈ lw_g) (hlink : Cond.methodLink own idx y ∈ lw_g) (hdc : dc + 1 ≤ d) (hst : (st.map catA).sum ≤ 8) (hd : decode cc pc = .ok (.invokestatic idx, 3)) (k : Jg ad ca D wf cc own nL d Γ (pc + 3) lv (vL r :: st) N) : Jg ad ca D wf cc own nL d Γ pc lv (as.reverse ++ st) M := by
  refine J_callS hM hC hV hlink hdc hst hd ?_
  rintro _ _ ⟨rfl, rfl⟩
  exact k
theorem J_callSR {wf : Mem → va_W} {y : MethodName} {cb : ByteArray} {mL dc idx : Nat} {ret : Option FieldType} {as : List AV} {r : Option Nat} {N : Mem} (hM : Ctg ad ca D wf y cb mL ret dc (as) M (QR r N)) (hC : CalF y cb mL ret as.length) (hV : Cond.static y ∈ lw_g) (hlink : Cond.methodLink own idx y ∈ lw_g) (hdc : dc + 1 ≤ d) (hst : (st.map catA).sum ≤ 8) (hd : decode cc pc = .ok (.invokestatic idx, 3)) (k : Jg ad ca D wf cc own nL d Γ (pc + 3) lv (vR r :: st) N) : Jg ad ca D wf cc own nL d Γ pc lv (as.reverse ++ st) M := by
  refine J_callS hM hC hV hlink hdc hst hd ?_
  rintro _ _ ⟨rfl, rfl⟩
  exact k
theorem J_callSV {wf : Mem → va_W} {y : MethodName} {cb : ByteArray} {mL dc idx : Nat} {ret : Option FieldType} {as : List AV} {N : Mem} (hM : Ctg ad ca D wf y cb mL ret dc (as) M (QV N)) (hC : CalF y cb mL ret as.length) (hV : Cond.static y ∈ lw_g) (hlink : Cond.methodLink own idx y ∈ lw_g) (hdc : dc + 1 ≤ d) (hst : (st.map catA).sum ≤ 8) (hd : decode cc pc = .ok (.invokestatic idx, 3)) (k : Jg ad ca D wf cc own nL d Γ (pc + 3) lv (st) N) : Jg ad ca D wf cc own nL d Γ pc lv (as.reverse ++ st) M := by
  refine J_callS hM hC hV hlink hdc hst hd ?_
  rintro _ _ ⟨rfl, rfl⟩
  exact k
theorem mmin_s : Cond.static Lib.Math.min.name ∈ lw_g ∧ Cond.initialized "java/lang/Math" ∈ lw_g ∧ Cond.code Lib.Math.min.name Lib.Math.min.code 2 (some .int) ∈ lw_g := ⟨mg (i := 372) (by decide +kernel) rfl, mg (i := 134) (by decide +kernel) rfl, mg (i := 373) (by decide +kernel) rfl⟩
theorem J_mmin {idx : Nat} {x y : Int32} (hlink : Cond.methodLink own idx Lib.Math.min.name ∈ lw_g) (hdc : 1 ≤ d) (hst : (st.map catA).sum ≤ 8) (hd : decode cc pc = .ok (.invokestatic idx, 3)) (k : J ad ca D cc own nL d Γ (pc + 3) lv (vI (if y < x then y else x) :: st) M) : J ad ca D cc own nL d Γ pc lv (vI y :: vI x :: st) M := by
  intro p l e R s m args below meth c H locs cells slots Z ls hg hc hP hD hS hl
  have hts := hc.2.2.2.2.1
  have hfr := hc.2.2.2.2.2.2.2.2.1
  exact va_mmin hc.1 hc.2.1 (hc.2.2.1.trans hl.1.symm) hc.2.2.2.1 (hts _ hlink) (hts _ mmin_s.1) (hts _ mmin_s.2.1) (hts _ mmin_s.2.2) (by omega) (by rw [cat_sum]; omega) hc.2.2.2.2.2.2.2.2.2.1 hc.2.2.2.2.2.2.2.2.2.2 hd (k p l e R s m args below meth c H locs cells slots Z ls hg hc hP hD hS hl)
theorem mmax_s : Cond.static Lib.Math.max.name ∈ lw_g ∧ Cond.initialized "java/lang/Math" ∈ lw_g ∧ Cond.code Lib.Math.max.name Lib.Math.max.code 2 (some .int) ∈ lw_g := ⟨mg (i := 628) (by decide +kernel) rfl, mg (i := 134) (by decide +kernel) rfl, mg (i := 629) (by decide +kernel) rfl⟩
theorem J_mmax {idx : Nat} {x y : Int32} (hlink : Cond.methodLink own idx Lib.Math.max.name ∈ lw_g) (hdc : 1 ≤ d) (hst : (st.map catA).sum ≤ 8) (hd : decode cc pc = .ok (.invokestatic idx, 3)) (k : J ad ca D cc own nL d Γ (pc + 3) lv (vI (if x < y then y else x) :: st) M) : J ad ca D cc own nL d Γ pc lv (vI y :: vI x :: st) M := by
  intro p l e R s m args below meth c H locs cells slots Z ls hg hc hP hD hS hl
  have hts := hc.2.2.2.2.1
  have hfr := hc.2.2.2.2.2.2.2.2.1
  exact va_mmax hc.1 hc.2.1 (hc.2.2.1.trans hl.1.symm) hc.2.2.2.1 (hts _ hlink) (hts _ mmax_s.1) (hts _ mmax_s.2.1) (hts _ mmax_s.2.2) (by omega) (by rw [cat_sum]; omega) hc.2.2.2.2.2.2.2.2.2.1 hc.2.2.2.2.2.2.2.2.2.2 hd (k p l e R s m args below meth c H locs cells slots Z ls hg hc hP hD hS hl)
theorem mabs_s : Cond.static Lib.Math.abs.name ∈ lw_g ∧ Cond.initialized "java/lang/Math" ∈ lw_g ∧ Cond.code Lib.Math.abs.name Lib.Math.abs.code 1 (some .int) ∈ lw_g := ⟨mg (i := 844) (by decide +kernel) rfl, mg (i := 134) (by decide +kernel) rfl, mg (i := 845) (by decide +kernel) rfl⟩
theorem J_mabs {idx : Nat} {x : Int32} (hlink : Cond.methodLink own idx Lib.Math.abs.name ∈ lw_g) (hdc : 1 ≤ d) (hst : (st.map catA).sum ≤ 8) (hd : decode cc pc = .ok (.invokestatic idx, 3)) (k : J ad ca D cc own nL d Γ (pc + 3) lv (vI (if 0 ≤ x then x else 0 - x) :: st) M) : J ad ca D cc own nL d Γ pc lv (vI x :: st) M := by
  intro p l e R s m args below meth c H locs cells slots Z ls hg hc hP hD hS hl
  have hts := hc.2.2.2.2.1
  have hfr := hc.2.2.2.2.2.2.2.2.1
  exact va_mabs hc.1 hc.2.1 (hc.2.2.1.trans hl.1.symm) hc.2.2.2.1 (hts _ hlink) (hts _ mabs_s.1) (hts _ mabs_s.2.1) (hts _ mabs_s.2.2) (by omega) (by rw [cat_sum]; omega) hc.2.2.2.2.2.2.2.2.2.1 hc.2.2.2.2.2.2.2.2.2.2 hd (k p l e R s m args below meth c H locs cells slots Z ls hg hc hP hD hS hl)
end J3
