/-! the flat memory: cells by number, the judgement J over the machine's W, a row an instruction -/
abbrev AV : Type := Int32 ⊕ (Int64 ⊕ Option Nat)
abbrev vI (x : Int32) : AV := .inl x
abbrev vL (x : Int64) : AV := .inr (.inl x)
abbrev vR (r : Option Nat) : AV := .inr (.inr r)
def cv (ad : Nat → Nat) : AV → Value
  | .inl x => .int x
  | .inr (.inl x) => .long x
  | .inr (.inr r) => va_rf (r.map ad)
def catA : AV → Nat
  | .inl _ => 1
  | .inr (.inl _) => 2
  | .inr (.inr _) => 1
theorem catA_ok (ad : Nat → Nat) (v : AV) : (cv ad v).category = catA v := by
  rcases v with x | x | r
  · rfl
  · rfl
  · cases r <;> rfl
def cvl (ad : Nat → Nat) (lv : List (Nat × AV)) : List (Nat × Value) := lv.map (fun q => (q.1, cv ad q.2))
theorem cvl_at {ad : Nat → Nat} {lv : List (Nat × AV)} {k i : Nat} {v : AV} (h : lv[k]? = some (i, v)) : (cvl ad lv)[k]? = some (i, cv ad v) := by
  unfold cvl
  rw [List.getElem?_map, h]
  rfl
abbrev Mem : Type := (Nat → Nat → Int32) × (Nat → Nat → Option Nat)
def up2 {α : Type} (f : Nat → Nat → α) (k i : Nat) (x : α) : Nat → Nat → α := va_up f k (va_up (f k) i x)
theorem up2_ne {α : Type} {f : Nat → Nat → α} {k i j : Nat} {x : α} (h : j ≠ k) : up2 f k i x j = f j := by
  unfold up2 va_up
  rw [if_neg h]
theorem up2_eq {α : Type} {f : Nat → Nat → α} {k i : Nat} {x : α} : up2 f k i x k = va_up (f k) i x := by
  show (if k = k then _ else _) = _
  rw [if_pos rfl]
/-- a cell's shape: an object of a class, or an array of a sort (0 int, 1 boolean, 2 byte, 3 byte[], 4 Sheet) and length -/
abbrev Shp : Type := Nat ⊕ (Nat × Nat)
def shL : List Shp := [.inl 8, .inl 3, .inr (0, 16), .inr (0, 16), .inr (0, 16), .inr (0, 16), .inr (0, 2), .inr (0, 8), .inr (0, 8), .inl 3, .inr (0, 16), .inr (0, 16), .inr (0, 16), .inr (0, 16), .inr (0, 2), .inr (0, 8), .inr (0, 8), .inl 6, .inr (0, 9216), .inr (0, 9216), .inr (0, 9216), .inr (0, 1024), .inr (0, 3776), .inr (0, 3776), .inr (0, 3776), .inr (0, 27), .inr (0, 27), .inr (1, 512), .inl 2, .inr (0, 64), .inr (0, 8), .inl 1, .inr (0, 4096), .inr (0, 4096), .inr (0, 64), .inl 0, .inr (0, 64), .inr (0, 64), .inl 7, .inr (2, 120), .inr (3, 6), .inr (2, 120), .inr (2, 120), .inr (2, 120), .inr (2, 120), .inr (2, 120), .inr (2, 120), .inr (0, 6), .inl 4, .inr (0, 6), .inr (2, 0), .inr (4, 4), .inl 5, .inr (0, 40), .inl 5, .inr (0, 40), .inl 5, .inr (0, 40), .inl 5, .inr (0, 40), .inl 9, .inr (0, 17), .inr (0, 17), .inr (0, 17), .inr (1, 8), .inr (1, 8), .inr (0, 9216), .inr (1, 9216), .inr (0, 8), .inr (0, 384), .inr (0, 4096), .inr (0, 8), .inr (0, 512), .inr (1, 4096), .inr (0, 64), .inr (0, 64), .inr (2, 120), .inr (0, 16), .inr (0, 1920), .inr (0, 121), .inr (1, 7), .inr (0, 121), .inr (0, 4), .inr (0, 4), .inr (0, 160)]
abbrev NC : Nat := 85
def sh (k : Nat) : Option Shp := shL[k]?
theorem sh_lt {k : Nat} {x : Shp} (h : sh k = some x) : k < NC := (List.getElem?_eq_some_iff.mp h).1
def rfT : List (List Bool) := [[false, false, false, false, false, true, true], [false, true, true, true, true, false], [true, false, false, true, true, false], [false, true, true, true, true, true, true, true, false, false, false, false, false], [true, false, false, false, true, false, false, false, false, false, false], [false, false, true], [true, false, false, false, false, true, true, true, false, true, true, true, true, false, false, true, true, true, false], [true, false, true, true, false, false, true], [true, true, true, true, true, true, true, true, false, false], [false, false, false, false, true, true, true, true, true, false, true, true, true, true, true, false, true, true, true, false, false, false, false, false, true, true, true, false, false, false, true, true, false, false, false, false, true, true, false, false, false, false, true, true, true, true]]
def nf (ci : Nat) : Nat := (rfT.getD ci []).length
def isR (ci i : Nat) : Bool := (rfT.getD ci []).getD i false
def fv (ad : Nat → Nat) (M : Mem) (ci k i : Nat) : Value := if isR ci i = true then va_rf ((M.2 k i).map ad) else .int (M.1 k i)
def objF (ad : Nat → Nat) (M : Mem) (k ci : Nat) : List Value := (List.range (nf ci)).map (fv ad M ci k)
def cellOf (ad : Nat → Nat) (ca : Nat → ClassId) (M : Mem) (k : Nat) : Shp → va_E
  | .inl ci => .inr (ci, objF ad M k ci)
  | .inr (t, n) => if t < 3 then .inl (ca t, n, .inl (M.1 k)) else .inl (ca t, n, .inr (.inr (.inr (.inr (fun j => (M.2 k j).map ad)))))
def wsOf (ad : Nat → Nat) (ca : Nat → ClassId) (M : Mem) : va_W := shL.mapIdx (fun k x => (ad k, cellOf ad ca M k x))
theorem ws_get {ad : Nat → Nat} {ca : Nat → ClassId} {M : Mem} {k : Nat} {x : Shp} (h : sh k = some x) : (wsOf ad ca M)[k]? = some (ad k, cellOf ad ca M k x) := by
  unfold wsOf
  rw [List.getElem?_mapIdx, show shL[k]? = some x from h]
  rfl
theorem ws_inv {ad : Nat → Nat} {ca : Nat → ClassId} {M : Mem} {k : Nat} {q : Nat × va_E} (h : (wsOf ad ca M)[k]? = some q) : ∃ x, sh k = some x ∧ q = (ad k, cellOf ad ca M k x) := by
  unfold wsOf at h
  rw [List.getElem?_mapIdx] at h
  cases hx : shL[k]? with
  | none => rw [hx] at h; cases h
  | some x => rw [hx] at h; cases h; exact ⟨x, hx, rfl⟩
theorem cell_cong {ad : Nat → Nat} {ca : Nat → ClassId} {M M' : Mem} {k : Nat} (h1 : M'.1 k = M.1 k) (h2 : M'.2 k = M.2 k) (x : Shp) : cellOf ad ca M' k x = cellOf ad ca M k x := by
  rcases x with ci | ⟨t, n⟩
  · show (Sum.inr (ci, (List.range (nf ci)).map (fv ad M' ci k)) : va_E) = .inr (ci, (List.range (nf ci)).map (fv ad M ci k))
    have e : fv ad M' ci k = fv ad M ci k := by
      funext i
      unfold fv
      rw [h1, h2]
    rw [e]
  · unfold cellOf
    rw [h1, h2]
theorem ws_set {ad : Nat → Nat} {ca : Nat → ClassId} {M M' : Mem} {k : Nat} {x : Shp} {e : va_E} (h : sh k = some x) (he : e = cellOf ad ca M' k x) (h1 : ∀ j, j ≠ k → M'.1 j = M.1 j) (h2 : ∀ j, j ≠ k → M'.2 j = M.2 j) : (wsOf ad ca M).set k (ad k, e) = wsOf ad ca M' := by
  apply List.ext_getElem?
  intro j
  by_cases hj : j = k
  · subst hj
    rw [List.getElem?_set_self (List.getElem?_eq_some_iff.mp (ws_get (ad := ad) (ca := ca) (M := M) h)).1, ws_get h, he]
  · rw [List.getElem?_set_ne (Ne.symm hj)]
    unfold wsOf
    rw [List.getElem?_mapIdx, List.getElem?_mapIdx]
    cases hx : shL[j]? with
    | none => rfl
    | some x => simp only [Option.map_some]; rw [cell_cong (h1 j hj) (h2 j hj)]
/-- the cells that the world may change: all from ad 400 on -/
def AA (ad : Nat → Nat) : Nat → Prop := fun q => ad 400 ≤ q
theorem ws_Dc {A : Nat → Prop} {ad : Nat → Nat} {ca : Nat → ClassId} {M M' : Mem} (h : va_D A (wsOf ad ca M)) : va_D A (wsOf ad ca M') := by
  refine ⟨fun i j p q hi hj e => ?_, fun k q hk => ?_⟩
  · obtain ⟨x, hx, rfl⟩ := ws_inv hi
    obtain ⟨y, hy, rfl⟩ := ws_inv hj
    exact h.1 i j _ _ (ws_get hx) (ws_get hy) e
  · obtain ⟨x, hx, rfl⟩ := ws_inv hk
    exact h.2 k (ad k, cellOf ad ca M k x) (ws_get hx)
def tysOf (ca : Nat → ClassId) : List (ClassId × FieldType) := [(ca 0, .int), (ca 1, .boolean), (ca 2, .byte), (ca 3, .array .byte), (ca 4, .object "WolfVillage$Sheet")]
def tbA : List Int32 := [(-1), (0), (0), (2), (1), (2)]
def tbB : List Int32 := [(0), (0), (1), (2), (0), (1)]
def txW : List Int32 := [119, 111, 110, 32, 97, 108, 108, 32, 108, 111, 110, 103, 101, 115, 116, 32, 112, 117, 122, 122, 108, 101, 115, 32, 119, 97, 121, 115, 32, 116, 117, 114, 110, 105, 110, 103, 115, 32, 103, 114, 97, 100, 101, 32, 102, 97, 105, 114, 32, 111, 114, 32, 97, 110, 100, 32, 110, 111, 116, 32]
def txF : List Int32 := [103, 114, 97, 100, 101, 32, 108, 111, 110, 103, 101, 115, 116, 32, 42, 32, 49, 48, 32, 43, 32, 112, 117, 122, 122, 108, 101, 115, 32, 59, 32, 102, 97, 105, 114, 32, 119, 111, 110, 32, 42, 32, 50, 32, 61, 32, 97, 108, 108, 32, 59]
/-- what stands outside the world: two constant rows, two texts -/
def SC (ad : Nat → Nat) (U : State) (H : Heap) : Prop :=
  va_Z "WolfVillage" "KIND_ABOVE" "[I" (.ref (ad 200)) (AA ad) U H ∧ va_T .int (ad 200) 6 (fun j => .int (tbA.getD j 0)) (AA ad) U H ∧
  va_Z "WolfVillage" "KIND_SHUT_FOR" "[I" (.ref (ad 201)) (AA ad) U H ∧ va_T .int (ad 201) 6 (fun j => .int (tbB.getD j 0)) (AA ad) U H ∧
  vk_S 2 [60, 51] [txW, txF] (fun i => ad (202 + i)) (fun i => ad (204 + i)) (AA ad) U H ∧
  vk_R "WolfVillage$Reader" 84 "won all longest puzzles ways turnings grade fair or and not " (ad 202) U ∧ vk_R "WolfVillage$Texts" 35 "grade longest * 10 + puzzles ; fair won * 2 = all ;" (ad 203) U ∧
  va_Z "java/lang/String" "COMPACT_STRINGS" "Z" (.int 1) (AA ad) U H ∧
  va_Nw (.fieldLinkNest "WolfVillage$Plan" 50 "WolfVillage" "KIND_SHUT_FOR" "[I" "WolfVillage") U ∧
  (∃ q : Option Nat, (∀ c, q = some c → 200 ≤ c) ∧ va_Z "jdk/internal/util/Preconditions" "SIOOBE_FORMATTER" "Ljava/util/function/BiFunction;" (va_rf (q.map ad)) (AA ad) U H)
theorem SC.kept {ad : Nat → Nat} {U : State} {H H1 : Heap} (h : SC ad U H) (hq : ∀ a : Nat, a < H.size → ¬ AA ad a → H1[a]? = H[a]?) : SC ad U H1 := by
  obtain ⟨h1, h2, h3, h4, h5, h6, h7, h8, h9, q, hq0, h10⟩ := h
  exact ⟨h1.kept hq, h2.kept hq, h3.kept hq, h4.kept hq, h5.kept hq, h6, h7, h8.kept hq, h9, q, hq0, h10.kept hq⟩
theorem SC.warm {ad : Nat → Nat} {s U : State} {H : Heap} (hW : s.WarmedH U.vm) (h : SC ad s H) : SC ad U H := by
  obtain ⟨h1, h2, h3, h4, h5, h6, h7, h8, h9, q, hq0, h10⟩ := h
  exact ⟨h1.moved hW.alike, h2.moved hW.alike, h3.moved hW.alike, h4.moved hW.alike, h5.moved hW.alike, h6.warm hW, h7.warm hW, h8.moved hW.alike, va_Nw.warmF hW h9, q, hq0, h10.moved hW.alike⟩
theorem SC.same {ad : Nat → Nat} {u U : State} {H : Heap} (hv : U.vm = u.vm) (h : SC ad u H) : SC ad U H := by
  have hA : u.vm.Alike U.vm := by rw [hv]; exact Vm.Alike.refl _
  obtain ⟨h1, h2, h3, h4, h5, h6, h7, h8, h9, q, hq0, h10⟩ := h
  exact ⟨h1.moved hA, h2.moved hA, h3.moved hA, h4.moved hA, h5.moved hA, h6.same hv, h7.same hv, h8.moved hA, va_Nw.same rfl hv.symm h9, q, hq0, h10.moved hA⟩
abbrev Gm : Type := Program → Launch → Env → Room → State → MethodId → Array Value → List Frame → Method → Code → Nat → Nat → (State → Prop) → Prop
def Cx (ad : Nat → Nat) (ca : Nat → ClassId) (D : va_G) (cc : ByteArray) (own : String) (nL d : Nat) (p : Program) (R : Room) (s : State) (m : MethodId) (args : Array Value) (c : Code) (cells slots : Nat) : Prop :=
  p.tables.exec = Jvm.exec ∧ c.code = cc ∧ c.maxLocals = nL ∧ s.vm.findClass own = some m.cls ∧ (∀ w ∈ lw_g, w.before args s = true) ∧ va_K D vwCl (tysOf ca) s ∧ SC ad s s.heap ∧ True ∧ (d ≤ R.frames ∧ 40 * d ≤ R.locals) ∧ cells ≤ R.cells ∧ slots ≤ R.slots
/-- J: the machine, in the method with code cc at pc, locals lv, stack st, memory M, comes to the end that Γ names -/
def Jg (ad : Nat → Nat) (ca : Nat → ClassId) (D : va_G) (wf : Mem → va_W) (cc : ByteArray) (own : String) (nL d : Nat) (Γ : Gm) (pc : Nat) (lv : List (Nat × AV)) (st : List AV) (M : Mem) : Prop :=
  ∀ (p : Program) (l : Launch) (e : Env) (R : Room) (s : State) (m : MethodId) (args : Array Value) (below : List Frame) (meth : Method) (c : Code) (H : Heap) (locs : List Loc) (cells slots : Nat) (Z : State → Prop) (ls : Array Slot),
    Γ p l e R s m args below meth c cells slots Z → Cx ad ca D cc own nL d p R s m args c cells slots → va_P D vwCl (wf M) H → va_D (AA ad) (wf M) → va_S (AA ad) s.heap H locs → lv_has ls nL (cvl ad lv) →
    W p l e R s m args below meth c H locs cells slots Z (F0 m pc ls (st.map (cv ad)))
abbrev J (ad : Nat → Nat) (ca : Nat → ClassId) (D : va_G) (cc : ByteArray) (own : String) (nL d : Nat) (Γ : Gm) (pc : Nat) (lv : List (Nat × AV)) (st : List AV) (M : Mem) : Prop := Jg ad ca D (wsOf ad ca) cc own nL d Γ pc lv st M
section JR
variable {wf : Mem → va_W} {ad : Nat → Nat} {ca : Nat → ClassId} {D : va_G} {cc : ByteArray} {own : String} {nL d : Nat} {Γ : Gm} {pc : Nat} {lv : List (Nat × AV)} {st : List AV} {M : Mem}
theorem J_iconst {n : Int} {v : Int32} (hv : Int32.ofInt n = v) (hd : decode cc pc = .ok (.iconst n, 1)) (k : Jg ad ca D wf cc own nL d Γ (pc + 1) lv (vI v :: st) M) : Jg ad ca D wf cc own nL d Γ pc lv (st) M := by
  intro p l e R s m args below meth c H locs cells slots Z ls hg hc hP hD hS hl
  exact lv_iconst hc.1 hc.2.1 hd hv (k p l e R s m args below meth c H locs cells slots Z ls hg hc hP hD hS hl)
theorem J_bipush {n : Int} {v : Int32} (hv : (Int8.ofInt n).toInt32 = v) (hd : decode cc pc = .ok (.bipush n, 2)) (k : Jg ad ca D wf cc own nL d Γ (pc + 2) lv (vI v :: st) M) : Jg ad ca D wf cc own nL d Γ pc lv (st) M := by
  intro p l e R s m args below meth c H locs cells slots Z ls hg hc hP hD hS hl
  exact lv_bipush hc.1 hc.2.1 hd hv (k p l e R s m args below meth c H locs cells slots Z ls hg hc hP hD hS hl)
theorem J_sipush {n : Int} {v : Int32} (hv : (Int16.ofInt n).toInt32 = v) (hd : decode cc pc = .ok (.sipush n, 3)) (k : Jg ad ca D wf cc own nL d Γ (pc + 3) lv (vI v :: st) M) : Jg ad ca D wf cc own nL d Γ pc lv (st) M := by
  intro p l e R s m args below meth c H locs cells slots Z ls hg hc hP hD hS hl
  exact lv_sipush hc.1 hc.2.1 hd hv (k p l e R s m args below meth c H locs cells slots Z ls hg hc hP hD hS hl)
theorem J_lconst {n : Fin 2} {v : Int64} (hv : Int64.ofNat (n : Nat) = v) (hd : decode cc pc = .ok (.lconst n, 1)) (k : Jg ad ca D wf cc own nL d Γ (pc + 1) lv (vL v :: st) M) : Jg ad ca D wf cc own nL d Γ pc lv (st) M := by
  intro p l e R s m args below meth c H locs cells slots Z ls hg hc hP hD hS hl
  exact lv_lconst hc.1 hc.2.1 hd hv (k p l e R s m args below meth c H locs cells slots Z ls hg hc hP hD hS hl)
theorem J_iload_n {n : Fin 4} {q i : Nat} {x : Int32} (hi : (n : Nat) = i) (hk : lv[q]? = some (i, vI x)) (hd : decode cc pc = .ok (.iload_n n, 1)) (k : Jg ad ca D wf cc own nL d Γ (pc + 1) lv (vI x :: st) M) : Jg ad ca D wf cc own nL d Γ pc lv (st) M := by
  intro p l e R s m args below meth c H locs cells slots Z ls hg hc hP hD hS hl
  exact lv_iload_n hc.1 hc.2.1 hd hi (lv_at hl q (cvl_at hk)) (k p l e R s m args below meth c H locs cells slots Z ls hg hc hP hD hS hl)
theorem J_iload {q i : Nat} {x : Int32} (hk : lv[q]? = some (i, vI x)) (hd : decode cc pc = .ok (.iload i, 2)) (k : Jg ad ca D wf cc own nL d Γ (pc + 2) lv (vI x :: st) M) : Jg ad ca D wf cc own nL d Γ pc lv (st) M := by
  intro p l e R s m args below meth c H locs cells slots Z ls hg hc hP hD hS hl
  exact lv_iload hc.1 hc.2.1 hd (lv_at hl q (cvl_at hk)) (k p l e R s m args below meth c H locs cells slots Z ls hg hc hP hD hS hl)
theorem J_lload_n {n : Fin 4} {q i : Nat} {x : Int64} (hi : (n : Nat) = i) (hk : lv[q]? = some (i, vL x)) (hd : decode cc pc = .ok (.lload_n n, 1)) (k : Jg ad ca D wf cc own nL d Γ (pc + 1) lv (vL x :: st) M) : Jg ad ca D wf cc own nL d Γ pc lv (st) M := by
  intro p l e R s m args below meth c H locs cells slots Z ls hg hc hP hD hS hl
  exact lv_lload_n hc.1 hc.2.1 hd hi (lv_at hl q (cvl_at hk)) (k p l e R s m args below meth c H locs cells slots Z ls hg hc hP hD hS hl)
theorem J_lload {q i : Nat} {x : Int64} (hk : lv[q]? = some (i, vL x)) (hd : decode cc pc = .ok (.lload i, 2)) (k : Jg ad ca D wf cc own nL d Γ (pc + 2) lv (vL x :: st) M) : Jg ad ca D wf cc own nL d Γ pc lv (st) M := by
  intro p l e R s m args below meth c H locs cells slots Z ls hg hc hP hD hS hl
  exact lv_lload hc.1 hc.2.1 hd (lv_at hl q (cvl_at hk)) (k p l e R s m args below meth c H locs cells slots Z ls hg hc hP hD hS hl)
theorem J_aload_n {n : Fin 4} {q i : Nat} {r : Option Nat} (hi : (n : Nat) = i) (hk : lv[q]? = some (i, vR r)) (hd : decode cc pc = .ok (.aload_n n, 1)) (k : Jg ad ca D wf cc own nL d Γ (pc + 1) lv (vR r :: st) M) : Jg ad ca D wf cc own nL d Γ pc lv st M := by
  intro p l e R s m args below meth c H locs cells slots Z ls hg hc hP hD hS hl
  have hz := lv_at hl q (cvl_at hk)
  have hk := k p l e R s m args below meth c H locs cells slots Z ls hg hc hP hD hS hl
  cases r with
  | none => exact lv_aload_nN hc.1 hc.2.1 hd hi hz hk
  | some x => exact lv_aload_n hc.1 hc.2.1 hd hi hz hk
theorem J_aload {q i : Nat} {r : Option Nat} (hk : lv[q]? = some (i, vR r)) (hd : decode cc pc = .ok (.aload i, 2)) (k : Jg ad ca D wf cc own nL d Γ (pc + 2) lv (vR r :: st) M) : Jg ad ca D wf cc own nL d Γ pc lv st M := by
  intro p l e R s m args below meth c H locs cells slots Z ls hg hc hP hD hS hl
  have hz := lv_at hl q (cvl_at hk)
  have hk := k p l e R s m args below meth c H locs cells slots Z ls hg hc hP hD hS hl
  cases r with
  | none => exact lv_aloadN hc.1 hc.2.1 hd hz hk
  | some x => exact lv_aload hc.1 hc.2.1 hd hz hk
theorem J_iadd {x y : Int32}  (hd : decode cc pc = .ok (.iadd, 1)) (k : Jg ad ca D wf cc own nL d Γ (pc + 1) lv (vI (x + y) :: st) M) : Jg ad ca D wf cc own nL d Γ pc lv (vI y :: vI x :: st) M := by
  intro p l e R s m args below meth c H locs cells slots Z ls hg hc hP hD hS hl
  exact lv_iadd hc.1 hc.2.1 hd (k p l e R s m args below meth c H locs cells slots Z ls hg hc hP hD hS hl)
theorem J_isub {x y : Int32}  (hd : decode cc pc = .ok (.isub, 1)) (k : Jg ad ca D wf cc own nL d Γ (pc + 1) lv (vI (x - y) :: st) M) : Jg ad ca D wf cc own nL d Γ pc lv (vI y :: vI x :: st) M := by
  intro p l e R s m args below meth c H locs cells slots Z ls hg hc hP hD hS hl
  exact lv_isub hc.1 hc.2.1 hd (k p l e R s m args below meth c H locs cells slots Z ls hg hc hP hD hS hl)
theorem J_imul {x y : Int32}  (hd : decode cc pc = .ok (.imul, 1)) (k : Jg ad ca D wf cc own nL d Γ (pc + 1) lv (vI (x * y) :: st) M) : Jg ad ca D wf cc own nL d Γ pc lv (vI y :: vI x :: st) M := by
  intro p l e R s m args below meth c H locs cells slots Z ls hg hc hP hD hS hl
  exact lv_imul hc.1 hc.2.1 hd (k p l e R s m args below meth c H locs cells slots Z ls hg hc hP hD hS hl)
theorem J_iand {x y : Int32}  (hd : decode cc pc = .ok (.iand, 1)) (k : Jg ad ca D wf cc own nL d Γ (pc + 1) lv (vI (x &&& y) :: st) M) : Jg ad ca D wf cc own nL d Γ pc lv (vI y :: vI x :: st) M := by
  intro p l e R s m args below meth c H locs cells slots Z ls hg hc hP hD hS hl
  exact lv_iand hc.1 hc.2.1 hd (k p l e R s m args below meth c H locs cells slots Z ls hg hc hP hD hS hl)
theorem J_ior {x y : Int32}  (hd : decode cc pc = .ok (.ior, 1)) (k : Jg ad ca D wf cc own nL d Γ (pc + 1) lv (vI (x ||| y) :: st) M) : Jg ad ca D wf cc own nL d Γ pc lv (vI y :: vI x :: st) M := by
  intro p l e R s m args below meth c H locs cells slots Z ls hg hc hP hD hS hl
  exact lv_ior hc.1 hc.2.1 hd (k p l e R s m args below meth c H locs cells slots Z ls hg hc hP hD hS hl)
theorem J_ixor {x y : Int32}  (hd : decode cc pc = .ok (.ixor, 1)) (k : Jg ad ca D wf cc own nL d Γ (pc + 1) lv (vI (x ^^^ y) :: st) M) : Jg ad ca D wf cc own nL d Γ pc lv (vI y :: vI x :: st) M := by
  intro p l e R s m args below meth c H locs cells slots Z ls hg hc hP hD hS hl
  exact lv_ixor hc.1 hc.2.1 hd (k p l e R s m args below meth c H locs cells slots Z ls hg hc hP hD hS hl)
theorem J_ishl {x y : Int32}  (hd : decode cc pc = .ok (.ishl, 1)) (k : Jg ad ca D wf cc own nL d Γ (pc + 1) lv (vI (x <<< (y &&& 31)) :: st) M) : Jg ad ca D wf cc own nL d Γ pc lv (vI y :: vI x :: st) M := by
  intro p l e R s m args below meth c H locs cells slots Z ls hg hc hP hD hS hl
  exact lv_ishl hc.1 hc.2.1 hd (k p l e R s m args below meth c H locs cells slots Z ls hg hc hP hD hS hl)
theorem J_ishr {x y : Int32}  (hd : decode cc pc = .ok (.ishr, 1)) (k : Jg ad ca D wf cc own nL d Γ (pc + 1) lv (vI (x >>> (y &&& 31)) :: st) M) : Jg ad ca D wf cc own nL d Γ pc lv (vI y :: vI x :: st) M := by
  intro p l e R s m args below meth c H locs cells slots Z ls hg hc hP hD hS hl
  exact lv_ishr hc.1 hc.2.1 hd (k p l e R s m args below meth c H locs cells slots Z ls hg hc hP hD hS hl)
theorem J_idiv {x y : Int32} (hne : ¬ y = 0) (hd : decode cc pc = .ok (.idiv, 1)) (k : Jg ad ca D wf cc own nL d Γ (pc + 1) lv (vI (x / y) :: st) M) : Jg ad ca D wf cc own nL d Γ pc lv (vI y :: vI x :: st) M := by
  intro p l e R s m args below meth c H locs cells slots Z ls hg hc hP hD hS hl
  exact lv_idiv hc.1 hc.2.1 hd hne (k p l e R s m args below meth c H locs cells slots Z ls hg hc hP hD hS hl)
theorem J_irem {x y : Int32} (hne : ¬ y = 0) (hd : decode cc pc = .ok (.irem, 1)) (k : Jg ad ca D wf cc own nL d Γ (pc + 1) lv (vI (x - x / y * y) :: st) M) : Jg ad ca D wf cc own nL d Γ pc lv (vI y :: vI x :: st) M := by
  intro p l e R s m args below meth c H locs cells slots Z ls hg hc hP hD hS hl
  exact lv_irem hc.1 hc.2.1 hd hne (k p l e R s m args below meth c H locs cells slots Z ls hg hc hP hD hS hl)
theorem J_ineg {x : Int32}  (hd : decode cc pc = .ok (.ineg, 1)) (k : Jg ad ca D wf cc own nL d Γ (pc + 1) lv (vI (-x) :: st) M) : Jg ad ca D wf cc own nL d Γ pc lv (vI x :: st) M := by
  intro p l e R s m args below meth c H locs cells slots Z ls hg hc hP hD hS hl
  exact lv_ineg hc.1 hc.2.1 hd (k p l e R s m args below meth c H locs cells slots Z ls hg hc hP hD hS hl)
theorem J_land {x y : Int64}  (hd : decode cc pc = .ok (.land, 1)) (k : Jg ad ca D wf cc own nL d Γ (pc + 1) lv (vL (x &&& y) :: st) M) : Jg ad ca D wf cc own nL d Γ pc lv (vL y :: vL x :: st) M := by
  intro p l e R s m args below meth c H locs cells slots Z ls hg hc hP hD hS hl
  exact lv_land hc.1 hc.2.1 hd (k p l e R s m args below meth c H locs cells slots Z ls hg hc hP hD hS hl)
theorem J_lor {x y : Int64}  (hd : decode cc pc = .ok (.lor, 1)) (k : Jg ad ca D wf cc own nL d Γ (pc + 1) lv (vL (x ||| y) :: st) M) : Jg ad ca D wf cc own nL d Γ pc lv (vL y :: vL x :: st) M := by
  intro p l e R s m args below meth c H locs cells slots Z ls hg hc hP hD hS hl
  exact lv_lor hc.1 hc.2.1 hd (k p l e R s m args below meth c H locs cells slots Z ls hg hc hP hD hS hl)
theorem J_lshr {x : Int64} {y : Int32}  (hd : decode cc pc = .ok (.lshr, 1)) (k : Jg ad ca D wf cc own nL d Γ (pc + 1) lv (vL (x >>> (y.toInt64 &&& 63)) :: st) M) : Jg ad ca D wf cc own nL d Γ pc lv (vI y :: vL x :: st) M := by
  intro p l e R s m args below meth c H locs cells slots Z ls hg hc hP hD hS hl
  exact lv_lshr hc.1 hc.2.1 hd rfl (k p l e R s m args below meth c H locs cells slots Z ls hg hc hP hD hS hl)
theorem J_lshl {x : Int64} {y : Int32}  (hd : decode cc pc = .ok (.lshl, 1)) (k : Jg ad ca D wf cc own nL d Γ (pc + 1) lv (vL (x <<< (y.toInt64 &&& 63)) :: st) M) : Jg ad ca D wf cc own nL d Γ pc lv (vI y :: vL x :: st) M := by
  intro p l e R s m args below meth c H locs cells slots Z ls hg hc hP hD hS hl
  exact lv_lshl hc.1 hc.2.1 hd rfl (k p l e R s m args below meth c H locs cells slots Z ls hg hc hP hD hS hl)
theorem J_i2l {x : Int32}  (hd : decode cc pc = .ok (.i2l, 1)) (k : Jg ad ca D wf cc own nL d Γ (pc + 1) lv (vL x.toInt64 :: st) M) : Jg ad ca D wf cc own nL d Γ pc lv (vI x :: st) M := by
  intro p l e R s m args below meth c H locs cells slots Z ls hg hc hP hD hS hl
  exact lv_i2l hc.1 hc.2.1 hd rfl (k p l e R s m args below meth c H locs cells slots Z ls hg hc hP hD hS hl)
theorem J_l2i {x : Int64}  (hd : decode cc pc = .ok (.l2i, 1)) (k : Jg ad ca D wf cc own nL d Γ (pc + 1) lv (vI x.toInt32 :: st) M) : Jg ad ca D wf cc own nL d Γ pc lv (vL x :: st) M := by
  intro p l e R s m args below meth c H locs cells slots Z ls hg hc hP hD hS hl
  exact lv_l2i hc.1 hc.2.1 hd rfl (k p l e R s m args below meth c H locs cells slots Z ls hg hc hP hD hS hl)
theorem J_i2b {x : Int32}  (hd : decode cc pc = .ok (.i2b, 1)) (k : Jg ad ca D wf cc own nL d Γ (pc + 1) lv (vI x.toInt8.toInt32 :: st) M) : Jg ad ca D wf cc own nL d Γ pc lv (vI x :: st) M := by
  intro p l e R s m args below meth c H locs cells slots Z ls hg hc hP hD hS hl
  exact lv_i2b hc.1 hc.2.1 hd rfl (k p l e R s m args below meth c H locs cells slots Z ls hg hc hP hD hS hl)
theorem J_i2s {x : Int32}  (hd : decode cc pc = .ok (.i2s, 1)) (k : Jg ad ca D wf cc own nL d Γ (pc + 1) lv (vI x.toInt16.toInt32 :: st) M) : Jg ad ca D wf cc own nL d Γ pc lv (vI x :: st) M := by
  intro p l e R s m args below meth c H locs cells slots Z ls hg hc hP hD hS hl
  exact lv_i2s hc.1 hc.2.1 hd rfl (k p l e R s m args below meth c H locs cells slots Z ls hg hc hP hD hS hl)
theorem J_dup {v : AV} (hv : catA v = 1) (hd : decode cc pc = .ok (.dup, 1)) (k : Jg ad ca D wf cc own nL d Γ (pc + 1) lv (v :: v :: st) M) : Jg ad ca D wf cc own nL d Γ pc lv (v :: st) M := by
  intro p l e R s m args below meth c H locs cells slots Z ls hg hc hP hD hS hl
  exact lv_dup hc.1 hc.2.1 hd ((catA_ok ad v).trans hv) (k p l e R s m args below meth c H locs cells slots Z ls hg hc hP hD hS hl)
theorem J_pop {v : AV} (hv : catA v = 1) (hd : decode cc pc = .ok (.pop, 1)) (k : Jg ad ca D wf cc own nL d Γ (pc + 1) lv (st) M) : Jg ad ca D wf cc own nL d Γ pc lv (v :: st) M := by
  intro p l e R s m args below meth c H locs cells slots Z ls hg hc hP hD hS hl
  exact lv_pop hc.1 hc.2.1 hd ((catA_ok ad v).trans hv) (k p l e R s m args below meth c H locs cells slots Z ls hg hc hP hD hS hl)
theorem J_dup_x1 {v u : AV} (hv : catA v = 1) (hu : catA u = 1) (hd : decode cc pc = .ok (.dup_x1, 1)) (k : Jg ad ca D wf cc own nL d Γ (pc + 1) lv (v :: u :: v :: st) M) : Jg ad ca D wf cc own nL d Γ pc lv (v :: u :: st) M := by
  intro p l e R s m args below meth c H locs cells slots Z ls hg hc hP hD hS hl
  exact lv_dup_x1 hc.1 hc.2.1 hd ((catA_ok ad v).trans hv) ((catA_ok ad u).trans hu) (k p l e R s m args below meth c H locs cells slots Z ls hg hc hP hD hS hl)
theorem J_dup2 {v u : AV} (hv : catA v = 1) (hu : catA u = 1) (hd : decode cc pc = .ok (.dup2, 1)) (k : Jg ad ca D wf cc own nL d Γ (pc + 1) lv (v :: u :: v :: u :: st) M) : Jg ad ca D wf cc own nL d Γ pc lv (v :: u :: st) M := by
  intro p l e R s m args below meth c H locs cells slots Z ls hg hc hP hD hS hl
  exact lv_dup2_11 hc.1 hc.2.1 hd ((catA_ok ad v).trans hv) ((catA_ok ad u).trans hu) (k p l e R s m args below meth c H locs cells slots Z ls hg hc hP hD hS hl)
theorem J_ldc {i : Nat} {v : Int32} (hw : Cond.constant own i v ∈ lw_g) (hd : decode cc pc = .ok (.ldc i, 2)) (k : Jg ad ca D wf cc own nL d Γ (pc + 2) lv (vI v :: st) M) : Jg ad ca D wf cc own nL d Γ pc lv (st) M := by
  intro p l e R s m args below meth c H locs cells slots Z ls hg hc hP hD hS hl
  exact lv_ldc hc.1 hc.2.1 hc.2.2.2.1 (hc.2.2.2.2.1 _ hw) hd (k p l e R s m args below meth c H locs cells slots Z ls hg hc hP hD hS hl)
theorem J_ldc2 {i : Nat} {v : Int64} (hw : Cond.constantLong own i v ∈ lw_g) (hd : decode cc pc = .ok (.ldc2_w i, 3)) (k : Jg ad ca D wf cc own nL d Γ (pc + 3) lv (vL v :: st) M) : Jg ad ca D wf cc own nL d Γ pc lv (st) M := by
  intro p l e R s m args below meth c H locs cells slots Z ls hg hc hP hD hS hl
  exact lv_ldc2 hc.1 hc.2.1 hc.2.2.2.1 (hc.2.2.2.2.1 _ hw) hd (k p l e R s m args below meth c H locs cells slots Z ls hg hc hP hD hS hl)
def stA (lv : List (Nat × AV)) (i : Nat) (v : AV) : List (Nat × AV) := lv.filter (fun q => !(q.1 == i) && !(q.1 + 1 == i && catA q.2 == 2)) ++ [(i, v)]
def stL (lv : List (Nat × AV)) (i : Nat) (v : AV) : List (Nat × AV) := lv.filter (fun q => !(q.1 == i) && (!(q.1 == i + 1) && !(q.1 + 1 == i && catA q.2 == 2))) ++ [(i, v)]
theorem cvl_filter (ad : Nat → Nat) (lv : List (Nat × AV)) (g : Nat → Nat → Bool) : (cvl ad lv).filter (fun q => g q.1 q.2.category) = cvl ad (lv.filter (fun q => g q.1 (catA q.2))) := by
  induction lv with
  | nil => rfl
  | cons q t ih =>
    have e : (cv ad q.2).category = catA q.2 := catA_ok ad q.2
    simp only [cvl, List.map_cons, List.filter_cons] at ih ⊢
    rw [e]
    cases g q.1 (catA q.2)
    · simpa using ih
    · simpa using ih
theorem has_swap {ad : Nat → Nat} {ls : Array Slot} {i : Nat} {v : AV} {l : List (Nat × AV)} (h : lv_has ls nL ((i, cv ad v) :: cvl ad l)) : lv_has ls nL (cvl ad (l ++ [(i, v)])) := by
  refine ⟨h.1, h.2.1, fun q hq => h.2.2 q ?_⟩
  unfold cvl at hq ⊢
  rw [List.map_append, List.mem_append] at hq
  rcases hq with hq | hq
  · exact List.mem_cons_of_mem _ hq
  · rw [List.map_cons, List.map_nil, List.mem_singleton] at hq
    rw [hq]
    exact List.mem_cons_self
theorem J_istore_n {n : Fin 4} {i : Nat} {x : Int32} {lv' : List (Nat × AV)} (hi : (n : Nat) = i) (hn : i < nL) (hl' : stA lv i (vI x) = lv') (hd : decode cc pc = .ok (.istore_n n, 1)) (k : Jg ad ca D wf cc own nL d Γ (pc + 1) lv' st M) : Jg ad ca D wf cc own nL d Γ pc lv (vI x :: st) M := by
  intro p l e R s m args below meth c H locs cells slots Z ls hg hc hP hD hS hl
  subst hl'
  exact lv_istore_n (lv := cvl ad lv) hc.1 hc.2.1 hd hi hl hn (congrArg _ (cvl_filter ad lv (fun a b => !(a == i) && !(a + 1 == i && b == 2)))) (fun ls' hl' => k p l e R s m args below meth c H locs cells slots Z ls' hg hc hP hD hS (has_swap hl'))
theorem J_istore {i : Nat} {x : Int32} {lv' : List (Nat × AV)} (hn : i < nL) (hl' : stA lv i (vI x) = lv') (hd : decode cc pc = .ok (.istore i, 2)) (k : Jg ad ca D wf cc own nL d Γ (pc + 2) lv' st M) : Jg ad ca D wf cc own nL d Γ pc lv (vI x :: st) M := by
  intro p l e R s m args below meth c H locs cells slots Z ls hg hc hP hD hS hl
  subst hl'
  exact lv_istore (lv := cvl ad lv) hc.1 hc.2.1 hd hl hn (congrArg _ (cvl_filter ad lv (fun a b => !(a == i) && !(a + 1 == i && b == 2)))) (fun ls' hl' => k p l e R s m args below meth c H locs cells slots Z ls' hg hc hP hD hS (has_swap hl'))
theorem J_lstore_n {n : Fin 4} {i : Nat} {x : Int64} {lv' : List (Nat × AV)} (hi : (n : Nat) = i) (hn : i + 1 < nL) (hl' : stL lv i (vL x) = lv') (hd : decode cc pc = .ok (.lstore_n n, 1)) (k : Jg ad ca D wf cc own nL d Γ (pc + 1) lv' st M) : Jg ad ca D wf cc own nL d Γ pc lv (vL x :: st) M := by
  intro p l e R s m args below meth c H locs cells slots Z ls hg hc hP hD hS hl
  subst hl'
  exact lv_lstore_n (lv := cvl ad lv) hc.1 hc.2.1 hd hi hl hn (congrArg _ (cvl_filter ad lv (fun a b => !(a == i) && (!(a == i + 1) && !(a + 1 == i && b == 2))))) (fun ls' hl' => k p l e R s m args below meth c H locs cells slots Z ls' hg hc hP hD hS (has_swap hl'))
theorem J_lstore {i : Nat} {x : Int64} {lv' : List (Nat × AV)} (hn : i + 1 < nL) (hl' : stL lv i (vL x) = lv') (hd : decode cc pc = .ok (.lstore i, 2)) (k : Jg ad ca D wf cc own nL d Γ (pc + 2) lv' st M) : Jg ad ca D wf cc own nL d Γ pc lv (vL x :: st) M := by
  intro p l e R s m args below meth c H locs cells slots Z ls hg hc hP hD hS hl
  subst hl'
  exact lv_lstore (lv := cvl ad lv) hc.1 hc.2.1 hd hl hn (congrArg _ (cvl_filter ad lv (fun a b => !(a == i) && (!(a == i + 1) && !(a + 1 == i && b == 2))))) (fun ls' hl' => k p l e R s m args below meth c H locs cells slots Z ls' hg hc hP hD hS (has_swap hl'))
theorem J_astore_n {n : Fin 4} {i : Nat} {r : Option Nat} {lv' : List (Nat × AV)} (hi : (n : Nat) = i) (hn : i < nL) (hl' : stA lv i (vR r) = lv') (hd : decode cc pc = .ok (.astore_n n, 1)) (k : Jg ad ca D wf cc own nL d Γ (pc + 1) lv' st M) : Jg ad ca D wf cc own nL d Γ pc lv (vR r :: st) M := by
  intro p l e R s m args below meth c H locs cells slots Z ls hg hc hP hD hS hl
  subst hl'
  cases r with
  | none => exact lv_astore_nN (lv := cvl ad lv) hc.1 hc.2.1 hd hi hl hn (congrArg _ (cvl_filter ad lv (fun a b => !(a == i) && !(a + 1 == i && b == 2)))) (fun ls' hl' => k p l e R s m args below meth c H locs cells slots Z ls' hg hc hP hD hS (has_swap (v := vR none) hl'))
  | some x => exact lv_astore_n (lv := cvl ad lv) hc.1 hc.2.1 hd hi hl hn (congrArg _ (cvl_filter ad lv (fun a b => !(a == i) && !(a + 1 == i && b == 2)))) (fun ls' hl' => k p l e R s m args below meth c H locs cells slots Z ls' hg hc hP hD hS (has_swap (v := vR (some x)) hl'))
theorem J_astore {i : Nat} {r : Option Nat} {lv' : List (Nat × AV)} (hn : i < nL) (hl' : stA lv i (vR r) = lv') (hd : decode cc pc = .ok (.astore i, 2)) (k : Jg ad ca D wf cc own nL d Γ (pc + 2) lv' st M) : Jg ad ca D wf cc own nL d Γ pc lv (vR r :: st) M := by
  intro p l e R s m args below meth c H locs cells slots Z ls hg hc hP hD hS hl
  subst hl'
  cases r with
  | none => exact lv_astoreN (lv := cvl ad lv) hc.1 hc.2.1 hd hl hn (congrArg _ (cvl_filter ad lv (fun a b => !(a == i) && !(a + 1 == i && b == 2)))) (fun ls' hl' => k p l e R s m args below meth c H locs cells slots Z ls' hg hc hP hD hS (has_swap (v := vR none) hl'))
  | some x => exact lv_astore (lv := cvl ad lv) hc.1 hc.2.1 hd hl hn (congrArg _ (cvl_filter ad lv (fun a b => !(a == i) && !(a + 1 == i && b == 2)))) (fun ls' hl' => k p l e R s m args below meth c H locs cells slots Z ls' hg hc hP hD hS (has_swap (v := vR (some x)) hl'))
theorem J_iinc {q i : Nat} {n : Int} {x v : Int32} {lv' : List (Nat × AV)} (hk : lv[q]? = some (i, vI x)) (hv : x + Int32.ofInt n = v) (hn : i < nL) (hl' : stA lv i (vI v) = lv') (hd : decode cc pc = .ok (.iinc i n, 3)) (k : Jg ad ca D wf cc own nL d Γ (pc + 3) lv' st M) : Jg ad ca D wf cc own nL d Γ pc lv st M := by
  intro p l e R s m args below meth c H locs cells slots Z ls hg hc hP hD hS hl
  subst hl'
  exact lv_iinc (lv := cvl ad lv) (k := q) hc.1 hc.2.1 hd hl (cvl_at hk) hv hn (congrArg _ (cvl_filter ad lv (fun a b => !(a == i) && !(a + 1 == i && b == 2)))) (fun ls' hl' => k p l e R s m args below meth c H locs cells slots Z ls' hg hc hP hD hS (has_swap (v := vI v) hl'))
theorem J_ifeq {x : Int32} {off : Int} {tgt : Nat} (ht : (pc : Int) + off = (tgt : Int)) (hd : decode cc pc = .ok (.ifCond .eq off, 3)) (kt : x = 0 → Jg ad ca D wf cc own nL d Γ tgt lv st M) (kf : ¬ (x = 0) → Jg ad ca D wf cc own nL d Γ (pc + 3) lv st M) : Jg ad ca D wf cc own nL d Γ pc lv (vI x :: st) M := by
  intro p l e R s m args below meth c H locs cells slots Z ls hg hc hP hD hS hl
  exact lv_if_eq hc.1 hc.2.1 hd ht (fun q => kt (by first | exact q | exact of_not_not q | exact Int32.not_lt.mp q | exact Int32.not_le.mp q) p l e R s m args below meth c H locs cells slots Z ls hg hc hP hD hS hl) (fun q => kf (by first | exact q | exact fun z => z q | exact fun z => q z) p l e R s m args below meth c H locs cells slots Z ls hg hc hP hD hS hl)
theorem J_ifne {x : Int32} {off : Int} {tgt : Nat} (ht : (pc : Int) + off = (tgt : Int)) (hd : decode cc pc = .ok (.ifCond .ne off, 3)) (kt : ¬ x = 0 → Jg ad ca D wf cc own nL d Γ tgt lv st M) (kf : ¬ (¬ x = 0) → Jg ad ca D wf cc own nL d Γ (pc + 3) lv st M) : Jg ad ca D wf cc own nL d Γ pc lv (vI x :: st) M := by
  intro p l e R s m args below meth c H locs cells slots Z ls hg hc hP hD hS hl
  exact lv_if_ne hc.1 hc.2.1 hd ht (fun q => kt (by first | exact q | exact of_not_not q | exact Int32.not_lt.mp q | exact Int32.not_le.mp q) p l e R s m args below meth c H locs cells slots Z ls hg hc hP hD hS hl) (fun q => kf (by first | exact q | exact fun z => z q | exact fun z => q z) p l e R s m args below meth c H locs cells slots Z ls hg hc hP hD hS hl)
theorem J_iflt {x : Int32} {off : Int} {tgt : Nat} (ht : (pc : Int) + off = (tgt : Int)) (hd : decode cc pc = .ok (.ifCond .lt off, 3)) (kt : x < 0 → Jg ad ca D wf cc own nL d Γ tgt lv st M) (kf : ¬ (x < 0) → Jg ad ca D wf cc own nL d Γ (pc + 3) lv st M) : Jg ad ca D wf cc own nL d Γ pc lv (vI x :: st) M := by
  intro p l e R s m args below meth c H locs cells slots Z ls hg hc hP hD hS hl
  exact lv_if_lt hc.1 hc.2.1 hd ht (fun q => kt (by first | exact q | exact of_not_not q | exact Int32.not_lt.mp q | exact Int32.not_le.mp q) p l e R s m args below meth c H locs cells slots Z ls hg hc hP hD hS hl) (fun q => kf (by first | exact q | exact fun z => z q | exact fun z => q z) p l e R s m args below meth c H locs cells slots Z ls hg hc hP hD hS hl)
theorem J_ifge {x : Int32} {off : Int} {tgt : Nat} (ht : (pc : Int) + off = (tgt : Int)) (hd : decode cc pc = .ok (.ifCond .ge off, 3)) (kt : 0 ≤ x → Jg ad ca D wf cc own nL d Γ tgt lv st M) (kf : ¬ (0 ≤ x) → Jg ad ca D wf cc own nL d Γ (pc + 3) lv st M) : Jg ad ca D wf cc own nL d Γ pc lv (vI x :: st) M := by
  intro p l e R s m args below meth c H locs cells slots Z ls hg hc hP hD hS hl
  exact lv_if_ge hc.1 hc.2.1 hd ht (fun q => kt (by first | exact q | exact of_not_not q | exact Int32.not_lt.mp q | exact Int32.not_le.mp q) p l e R s m args below meth c H locs cells slots Z ls hg hc hP hD hS hl) (fun q => kf (by first | exact q | exact fun z => z q | exact fun z => q z) p l e R s m args below meth c H locs cells slots Z ls hg hc hP hD hS hl)
theorem J_ifgt {x : Int32} {off : Int} {tgt : Nat} (ht : (pc : Int) + off = (tgt : Int)) (hd : decode cc pc = .ok (.ifCond .gt off, 3)) (kt : 0 < x → Jg ad ca D wf cc own nL d Γ tgt lv st M) (kf : ¬ (0 < x) → Jg ad ca D wf cc own nL d Γ (pc + 3) lv st M) : Jg ad ca D wf cc own nL d Γ pc lv (vI x :: st) M := by
  intro p l e R s m args below meth c H locs cells slots Z ls hg hc hP hD hS hl
  exact lv_if_gt hc.1 hc.2.1 hd ht (fun q => kt (by first | exact q | exact of_not_not q | exact Int32.not_lt.mp q | exact Int32.not_le.mp q) p l e R s m args below meth c H locs cells slots Z ls hg hc hP hD hS hl) (fun q => kf (by first | exact q | exact fun z => z q | exact fun z => q z) p l e R s m args below meth c H locs cells slots Z ls hg hc hP hD hS hl)
theorem J_ifle {x : Int32} {off : Int} {tgt : Nat} (ht : (pc : Int) + off = (tgt : Int)) (hd : decode cc pc = .ok (.ifCond .le off, 3)) (kt : x ≤ 0 → Jg ad ca D wf cc own nL d Γ tgt lv st M) (kf : ¬ (x ≤ 0) → Jg ad ca D wf cc own nL d Γ (pc + 3) lv st M) : Jg ad ca D wf cc own nL d Γ pc lv (vI x :: st) M := by
  intro p l e R s m args below meth c H locs cells slots Z ls hg hc hP hD hS hl
  exact lv_if_le hc.1 hc.2.1 hd ht (fun q => kt (by first | exact q | exact of_not_not q | exact Int32.not_lt.mp q | exact Int32.not_le.mp q) p l e R s m args below meth c H locs cells slots Z ls hg hc hP hD hS hl) (fun q => kf (by first | exact q | exact fun z => z q | exact fun z => q z) p l e R s m args below meth c H locs cells slots Z ls hg hc hP hD hS hl)
theorem J_iceq {x y : Int32} {off : Int} {tgt : Nat} (ht : (pc : Int) + off = (tgt : Int)) (hd : decode cc pc = .ok (.if_icmp .eq off, 3)) (kt : x = y → Jg ad ca D wf cc own nL d Γ tgt lv st M) (kf : ¬ (x = y) → Jg ad ca D wf cc own nL d Γ (pc + 3) lv st M) : Jg ad ca D wf cc own nL d Γ pc lv (vI y :: vI x :: st) M := by
  intro p l e R s m args below meth c H locs cells slots Z ls hg hc hP hD hS hl
  exact lv_icmp_eq hc.1 hc.2.1 hd ht (fun q => kt (by first | exact q | exact of_not_not q | exact Int32.not_lt.mp q | exact Int32.not_le.mp q) p l e R s m args below meth c H locs cells slots Z ls hg hc hP hD hS hl) (fun q => kf (by first | exact q | exact fun z => z q | exact fun z => q z) p l e R s m args below meth c H locs cells slots Z ls hg hc hP hD hS hl)
theorem J_icne {x y : Int32} {off : Int} {tgt : Nat} (ht : (pc : Int) + off = (tgt : Int)) (hd : decode cc pc = .ok (.if_icmp .ne off, 3)) (kt : ¬ x = y → Jg ad ca D wf cc own nL d Γ tgt lv st M) (kf : ¬ (¬ x = y) → Jg ad ca D wf cc own nL d Γ (pc + 3) lv st M) : Jg ad ca D wf cc own nL d Γ pc lv (vI y :: vI x :: st) M := by
  intro p l e R s m args below meth c H locs cells slots Z ls hg hc hP hD hS hl
  exact lv_icmp_ne hc.1 hc.2.1 hd ht (fun q => kt (by first | exact q | exact of_not_not q | exact Int32.not_lt.mp q | exact Int32.not_le.mp q) p l e R s m args below meth c H locs cells slots Z ls hg hc hP hD hS hl) (fun q => kf (by first | exact q | exact fun z => z q | exact fun z => q z) p l e R s m args below meth c H locs cells slots Z ls hg hc hP hD hS hl)
theorem J_iclt {x y : Int32} {off : Int} {tgt : Nat} (ht : (pc : Int) + off = (tgt : Int)) (hd : decode cc pc = .ok (.if_icmp .lt off, 3)) (kt : x < y → Jg ad ca D wf cc own nL d Γ tgt lv st M) (kf : ¬ (x < y) → Jg ad ca D wf cc own nL d Γ (pc + 3) lv st M) : Jg ad ca D wf cc own nL d Γ pc lv (vI y :: vI x :: st) M := by
  intro p l e R s m args below meth c H locs cells slots Z ls hg hc hP hD hS hl
  exact lv_icmp_lt hc.1 hc.2.1 hd ht (fun q => kt (by first | exact q | exact of_not_not q | exact Int32.not_lt.mp q | exact Int32.not_le.mp q) p l e R s m args below meth c H locs cells slots Z ls hg hc hP hD hS hl) (fun q => kf (by first | exact q | exact fun z => z q | exact fun z => q z) p l e R s m args below meth c H locs cells slots Z ls hg hc hP hD hS hl)
theorem J_icge {x y : Int32} {off : Int} {tgt : Nat} (ht : (pc : Int) + off = (tgt : Int)) (hd : decode cc pc = .ok (.if_icmp .ge off, 3)) (kt : y ≤ x → Jg ad ca D wf cc own nL d Γ tgt lv st M) (kf : ¬ (y ≤ x) → Jg ad ca D wf cc own nL d Γ (pc + 3) lv st M) : Jg ad ca D wf cc own nL d Γ pc lv (vI y :: vI x :: st) M := by
  intro p l e R s m args below meth c H locs cells slots Z ls hg hc hP hD hS hl
  exact lv_icmp_ge hc.1 hc.2.1 hd ht (fun q => kt (by first | exact q | exact of_not_not q | exact Int32.not_lt.mp q | exact Int32.not_le.mp q) p l e R s m args below meth c H locs cells slots Z ls hg hc hP hD hS hl) (fun q => kf (by first | exact q | exact fun z => z q | exact fun z => q z) p l e R s m args below meth c H locs cells slots Z ls hg hc hP hD hS hl)
theorem J_icgt {x y : Int32} {off : Int} {tgt : Nat} (ht : (pc : Int) + off = (tgt : Int)) (hd : decode cc pc = .ok (.if_icmp .gt off, 3)) (kt : y < x → Jg ad ca D wf cc own nL d Γ tgt lv st M) (kf : ¬ (y < x) → Jg ad ca D wf cc own nL d Γ (pc + 3) lv st M) : Jg ad ca D wf cc own nL d Γ pc lv (vI y :: vI x :: st) M := by
  intro p l e R s m args below meth c H locs cells slots Z ls hg hc hP hD hS hl
  exact lv_icmp_gt hc.1 hc.2.1 hd ht (fun q => kt (by first | exact q | exact of_not_not q | exact Int32.not_lt.mp q | exact Int32.not_le.mp q) p l e R s m args below meth c H locs cells slots Z ls hg hc hP hD hS hl) (fun q => kf (by first | exact q | exact fun z => z q | exact fun z => q z) p l e R s m args below meth c H locs cells slots Z ls hg hc hP hD hS hl)
theorem J_icle {x y : Int32} {off : Int} {tgt : Nat} (ht : (pc : Int) + off = (tgt : Int)) (hd : decode cc pc = .ok (.if_icmp .le off, 3)) (kt : x ≤ y → Jg ad ca D wf cc own nL d Γ tgt lv st M) (kf : ¬ (x ≤ y) → Jg ad ca D wf cc own nL d Γ (pc + 3) lv st M) : Jg ad ca D wf cc own nL d Γ pc lv (vI y :: vI x :: st) M := by
  intro p l e R s m args below meth c H locs cells slots Z ls hg hc hP hD hS hl
  exact lv_icmp_le hc.1 hc.2.1 hd ht (fun q => kt (by first | exact q | exact of_not_not q | exact Int32.not_lt.mp q | exact Int32.not_le.mp q) p l e R s m args below meth c H locs cells slots Z ls hg hc hP hD hS hl) (fun q => kf (by first | exact q | exact fun z => z q | exact fun z => q z) p l e R s m args below meth c H locs cells slots Z ls hg hc hP hD hS hl)
theorem J_goto {off : Int} {tgt : Nat} (ht : (pc : Int) + off = (tgt : Int)) (hd : decode cc pc = .ok (.goto off, 3)) (k : Jg ad ca D wf cc own nL d Γ tgt lv st M) : Jg ad ca D wf cc own nL d Γ pc lv st M := by
  intro p l e R s m args below meth c H locs cells slots Z ls hg hc hP hD hS hl
  exact lv_goto hc.1 hc.2.1 hd ht (k p l e R s m args below meth c H locs cells slots Z ls hg hc hP hD hS hl)
theorem J_tout {dflt lo hi : Int} {offs : Array Int} {len : Nat} {x : Int32} {tgt : Nat} (ht : (pc : Int) + dflt = (tgt : Int)) (h : x.toInt < lo ∨ hi < x.toInt) (hd : decode cc pc = .ok (.tableswitch dflt lo hi offs, len)) (k : Jg ad ca D wf cc own nL d Γ tgt lv st M) : Jg ad ca D wf cc own nL d Γ pc lv (vI x :: st) M := by
  intro p l e R s m args below meth c H locs cells slots Z ls hg hc hP hD hS hl
  exact lv_tableOut hc.1 hc.2.1 hd h ht (k p l e R s m args below meth c H locs cells slots Z ls hg hc hP hD hS hl)
theorem J_tin {dflt lo hi : Int} {offs : Array Int} {len : Nat} {x : Int32} {off : Int} {tgt : Nat} (h1 : ¬ x.toInt < lo) (h2 : ¬ hi < x.toInt) (ho : offs[(x.toInt - lo).toNat]? = some off) (ht : (pc : Int) + off = (tgt : Int)) (hd : decode cc pc = .ok (.tableswitch dflt lo hi offs, len)) (k : Jg ad ca D wf cc own nL d Γ tgt lv st M) : Jg ad ca D wf cc own nL d Γ pc lv (vI x :: st) M := by
  intro p l e R s m args below meth c H locs cells slots Z ls hg hc hP hD hS hl
  exact lv_tableIn hc.1 hc.2.1 hd h1 h2 ho ht (k p l e R s m args below meth c H locs cells slots Z ls hg hc hP hD hS hl)
def lvp (lv : List (Nat × AV)) (ks : List Nat) : List (Nat × AV) := ks.filterMap (fun k => lv[k]?)
theorem J_sub (ks : List Nat) {lv' : List (Nat × AV)} (h : lvp lv ks = lv') (k : Jg ad ca D wf cc own nL d Γ pc lv' st M) : Jg ad ca D wf cc own nL d Γ pc lv st M := by
  intro p l e R s m args below meth c H locs cells slots Z ls hg hc hP hD hS hl
  refine k p l e R s m args below meth c H locs cells slots Z ls hg hc hP hD hS ⟨hl.1, hl.2.1, fun q hq => hl.2.2 q ?_⟩
  unfold cvl at hq ⊢
  obtain ⟨z, hz, rfl⟩ := List.mem_map.mp hq
  rw [← h] at hz
  obtain ⟨i, -, hi⟩ := List.mem_filterMap.mp hz
  exact List.mem_map.mpr ⟨z, List.mem_of_getElem? hi, rfl⟩
end JR
