/-! new byte[6][120]: an own law of the instruction, from the machine's words up -/
section BMK
/-- the outer array while its rows are made -/
def bm_O (cA : ClassId) (h : Nat) : Nat → Cell
  | 0 => { cls := cA, slots := Array.replicate 6 .null, vm := .none }
  | i + 1 => (bm_O cA h i).setSlot i (.ref (h + 1 + i))
def bm_I (cB : ClassId) : Cell := { cls := cB, slots := Array.replicate 120 (.int 0), vm := .none }
def bm_S (u : State) (cA cB : ClassId) : Nat → State
  | 0 => u.pushCell (bm_O cA u.heap.size 0)
  | i + 1 => ((bm_S u cA cB i).pushCell (bm_I cB)).setCell u.heap.size ((bm_O cA u.heap.size i).setSlot i (.ref (u.heap.size + 1 + i)))
theorem bm_Osz (cA : ClassId) (h : Nat) : ∀ i, (bm_O cA h i).slots.size = 6 ∧ (bm_O cA h i).cls = cA ∧ (bm_O cA h i).vm = .none
  | 0 => ⟨by simp [bm_O], rfl, rfl⟩
  | i + 1 => by
    obtain ⟨h1, h2, h3⟩ := bm_Osz cA h i
    refine ⟨?_, h2, h3⟩
    show ((bm_O cA h i).setSlot i (.ref (h + 1 + i))).slots.size = 6
    simp [Cell.setSlot, h1]
theorem bm_size (u : State) (cA cB : ClassId) : ∀ i, (bm_S u cA cB i).heap.size = u.heap.size + 1 + i
  | 0 => by
    show (u.heap.push _).size = _
    rw [Array.size_push]
  | i + 1 => by
    show (((bm_S u cA cB i).pushCell (bm_I cB)).setCell u.heap.size _).heap.size = _
    rw [size_setCell]
    show ((bm_S u cA cB i).heap.push _).size = _
    rw [Array.size_push, bm_size u cA cB i]
    omega
theorem bm_push {u : State} {c : Cell} {x : Nat} (h : x < u.heap.size) : (u.pushCell c).heap[x]? = u.heap[x]? := by
  show (u.heap.push c)[x]? = _
  rw [Array.getElem?_push, if_neg (by omega)]
theorem bm_out (u : State) (cA cB : ClassId) : ∀ i, (bm_S u cA cB i).heap[u.heap.size]? = some (bm_O cA u.heap.size i)
  | 0 => by
    show (u.heap.push _)[u.heap.size]? = _
    rw [Array.getElem?_push_size]
  | i + 1 => by
    show (((bm_S u cA cB i).pushCell (bm_I cB)).setCell u.heap.size _).heap[u.heap.size]? = _
    exact heapAt_setCell_self _ (by
      show u.heap.size < ((bm_S u cA cB i).heap.push _).size
      rw [Array.size_push, bm_size u cA cB i]
      omega)
theorem bm_old (u : State) (cA cB : ClassId) {x : Nat} (hx : x < u.heap.size) : ∀ i, (bm_S u cA cB i).heap[x]? = u.heap[x]?
  | 0 => bm_push hx
  | i + 1 => by
    show (((bm_S u cA cB i).pushCell (bm_I cB)).setCell u.heap.size _).heap[x]? = _
    rw [heapAt_setCell_ne _ (show u.heap.size ≠ x by omega), bm_push (by rw [bm_size u cA cB i]; omega)]
    exact bm_old u cA cB hx i
theorem bm_row (u : State) (cA cB : ClassId) : ∀ i j, j < i → (bm_S u cA cB i).heap[u.heap.size + 1 + j]? = some (bm_I cB)
  | 0, _, h => absurd h (Nat.not_lt_zero _)
  | i + 1, j, h => by
    show (((bm_S u cA cB i).pushCell (bm_I cB)).setCell u.heap.size _).heap[u.heap.size + 1 + j]? = _
    rw [heapAt_setCell_ne _ (show u.heap.size ≠ u.heap.size + 1 + j by omega)]
    by_cases e : j = i
    · subst e
      show ((bm_S u cA cB j).heap.push _)[u.heap.size + 1 + j]? = _
      rw [← bm_size u cA cB j, Array.getElem?_push_size]
    · rw [bm_push (by rw [bm_size u cA cB i]; omega)]
      exact bm_row u cA cB i j (by omega)
theorem bm_slots (u : State) (cA cB : ClassId) : ∀ i, (bm_S u cA cB i).slotsUsed = u.slotsUsed + 6 + 120 * i
  | 0 => by
    show u.slotsUsed + (Array.replicate 6 Value.null).size = _
    rw [Array.size_replicate]
  | i + 1 => by
    show (bm_S u cA cB i).slotsUsed + (Array.replicate 120 (Value.int 0)).size = _
    rw [Array.size_replicate, bm_slots u cA cB i]
    omega
theorem bm_vm (u : State) (cA cB : ClassId) : ∀ i, (bm_S u cA cB i).vm = u.vm
  | 0 => rfl
  | i + 1 => bm_vm u cA cB i
theorem bm_top (u : State) (cA cB : ClassId) : ∀ i, (bm_S u cA cB i).topJava? = u.topJava?
  | 0 => rfl
  | i + 1 => bm_top u cA cB i
variable {p : Program} {l : Launch} {e : Env} {R : Room} {s : State} {m : MethodId} {args : Array Value} {below : List Frame} {meth : Method} {c : Code} {locs : List Loc} {cells slots : Nat}
theorem bm_stand {T : State} (X : Stand p l e R s m args below meth c T locs cells slots) (cA cB : ClassId) : ∀ i, ∃ L : List Loc, (∀ q ∈ L, q.base = T.heap.size) ∧ Stand p l e R s m args below meth c (bm_S T cA cB i) (locs ++ L) (cells + 1 + i) (slots + 6 + 120 * i)
  | 0 => by
    refine ⟨[], (fun q h => by cases h), ?_⟩
    have h := X.pushed (bm_O cA T.heap.size 0)
    rw [(bm_Osz cA T.heap.size 0).1] at h
    rw [List.append_nil]
    exact h
  | i + 1 => by
    obtain ⟨L, hL, X1⟩ := bm_stand X cA cB i
    have X2 := X1.pushed (bm_I cB)
    have e0 : (bm_I cB).slots.size = 120 := by simp [bm_I]
    rw [e0] at X2
    have hc : ((bm_S T cA cB i).pushCell (bm_I cB)).heap[T.heap.size]? = some (bm_O cA T.heap.size i) := by
      rw [bm_push (by rw [bm_size T cA cB i]; omega)]
      exact bm_out T cA cB i
    have X3 := X2.stored hc i (.ref (T.heap.size + 1 + i))
    refine ⟨L ++ [⟨T.heap.size, i⟩], fun q h => ?_, ?_⟩
    · rcases List.mem_append.mp h with z | z
      · exact hL q z
      · rw [List.mem_singleton.mp z]
    · rw [← List.append_assoc, show cells + 1 + (i + 1) = cells + 1 + i + 1 by omega, show slots + 6 + 120 * (i + 1) = slots + 6 + 120 * i + 120 by omega]
      exact X3
theorem bm_row_wp {E : CtlPost} {d : Bool} {acts : List Action} {cB zc : ClassId} {kB : Class} {Q : Addr → Pre} (hkB : s.vm.classes[cB]? = some kB) (hkindB : kB.kind = .array zc .byte) (h1 : 120 ≤ e.platform.arrayLengthLimit) (h2 : 120 ≤ e.platform.maxHeapBytes) (hc : s.heap.size < e.platform.maxCells) (hs : s.slotsUsed + 120 ≤ e.platform.maxSlots) (hq : ∀ d' acts', Q s.heap.size d' acts' (s.pushCell (bm_I cB))) : wp (multianewarray.make cB [120]) Q E e d acts s := by
  rw [multianewarray.make]
  simp only [wp_bind', W.ite, show ¬ (120 : Int32) < 0 by decide, if_false, wp_pure', W.theClass, hkB, Option.some.injEq, exists_eq_left', hkindB]
  refine W.newArray_of hkB hkindB (by show ¬ 120 > _; omega) (by show ¬ 120 * 1 > _; omega) hc hs rfl (fun acts' => hq _ acts')
theorem bm_setTop (u : State) (f : JFrame) (cA cB : ClassId) : ∀ i, bm_S (u.setTop f) cA cB i = (bm_S u cA cB i).setTop f
  | 0 => rfl
  | i + 1 => by
    show ((bm_S (u.setTop f) cA cB i).pushCell (bm_I cB)).setCell u.heap.size _ = _
    rw [bm_setTop u f cA cB i]
    rfl
theorem bm_setTop2 (u : State) (f : JFrame) (cA cB : ClassId) (i : Nat) (g : JFrame) : ((bm_S u cA cB i).setTop f).setTop g = (bm_S u cA cB i).setTop g := State.setTop_setTop _ _ _
theorem bm_make {E : CtlPost} {d : Bool} {acts : List Action} {cA cB zc : ClassId} {kA kB : Class} {Q : Addr → Pre} (hkA : s.vm.classes[cA]? = some kA) (hkindA : kA.kind = .array cB (.array .byte)) (hkB : s.vm.classes[cB]? = some kB) (hkindB : kB.kind = .array zc .byte) (h1 : 120 ≤ e.platform.arrayLengthLimit) (h2 : 120 ≤ e.platform.maxHeapBytes) (h3 : s.heap.size + 7 ≤ e.platform.maxCells) (h4 : s.slotsUsed + 726 ≤ e.platform.maxSlots) (hq : ∀ d' acts', Q s.heap.size d' acts' (bm_S s cA cB 6)) : wp (multianewarray.make cA [6, 120]) Q E e d acts s := by
  rw [multianewarray.make]
  simp only [wp_bind', W.ite, show ¬ (6 : Int32) < 0 by decide, if_false, wp_pure', W.theClass, hkA, Option.some.injEq, exists_eq_left', hkindA]
  refine W.newArray_of (type := .array .byte) hkA hkindA (by show ¬ 6 > _; omega) (by show ¬ 6 * 4 > _; omega) (by omega) (by show s.slotsUsed + 6 ≤ _; omega) rfl (fun acts' => ?_)
  simp only [show ((6 : Int32) == 0) = false by decide, Bool.false_eq_true, if_false, wp_bind', wp_pure', Std.Legacy.Range.forIn_eq_forIn_range']
  rw [show List.range' ([:Int32.toNatClampNeg 6] : Std.Legacy.Range).start ([:Int32.toNatClampNeg 6] : Std.Legacy.Range).size ([:Int32.toNatClampNeg 6] : Std.Legacy.Range).step = List.range' 0 (6 - 0) from rfl]
  refine wp_forIn_inv (s := bm_S s cA cB 0) (fun rest s' => ∃ i, rest = List.range' i (6 - i) ∧ i ≤ 6 ∧ s' = bm_S s cA cB i) _ _ ⟨0, rfl, by decide, rfl⟩ ?_ ?_
  · rintro x rest s' d' acts' Q' ⟨i, hi, hi6, rfl⟩ hn
    have hlt : i < 6 := by
      rcases Nat.lt_or_ge i 6 with z | z
      · exact z
      · rw [show 6 - i = 0 by omega] at hi
        cases hi
    rw [show 6 - i = (6 - (i + 1)) + 1 by omega, List.range'_succ] at hi
    obtain ⟨rfl, rfl⟩ := List.cons.inj hi
    rw [wp_bind']
    refine bm_row_wp (s := bm_S s cA cB x) (by rw [bm_vm]; exact hkB) hkindB h1 h2 (by rw [bm_size]; omega) (by rw [bm_slots]; omega) (fun d2 acts2 => ?_)
    rw [wp_bind', W.writeLoc]
    refine ⟨bm_O cA s.heap.size x, ?_, ?_, ?_, ?_, ?_⟩
    · rw [bm_push (by rw [bm_size]; omega)]
      exact bm_out s cA cB x
    · rw [(bm_Osz cA s.heap.size x).2.2]
      intro z
      cases z
    · rw [(bm_Osz cA s.heap.size x).1]
      exact hlt
    · rw [(bm_Osz cA s.heap.size x).2.1, (bm_Osz cA s.heap.size x).2.2]
      simp [State.fitsSlot, State.slotType?, bm_vm, hkA, hkindA, fits]
    · rw [bm_size]
      exact hn _ _ _ ⟨x + 1, rfl, hlt, rfl⟩
  · rintro s' d' acts' ⟨i, hi, hi6, rfl⟩
    have e6 : i = 6 := by
      rcases Nat.lt_or_ge i 6 with z | z
      · rw [show 6 - i = (6 - (i + 1)) + 1 by omega, List.range'_succ] at hi
        cases hi
      · omega
    subst e6
    exact hq _ _
theorem bm_wp {E : CtlPost} {d : Bool} {acts : List Action} {f : JFrame} {index : Nat} {cA cB zc : ClassId} {kA kB : Class} {rest : List Value} {Q : Unit → Pre} (hs : s.topJava?.isSome) (hr : s.vm.classReady f.method.cls index cA) (hkA : s.vm.classes[cA]? = some kA) (hkindA : kA.kind = .array cB (.array .byte)) (hkB : s.vm.classes[cB]? = some kB) (hkindB : kB.kind = .array zc .byte) (hstack : f.stack = .int 120 :: .int 6 :: rest) (h1 : 120 ≤ e.platform.arrayLengthLimit) (h2 : 120 ≤ e.platform.maxHeapBytes) (h3 : s.heap.size + 7 ≤ e.platform.maxCells) (h4 : s.slotsUsed + 726 ≤ e.platform.maxSlots) (hq : ∀ d' acts', Q () d' acts' ((bm_S s cA cB 6).setTop { f with stack := .ref s.heap.size :: rest })) : wp (multianewarray.sem index 2) Q E e d acts (s.setTop f) := by
  simp only [multianewarray.sem, wp_bind', W.resolveClassAt_ready (State.method?_setTop f hs) hr]
  refine (popN_top (s := s) (f := f) hs (args := [.int 6, .int 120]) (rest := rest) hstack).mpr ?_
  rw [wp_bind', List.mapM_cons, wp_bind', wp_pure', wp_bind', List.mapM_cons, wp_bind', wp_pure', wp_bind', List.mapM_nil, wp_pure', wp_pure', wp_pure', wp_bind']
  refine bm_make (s := s.setTop { f with stack := rest }) hkA hkindA hkB hkindB h1 h2 h3 h4 (fun d2 acts2 => ?_)
  rw [bm_setTop]
  rw [wp_bind', W.mark, W.pushRef]
  refine ⟨{ f with stack := rest }, State.topJava?_setTop' _ (by rw [bm_top]; exact hs), ?_⟩
  rw [bm_setTop2]
  exact hq _ _
theorem bm_cold {E : CtlPost} {d : Bool} {acts : List Action} {f : JFrame} {index c : Nat} {vm' : Vm} {Q : Unit → Pre} (hs : s.topJava?.isSome) (hg : (Jvm.resolveClass f.method.cls index).Gives e.toSetting s.vm (.ok c) vm') (hr : vm'.classReady f.method.cls index c) (hsz : vm'.classes.size ≤ s.vm.classes.size) : wp (multianewarray.sem index 2) Q E e d acts (s.setTop f) ↔ wp (multianewarray.sem index 2) Q E e d acts ((s.setVm vm').setTop f) := by
  simp only [multianewarray.sem, wp_bind']
  exact W.resolveClassAt_transfer (s := s.setTop f) (State.method?_setTop f hs) hg hr hsz
theorem bm_W {cc : ByteArray} {H : Heap} {Q : State → Prop} (hexec : p.tables.exec = Jvm.exec) (hb : c.code = cc) {own : String} {index : Nat} (hown : s.vm.findClass own = some m.cls) (hclink : (Cond.classLink own index ("[" ++ (FieldType.array .byte).toString)).before args s = true) (hover : (Cond.arrayOver (.array .byte)).before args s = true) (harr : (Cond.arrayClass .byte).before args s = true) {g : JFrame} (hg : g.method = m) (hdg : decode cc g.pc = .ok (.multianewarray index 2, 4)) {rest : List Value} (hstack : g.stack = .int 120 :: .int 6 :: rest) (hcells : cells + 7 ≤ R.cells) (hslots : slots + 726 ≤ R.slots)
    (kk : ∀ (cA cB : ClassId) (H1 : Heap) (L : List Loc), s.vm.findClass ("[" ++ (FieldType.array .byte).toString) = some cA → s.vm.findClass ("[" ++ FieldType.byte.toString) = some cB → (∀ q ∈ L, q.base = H.size) → H1.size = H.size + 7 → H1[H.size]? = some (bm_O cA H.size 6) → (∀ x, x < H.size → H1[x]? = H[x]?) → (∀ j, j < 6 → H1[H.size + 1 + j]? = some (bm_I cB)) → W p l e R s m args below meth c H1 (locs ++ L) (cells + 7) (slots + 726) Q { g with pc := g.pc + 4, stack := .ref H.size :: rest }) : W p l e R s m args below meth c H locs cells slots Q g := by
  intro T hT X
  subst hT
  subst hb
  subst hg
  have hpl : e.platform.magicAccessors = ({} : Platform).magicAccessors := by rw [X.admits.platform]
  obtain ⟨comp, cA, kA, hcomp, -, hkA, hkindA, hnameA⟩ := arrayOverA_spec hover
  obtain ⟨cB, kB, zc, hB, hkB, hkindB⟩ := Cond.arrayClass_spec harr
  have hcb : comp = cB := Option.some.inj (hcomp.symm.trans hB)
  subst hcb
  obtain ⟨cA2, hfcc, hcl⟩ := Cond.classLink_spec hown hclink e.platform hpl
  have hca : cA = cA2 := Option.some.inj (hnameA.symm.trans hfcc)
  subst hca
  obtain ⟨hg₁, hwarm₁, hready₁⟩ := State.classEntry (e := e) X.warmed hcl
  generalize T.vm.noted g.method.cls index (.cls cA) = vm₁ at hg₁ hwarm₁ hready₁
  have hal : s.vm.Alike vm₁ := hwarm₁.alike
  have hal2 : T.vm.Alike vm₁ := X.warmed.alike.symm.trans hwarm₁.alike
  obtain ⟨kA₁, hkA₁, heA⟩ := hal.2.2 _ _ hkA
  obtain ⟨kB₁, hkB₁, heB⟩ := hal.2.2 _ _ hkB
  have hkindA₁ : kA₁.kind = .array comp (.array .byte) := by rw [heA]; exact hkindA
  have hkindB₁ : kB₁.kind = .array zc .byte := by rw [heB]; exact hkindB
  obtain ⟨hr1, hr2⟩ := X.roomAbove hcells hslots
  obtain ⟨L, hL, X₂⟩ := bm_stand (X.noted hwarm₁) cA comp 6
  have hlim : 120 ≤ e.platform.arrayLengthLimit := by rw [Launch.admits_arrayLengthLimit X.admits]; decide
  have hhp : 120 ≤ e.platform.maxHeapBytes := by rw [Launch.admits_maxHeapBytes X.admits]; decide
  obtain ⟨t, a1, b1⟩ := kk cA comp (bm_S (T.setVm vm₁) cA comp 6).heap L hnameA hB hL (bm_size (T.setVm vm₁) cA comp 6) (bm_out (T.setVm vm₁) cA comp 6) (fun x hx => bm_old (T.setVm vm₁) cA comp hx 6) (fun j hj => bm_row (T.setVm vm₁) cA comp 6 j hj) (bm_S (T.setVm vm₁) cA comp 6) rfl X₂
  refine ⟨t, ?_, b1⟩
  refine Steps.instr (c := c) X.here ?_
  rw [hdg]
  show wpRun (p.tables.exec (.multianewarray index 2)) _ _ e (T.setTop g)
  rw [hexec]
  show wpRun (multianewarray.sem index 2) _ _ e (T.setTop g)
  unfold wpRun
  rw [bm_cold (e := e) (s := T) (f := g) X.here.top hg₁ hready₁ hal2.size_le]
  refine bm_wp (s := T.setVm vm₁) (f := g) X.here.top hready₁ hkA₁ hkindA₁ hkB₁ hkindB₁ hstack hlim hhp hr1 hr2 (fun d2 acts2 => ?_)
  intro acts3
  rw [afterInstr_ok]
  exact a1
end BMK
/-! constructors: new byte[6][120], by the library's law of two dimensions -/
section JKM
variable {ad ad0 : Nat → Nat} {ca : Nat → ClassId} {D : va_G} {cc : ByteArray} {own : String} {nL d : Nat} {pc : Nat} {lv : List (Nat × AV)} {st : List AV} {M N : Mem} {ks new ks' : List Nat} {mc ms cl sl : Nat} {Γ Γ' : Gm}
def l46 : List Nat := [40, 41, 42, 43, 44, 45, 46]
/-- where the seven new cells lie -/
def ad46 (ad : Nat → Nat) (h : Nat) : Nat → Nat := fun j => if 40 ≤ j ∧ j ≤ 46 then h + (j - 40) else ad j
theorem ad46_ext (h : Nat) : Ext l46 ad (ad46 ad h) := by
  intro j hj
  unfold ad46
  rw [if_neg]
  intro z
  apply hj
  obtain y | y | y | y | y | y | y : j = 40 ∨ j = 41 ∨ j = 42 ∨ j = 43 ∨ j = 44 ∨ j = 45 ∨ j = 46 := by omega
  all_goals subst y; decide
def row0 (ca : Nat → ClassId) : va_E := .inl (ca 2, 120, .inl (fun _ => 0))
def out6 (ca : Nat → ClassId) (h : Nat) : va_E := .inl (ca 3, 6, .inr (.inr (.inr (.inr (fun i => if i < 6 then some (h + 1 + i) else none)))))
theorem ws46 {h : Nat} (hfr : ∀ k, k ∈ l46 → k ∉ ks) (hr : Rf ks M) (h40 : ∀ i, M.2 40 i = if i < 6 then some (41 + i) else none) (hM : ∀ k, 41 ≤ k → k ≤ 46 → M.1 k = fun _ => 0) : wsL (ad46 ad h) ca (ks ++ l46) M = (wsL ad ca ks M ++ [(h, out6 ca h)]) ++ (List.range 6).map (fun i => (h + 1 + i, row0 ca)) := by
  have h1 : wsL (ad46 ad h) ca ks M = wsL ad ca ks M := wsL_ad hr (fun c hc => ad46_ext h c (fun z => hfr c z hc))
  have c40 : cellK (ad46 ad h) ca M 40 = out6 ca h := by
    rw [cellK_eq (x := .inr (3, 6)) rfl, cell_arrR (by decide)]
    have e6 : (fun j => Option.map (ad46 ad h) (M.2 40 j)) = (fun i => if i < 6 then some (h + 1 + i) else none) := by
      funext i
      rw [h40 i]
      by_cases z : i < 6
      · rw [if_pos z, if_pos z]
        show some (ad46 ad h (41 + i)) = _
        unfold ad46
        rw [if_pos (by omega)]
        congr 1
        omega
      · rw [if_neg z, if_neg z]
        rfl
    unfold out6
    rw [e6]
  have cr : ∀ k, 41 ≤ k → k ≤ 46 → sh k = some (.inr (2, 120)) → cellK (ad46 ad h) ca M k = row0 ca := by
    intro k h1 h2 hs
    rw [cellK_eq hs]
    unfold row0 cellOf
    rw [hM k h1 h2]
    rfl
  unfold wsL at h1 ⊢
  rw [List.map_append, h1]
  unfold l46
  simp only [List.map_cons, List.map_nil]
  rw [c40, cr 41 (by decide) (by decide) rfl, cr 42 (by decide) (by decide) rfl, cr 43 (by decide) (by decide) rfl, cr 44 (by decide) (by decide) rfl, cr 45 (by decide) (by decide) rfl, cr 46 (by decide) (by decide) rfl]
  rw [List.append_assoc]
  rfl
/-- the outer array, filled -/
theorem out_c (cA : ClassId) (h : Nat) : ∀ i : Nat, bm_O cA h i = arrV cA 6 (fun j => va_rf (if j < i then some (h + 1 + j) else none)) := by
  intro i
  induction i with
  | zero =>
    show ({ cls := cA, slots := Array.replicate 6 .null, vm := .none } : Cell) = _
    rw [arrV_new]
    exact congrArg (arrV cA 6) (funext fun j => by rw [if_neg (Nat.not_lt_zero j)]; rfl)
  | succ i ih =>
    show (bm_O cA h i).setSlot i (.ref (h + 1 + i)) = _
    rw [ih, arrV_store]
    refine congrArg (arrV cA 6) (funext fun j => ?_)
    unfold updV
    by_cases e : j = i
    · rw [if_pos e, e, if_pos (Nat.lt_succ_self i)]
      rfl
    · rw [if_neg e]
      show va_rf (if j < i then some (h + 1 + j) else none) = _
      by_cases z : j < i
      · rw [if_pos z, if_pos (Nat.lt_succ_of_lt z)]
      · rw [if_neg z, if_neg (by omega)]
theorem K_mna {idx : Nat} (hΓ : StpG ad Γ Γ' 7 726) (hfr : ∀ k, k ∈ l46 → k ∉ ks) (h40 : ∀ i, M.2 40 i = if i < 6 then some (41 + i) else none) (hM : ∀ k, 41 ≤ k → k ≤ 46 → M.1 k = fun _ => 0) (hr : Rf ks M) (hlv : lv.all (fun q => okv l46 q.2) = true) (hst : st.all (okv l46) = true) (hcl : Cond.classLink own idx ("[" ++ (FieldType.array .byte).toString) ∈ lw_g) (harr : Cond.arrayClass .byte ∈ lw_g) (hd : decode cc pc = .ok (.multianewarray idx 2, 4)) (kk : ∀ ad', Ext l46 ad ad' → Jg ad' ca D (wsL ad' ca (ks ++ l46)) cc own nL d Γ' (pc + 4) lv (vR (some 40) :: st) M) : Jg ad ca D (wsL ad ca ks) cc own nL d Γ pc lv (vI (nI 120) :: vI (nI 6) :: st) M := by
  intro p l e R s m args below meth c H locs cells slots Z ls hg hc hP hD hS hl
  obtain ⟨g1, g2, g3, g4, g5⟩ := hΓ _ _ _ _ _ _ _ _ _ _ _ _ _ hg
  have hts := hc.2.2.2.2.1
  have hov : (Cond.arrayOver (.array .byte)).before args s = true := g5.2.2.2.2.2.2.2
  refine bm_W (g := F0 m pc ls (.int (nI 120) :: .int (nI 6) :: st.map (cv ad))) hc.1 hc.2.1 hc.2.2.2.1 (hts _ hcl) hov (hts _ harr) rfl hd rfl g2 g3 (fun cA cB F L fA fC hLb f1 f2 hold hrow => ?_)
  have e3 : cA = ca 3 := Option.some.inj (fA.symm.trans (hc.2.2.2.2.2.1.2 3 (ca 3, .array .byte) rfl).2)
  have e2 : cB = ca 2 := Option.some.inj (fC.symm.trans (hc.2.2.2.2.2.1.2 2 (ca 2, .byte) rfl).2)
  subst e3
  subst e2
  have q2 : F[H.size]? = some (vp_cell (ca 3) (6, .inr (.inr (.inr (.inr (fun i => if i < 6 then some (H.size + 1 + i) else none)))))) := by
    rw [f2, out_c]
    rfl
  have q3 : ∀ j : Nat, j < 6 → F[H.size + 1 + j]? = some (vp_cell (ca 2) (120, .inl (fun _ => 0))) := fun j hj => by
    rw [hrow j hj, vp_cell_i, ← arrV_new]
    rfl
  have P0 : va_P D vwCl (wsL ad ca ks M) F := hP.kept (fun k9 x hx => hold x.1 ((hP k9 x hx).lt))
  have P1 : va_P D vwCl (wsL ad ca ks M ++ [(H.size, out6 ca H.size)]) F := P0.app (fun k9 x hx => by
    have h0 : k9 < 1 := (List.getElem?_eq_some_iff.mp hx).1
    rw [show k9 = 0 by omega] at hx
    cases hx
    exact q2)
  have rows : ∀ (k9 : Nat) (x : Nat × va_E), ((List.range 6).map (fun i => (H.size + 1 + i, row0 ca)))[k9]? = some x → k9 < 6 ∧ x = (H.size + 1 + k9, row0 ca) := by
    intro k9 x hx
    rw [List.getElem?_map] at hx
    by_cases h9 : k9 < 6
    · rw [List.getElem?_range h9] at hx
      exact ⟨h9, (Option.some.inj hx).symm⟩
    · rw [List.getElem?_eq_none (by rw [List.length_range]; omega)] at hx
      cases hx
  have P2 : va_P D vwCl ((wsL ad ca ks M ++ [(H.size, out6 ca H.size)]) ++ (List.range 6).map (fun i => (H.size + 1 + i, row0 ca))) F := P1.app (fun k9 x hx => by
    obtain ⟨h9, e9⟩ := rows k9 x hx
    subst e9
    exact q3 k9 h9)
  have hA : ∀ q, H.size ≤ q → AA ad q := fun q hq => by
    show ad 400 ≤ q
    have := hS.1
    omega
  have D1 : va_D (AA ad) (wsL ad ca ks M ++ [(H.size, out6 ca H.size)]) := hD.push hP rfl (hA _ (Nat.le_refl _))
  have le1 : ∀ (k9 : Nat) (x : Nat × va_E), (wsL ad ca ks M ++ [(H.size, out6 ca H.size)])[k9]? = some x → x.1 ≤ H.size := by
    intro k9 x hx
    by_cases h9 : k9 < (wsL ad ca ks M).length
    · rw [List.getElem?_append_left h9] at hx
      exact Nat.le_of_lt ((hP k9 x hx).lt)
    · rw [List.getElem?_append_right (by omega)] at hx
      have h0 : k9 - (wsL ad ca ks M).length < 1 := (List.getElem?_eq_some_iff.mp hx).1
      rw [show k9 - (wsL ad ca ks M).length = 0 by omega] at hx
      cases hx
      exact Nat.le_refl _
  have D2 : va_D (AA ad) ((wsL ad ca ks M ++ [(H.size, out6 ca H.size)]) ++ (List.range 6).map (fun i => (H.size + 1 + i, row0 ca))) := by
    refine D1.app ⟨fun i j x y hi hj hxy => ?_, fun k9 x hx => ?_⟩ (fun i j x y hi hj hxy => ?_)
    · obtain ⟨_, e1⟩ := rows i x hi
      obtain ⟨_, e2⟩ := rows j y hj
      subst e1
      subst e2
      have : H.size + 1 + i = H.size + 1 + j := hxy
      omega
    · obtain ⟨_, e1⟩ := rows k9 x hx
      subst e1
      exact hA _ (by show H.size ≤ H.size + 1 + k9; omega)
    · obtain ⟨_, e2⟩ := rows j y hj
      subst e2
      have h1 := le1 i x hi
      have h2 : x.1 = H.size + 1 + j := hxy
      omega
  have hw := ws46 (ad := ad) (ca := ca) (h := H.size) hfr hr h40 hM
  have he := ad46_ext (ad := ad) H.size
  have hl0 : ∀ j, 200 ≤ j → j ∉ l46 := fun j hj h9 => by
    unfold l46 at h9
    simp only [List.mem_cons, List.not_mem_nil, or_false] at h9
    omega
  have hAA := K_AA he hl0
  have hS1 : va_S (AA ad) s.heap F (locs ++ L) := ⟨by rw [f1]; have := hS.1; omega, fun x h1 h2 => (hold x (Nat.lt_of_lt_of_le h1 hS.1)).trans (hS.2.1 x h1 h2), fun q hq => by
    rcases List.mem_append.mp hq with h | h
    · exact hS.2.2 q h
    · rw [hLb q h]
      exact hA _ (Nat.le_refl _)⟩
  have hk' := kk (ad46 ad H.size) he p l e R s m args below meth c F (locs ++ L) (cells + 7) (slots + 726) Z ls g1 (K_cx he hl0 hc g2 g3) (by rw [hw]; exact P2) (by rw [hw, hAA]; exact D2) (by rw [hAA]; exact hS1) (by rw [cvl_ad he hlv]; exact hl)
  have e9 : (vR (some 40) :: st).map (cv (ad46 ad H.size)) = .ref H.size :: st.map (cv ad) := by
    show (Value.ref (ad46 ad H.size 40)) :: st.map (cv (ad46 ad H.size)) = _
    rw [cvs_ad he hst]
    rfl
  rw [e9] at hk'
  exact hk'
end JKM
