/-! THE CLAIM OUT OF ONE WALK OF THE LAW'S BODY. Your part is whole_start (and what it stands on); all else here is the same for every law, but numbers. -/
def R_law : String := "WolfVillageLaw"
def lw_P (b : Addr) (xs : List Int32) (args : Array Value) (s : State) : Prop := args = #[.ref b] ∧ s.IntsAt b xs ∧ xs.length ≤ 3073 ∧ (Jvm.Cond.and given_1 narrow_1).before args s = true
def lw_Q (_ : Array Value) (s : State) (o : Outcome) (t : State) : Prop := o = .returned (some (.int 1)) ∧ Framed s o t [] 600000 7302250
def lw_Z (below : List Frame) (a : Array Value) (s : State) : State → Prop := fun t => ∃ o, t.status = .running ∧ Ended t below o ∧ lw_Q a s o t
/-- the law's own end, with 1 on the stack, nothing written that was there before, its room as the claim has it -/
theorem lw_ret {p : Program} {l : Launch} {e : Env} {s : State} {m : MethodId} {below : List Frame} {meth : Method} {c : Code} {b : Nat} (hx : p.tables.exec = Jvm.exec) (hb : c.code = code) (hr : meth.sig.returnType = ret) (hlocks : meth.locks = false) {pc : Nat} {H : Heap} {ls : Array Slot} (hdg : decode code pc = .ok (.ireturn, 1)) : W p l e room_1 s m #[Value.ref b] below meth c H [] 600000 7302250 (lw_Z below #[Value.ref b] s) (F0 m pc ls [.int 1]) := by
  intro T hT X
  obtain ⟨fs, hret, hrun, hended, hW, hframe⟩ := X.leave (v := some (.int 1)) (hlocks := hlocks) (fun h => by rw [hr] at h; cases h)
  have hmeth' : T.vm.method? m = some meth := X.method'
  refine ⟨T.setFrames fs, ?_, .returned (some (.int 1)), hrun, hended, rfl, ⟨_, rfl⟩, hW, hframe⟩
  jvm_step X.here [X.here.top, hx, hb, hdg, hmeth', hr, ret, narrow_b1]
  (try refine ⟨rfl, ?_⟩); (try refine ⟨rfl, ?_⟩)
  first | (intro acts; rw [hret _ acts rfl rfl rfl]) | rw [hret _ _ rfl rfl rfl]
  exact Steps.refl _
/-- what holds at the law's entry: the machine, the code, the tables' words (any of lw_tbl by 'hts w (by decide +kernel)'), the script of L ints xs at the cell b, what the Statement gives of the start (any of its parts by flat_of_before) -/
def lw_At (p : Program) (s : State) (m : MethodId) (meth : Method) (c : Code) (b L : Nat) (xs : Nat → Int32) : Prop :=
  p.tables.exec = Jvm.exec ∧ c.code = code ∧ meth.sig.returnType = ret ∧ c.maxLocals = 4 ∧ s.vm.findClass R_law = some m.cls ∧ (∀ w ∈ lw_tbl, w.before #[Value.ref b] s = true) ∧ va_X b L xs s s.heap ∧ b < s.heap.size ∧ meth.locks = false ∧ (Jvm.Cond.and given_1 narrow_1).before #[Value.ref b] s = true
/-! the law's own: the script, the end -/
def scr (L : Nat) (xs : Nat → Int32) (i : Int32) : Option Int32 := if i < 0 ∨ L ≤ i.toNatClampNeg then none else some (xs i.toNatClampNeg)
/-- the law's context: its end as the claim has it, the script's cell, the world's cells all new -/
def Gl (ad : Nat → Nat) (b L : Nat) (xs : Nat → Int32) : Gm := fun _ _ _ R s _ args below meth _ cells slots Z => Z = lw_Z below #[Value.ref b] s ∧ args = #[Value.ref b] ∧ R = room_1 ∧ meth.sig.returnType = ret ∧ meth.locks = false ∧ va_X b L xs s s.heap ∧ b < s.heap.size ∧ ad 300 = b ∧ s.heap.size ≤ ad 400 ∧ cells ≤ 600000 ∧ slots ≤ 7302250
section JL
variable {ad : Nat → Nat} {ca : Nat → ClassId} {D : va_G} {cc : ByteArray} {own : String} {nL d : Nat} {pc : Nat} {lv : List (Nat × AV)} {st : List AV} {M : Mem} {b L : Nat} {xs : Nat → Int32}
theorem Gl_out {p : Program} {l : Launch} {e : Env} {R : Room} {s : State} {m : MethodId} {args : Array Value} {below : List Frame} {meth : Method} {c : Code} {cells slots : Nat} {Z : State → Prop} (hg : Gl ad b L xs p l e R s m args below meth c cells slots Z) : ¬ AA ad b := by
  intro h9
  have h1 := hg.2.2.2.2.2.2.1
  have h2 := hg.2.2.2.2.2.2.2.2.1
  have h3 : ad 400 ≤ b := h9
  omega
theorem J_sld {i x : Int32} (hx : scr L xs i = some x) (hd : decode cc pc = .ok (.iaload, 1)) (k : J ad ca D cc own nL d (Gl ad b L xs) (pc + 1) lv (vI x :: st) M) : J ad ca D cc own nL d (Gl ad b L xs) pc lv (vI i :: vR (some 300) :: st) M := by
  unfold scr at hx
  split at hx
  · cases hx
  · rename_i hin
    cases hx
    intro p l e R s m args below meth c H locs cells slots Z ls hg hc hP hD hS hl
    have h9 : (cv ad (vR (some 300))) = .ref b := by rw [← hg.2.2.2.2.2.2.2.1]; rfl
    show W p l e R s m args below meth c H locs cells slots Z (F0 m pc ls (.int i :: cv ad (vR (some 300)) :: st.map (cv ad)))
    rw [h9]
    exact va_sld hc.1 hc.2.1 hg.2.2.2.2.2.1 hg.2.2.2.2.2.2.1 (Gl_out hg) hS hin hd (k p l e R s m args below meth c H locs cells slots Z ls hg hc hP hD hS hl)
theorem J_slen (hd : decode cc pc = .ok (.arraylength, 1)) (k : J ad ca D cc own nL d (Gl ad b L xs) (pc + 1) lv (vI (Int32.ofNat L) :: st) M) : J ad ca D cc own nL d (Gl ad b L xs) pc lv (vR (some 300) :: st) M := by
  intro p l e R s m args below meth c H locs cells slots Z ls hg hc hP hD hS hl
  have h9 : (cv ad (vR (some 300))) = .ref b := by rw [← hg.2.2.2.2.2.2.2.1]; rfl
  show W p l e R s m args below meth c H locs cells slots Z (F0 m pc ls (cv ad (vR (some 300)) :: st.map (cv ad)))
  rw [h9]
  exact va_slen hc.1 hc.2.1 hg.2.2.2.2.2.1 hg.2.2.2.2.2.2.1 (Gl_out hg) hS hd (k p l e R s m args below meth c H locs cells slots Z ls hg hc hP hD hS hl)
theorem J_lawend (hd : decode code pc = .ok (.ireturn, 1)) : J ad ca D code own nL d (Gl ad b L xs) pc lv [vI 1] M := by
  intro p l e R s m args below meth c H locs cells slots Z ls hg hc hP hD hS hl
  obtain ⟨rfl, rfl, rfl, hr, hlk, -, -, -, hnew, h1, h2⟩ := hg
  refine va_forget (fun q hq => ?_) ?_
  · exact Nat.le_trans hnew (hS.2.2 q hq)
  · refine W.widen h1 h2 ?_
    exact lw_ret hc.1 hc.2.1 hr hlk hd
end JL
theorem ml_RL_21 : Cond.methodLink RL 21 yX8_way ∈ lw_g := mg (i := 566) (by decide +kernel) rfl
theorem ml_RL_25 : Cond.methodLink RL 25 yX9_way ∈ lw_g := mg (i := 1267) (by decide +kernel) rfl
theorem ml_RL_26 : Cond.methodLink RL 26 yX8_unway ∈ lw_g := mg (i := 585) (by decide +kernel) rfl
theorem cf_X8_unway : CalF yX8_unway cX8_unway 1 (some .int) 0 := ⟨mg (i := 588) (by decide +kernel) rfl, mg (i := 126) (by decide +kernel) rfl, ⟨by decide, by decide⟩, by decide +kernel, by decide⟩
theorem cv_X8_unway : Cond.instanceMethod yX8_unway ∈ lw_g ∧ Cond.selects yX8_unway.cls yX8_unway yX8_unway ∈ lw_g := ⟨mg (i := 586) (by decide +kernel) rfl, mg (i := 587) (by decide +kernel) rfl⟩
theorem ml_RL_30 : Cond.methodLink RL 30 yX9_unway ∈ lw_g := mg (i := 1291) (by decide +kernel) rfl
theorem cf_X9_unway : CalF yX9_unway cX9_unway 1 (some .int) 0 := ⟨mg (i := 1294) (by decide +kernel) rfl, mg (i := 140) (by decide +kernel) rfl, ⟨by decide, by decide⟩, by decide +kernel, by decide⟩
theorem cv_X9_unway : Cond.instanceMethod yX9_unway ∈ lw_g ∧ Cond.selects yX9_unway.cls yX9_unway yX9_unway ∈ lw_g := ⟨mg (i := 1292) (by decide +kernel) rfl, mg (i := 1293) (by decide +kernel) rfl⟩
theorem ml_RL_31 : Cond.methodLink RL 31 yX8_wayTold ∈ lw_g := mg (i := 593) (by decide +kernel) rfl
theorem cf_X8_wayTold : CalF yX8_wayTold cX8_wayTold 3 (some .int) 2 := ⟨mg (i := 596) (by decide +kernel) rfl, mg (i := 126) (by decide +kernel) rfl, ⟨by decide, by decide⟩, by decide +kernel, by decide⟩
theorem cv_X8_wayTold : Cond.instanceMethod yX8_wayTold ∈ lw_g ∧ Cond.selects yX8_wayTold.cls yX8_wayTold yX8_wayTold ∈ lw_g := ⟨mg (i := 594) (by decide +kernel) rfl, mg (i := 595) (by decide +kernel) rfl⟩
theorem ml_RL_35 : Cond.methodLink RL 35 yX9_wayTold ∈ lw_g := mg (i := 1295) (by decide +kernel) rfl
theorem cf_X9_wayTold : CalF yX9_wayTold cX9_wayTold 3 (some .int) 2 := ⟨mg (i := 1298) (by decide +kernel) rfl, mg (i := 140) (by decide +kernel) rfl, ⟨by decide, by decide⟩, by decide +kernel, by decide⟩
theorem cv_X9_wayTold : Cond.instanceMethod yX9_wayTold ∈ lw_g ∧ Cond.selects yX9_wayTold.cls yX9_wayTold yX9_wayTold ∈ lw_g := ⟨mg (i := 1296) (by decide +kernel) rfl, mg (i := 1297) (by decide +kernel) rfl⟩
theorem ml_RL_36 : Cond.methodLink RL 36 yX8_ground ∈ lw_g := mg (i := 598) (by decide +kernel) rfl
theorem cf_X8_ground : CalF yX8_ground cX8_ground 4 (some .int) 2 := ⟨mg (i := 601) (by decide +kernel) rfl, mg (i := 126) (by decide +kernel) rfl, ⟨by decide, by decide⟩, by decide +kernel, by decide⟩
theorem cv_X8_ground : Cond.instanceMethod yX8_ground ∈ lw_g ∧ Cond.selects yX8_ground.cls yX8_ground yX8_ground ∈ lw_g := ⟨mg (i := 599) (by decide +kernel) rfl, mg (i := 600) (by decide +kernel) rfl⟩
theorem ml_RL_39 : Cond.methodLink RL 39 yX9_ground ∈ lw_g := mg (i := 1307) (by decide +kernel) rfl
theorem cf_X9_ground : CalF yX9_ground cX9_ground 4 (some .int) 2 := ⟨mg (i := 1310) (by decide +kernel) rfl, mg (i := 140) (by decide +kernel) rfl, ⟨by decide, by decide⟩, by decide +kernel, by decide⟩
theorem cv_X9_ground : Cond.instanceMethod yX9_ground ∈ lw_g ∧ Cond.selects yX9_ground.cls yX9_ground yX9_ground ∈ lw_g := ⟨mg (i := 1308) (by decide +kernel) rfl, mg (i := 1309) (by decide +kernel) rfl⟩
theorem ml_RL_40 : Cond.methodLink RL 40 yX8_tell ∈ lw_g := mg (i := 607) (by decide +kernel) rfl
theorem cf_X8_tell : CalF yX8_tell cX8_tell 4 (some .int) 2 := ⟨mg (i := 610) (by decide +kernel) rfl, mg (i := 126) (by decide +kernel) rfl, ⟨by decide, by decide⟩, by decide +kernel, by decide⟩
theorem cv_X8_tell : Cond.instanceMethod yX8_tell ∈ lw_g ∧ Cond.selects yX8_tell.cls yX8_tell yX8_tell ∈ lw_g := ⟨mg (i := 608) (by decide +kernel) rfl, mg (i := 609) (by decide +kernel) rfl⟩
theorem ml_RL_43 : Cond.methodLink RL 43 yX9_tell ∈ lw_g := mg (i := 1311) (by decide +kernel) rfl
theorem cf_X9_tell : CalF yX9_tell cX9_tell 4 (some .int) 2 := ⟨mg (i := 1314) (by decide +kernel) rfl, mg (i := 140) (by decide +kernel) rfl, ⟨by decide, by decide⟩, by decide +kernel, by decide⟩
theorem cv_X9_tell : Cond.instanceMethod yX9_tell ∈ lw_g ∧ Cond.selects yX9_tell.cls yX9_tell yX9_tell ∈ lw_g := ⟨mg (i := 1312) (by decide +kernel) rfl, mg (i := 1313) (by decide +kernel) rfl⟩
theorem ml_RL_44 : Cond.methodLink RL 44 yX8_length ∈ lw_g := mg (i := 611) (by decide +kernel) rfl
theorem cf_X8_length : CalF yX8_length cX8_length 7 (some .int) 5 := ⟨mg (i := 614) (by decide +kernel) rfl, mg (i := 126) (by decide +kernel) rfl, ⟨by decide, by decide⟩, by decide +kernel, by decide⟩
theorem cv_X8_length : Cond.instanceMethod yX8_length ∈ lw_g ∧ Cond.selects yX8_length.cls yX8_length yX8_length ∈ lw_g := ⟨mg (i := 612) (by decide +kernel) rfl, mg (i := 613) (by decide +kernel) rfl⟩
theorem ml_RL_48 : Cond.methodLink RL 48 yX9_length ∈ lw_g := mg (i := 1315) (by decide +kernel) rfl
theorem cf_X9_length : CalF yX9_length cX9_length 7 (some .int) 5 := ⟨mg (i := 1318) (by decide +kernel) rfl, mg (i := 140) (by decide +kernel) rfl, ⟨by decide, by decide⟩, by decide +kernel, by decide⟩
theorem cv_X9_length : Cond.instanceMethod yX9_length ∈ lw_g ∧ Cond.selects yX9_length.cls yX9_length yX9_length ∈ lw_g := ⟨mg (i := 1316) (by decide +kernel) rfl, mg (i := 1317) (by decide +kernel) rfl⟩
theorem ml_RL_49 : Cond.methodLink RL 49 yX8_best ∈ lw_g := mg (i := 736) (by decide +kernel) rfl
theorem cf_X8_best : CalF yX8_best cX8_best 7 (some .int) 5 := ⟨mg (i := 739) (by decide +kernel) rfl, mg (i := 126) (by decide +kernel) rfl, ⟨by decide, by decide⟩, by decide +kernel, by decide⟩
theorem cv_X8_best : Cond.instanceMethod yX8_best ∈ lw_g ∧ Cond.selects yX8_best.cls yX8_best yX8_best ∈ lw_g := ⟨mg (i := 737) (by decide +kernel) rfl, mg (i := 738) (by decide +kernel) rfl⟩
theorem ml_RL_52 : Cond.methodLink RL 52 yX9_best ∈ lw_g := mg (i := 1403) (by decide +kernel) rfl
theorem cf_X9_best : CalF yX9_best cX9_best 7 (some .int) 5 := ⟨mg (i := 1406) (by decide +kernel) rfl, mg (i := 140) (by decide +kernel) rfl, ⟨by decide, by decide⟩, by decide +kernel, by decide⟩
theorem cv_X9_best : Cond.instanceMethod yX9_best ∈ lw_g ∧ Cond.selects yX9_best.cls yX9_best yX9_best ∈ lw_g := ⟨mg (i := 1404) (by decide +kernel) rfl, mg (i := 1405) (by decide +kernel) rfl⟩
theorem ml_RL_53 : Cond.methodLink RL 53 yX8_moves ∈ lw_g := mg (i := 749) (by decide +kernel) rfl
theorem cf_X8_moves : CalF yX8_moves cX8_moves 7 (some .int) 5 := ⟨mg (i := 752) (by decide +kernel) rfl, mg (i := 126) (by decide +kernel) rfl, ⟨by decide, by decide⟩, by decide +kernel, by decide⟩
theorem cv_X8_moves : Cond.instanceMethod yX8_moves ∈ lw_g ∧ Cond.selects yX8_moves.cls yX8_moves yX8_moves ∈ lw_g := ⟨mg (i := 750) (by decide +kernel) rfl, mg (i := 751) (by decide +kernel) rfl⟩
theorem ml_RL_56 : Cond.methodLink RL 56 yX9_moves ∈ lw_g := mg (i := 1412) (by decide +kernel) rfl
theorem cf_X9_moves : CalF yX9_moves cX9_moves 7 (some .int) 5 := ⟨mg (i := 1415) (by decide +kernel) rfl, mg (i := 140) (by decide +kernel) rfl, ⟨by decide, by decide⟩, by decide +kernel, by decide⟩
theorem cv_X9_moves : Cond.instanceMethod yX9_moves ∈ lw_g ∧ Cond.selects yX9_moves.cls yX9_moves yX9_moves ∈ lw_g := ⟨mg (i := 1413) (by decide +kernel) rfl, mg (i := 1414) (by decide +kernel) rfl⟩
theorem ml_RL_57 : Cond.methodLink RL 57 yX8_solved ∈ lw_g := mg (i := 757) (by decide +kernel) rfl
theorem cf_X8_solved : CalF yX8_solved cX8_solved 2 (some .int) 1 := ⟨mg (i := 760) (by decide +kernel) rfl, mg (i := 126) (by decide +kernel) rfl, ⟨by decide, by decide⟩, by decide +kernel, by decide⟩
theorem cv_X8_solved : Cond.instanceMethod yX8_solved ∈ lw_g ∧ Cond.selects yX8_solved.cls yX8_solved yX8_solved ∈ lw_g := ⟨mg (i := 758) (by decide +kernel) rfl, mg (i := 759) (by decide +kernel) rfl⟩
theorem ml_RL_61 : Cond.methodLink RL 61 yX9_solved ∈ lw_g := mg (i := 1416) (by decide +kernel) rfl
theorem cf_X9_solved : CalF yX9_solved cX9_solved 2 (some .int) 1 := ⟨mg (i := 1419) (by decide +kernel) rfl, mg (i := 140) (by decide +kernel) rfl, ⟨by decide, by decide⟩, by decide +kernel, by decide⟩
theorem cv_X9_solved : Cond.instanceMethod yX9_solved ∈ lw_g ∧ Cond.selects yX9_solved.cls yX9_solved yX9_solved ∈ lw_g := ⟨mg (i := 1417) (by decide +kernel) rfl, mg (i := 1418) (by decide +kernel) rfl⟩
theorem ml_RL_62 : Cond.methodLink RL 62 yX8_puzzle ∈ lw_g := mg (i := 761) (by decide +kernel) rfl
theorem cf_X8_puzzle : CalF yX8_puzzle cX8_puzzle 3 (some .int) 2 := ⟨mg (i := 764) (by decide +kernel) rfl, mg (i := 126) (by decide +kernel) rfl, ⟨by decide, by decide⟩, by decide +kernel, by decide⟩
theorem cv_X8_puzzle : Cond.instanceMethod yX8_puzzle ∈ lw_g ∧ Cond.selects yX8_puzzle.cls yX8_puzzle yX8_puzzle ∈ lw_g := ⟨mg (i := 762) (by decide +kernel) rfl, mg (i := 763) (by decide +kernel) rfl⟩
theorem ml_RL_65 : Cond.methodLink RL 65 yX9_puzzle ∈ lw_g := mg (i := 1428) (by decide +kernel) rfl
theorem cf_X9_puzzle : CalF yX9_puzzle cX9_puzzle 5 (some .int) 2 := ⟨mg (i := 1431) (by decide +kernel) rfl, mg (i := 140) (by decide +kernel) rfl, ⟨by decide, by decide⟩, by decide +kernel, by decide⟩
theorem cv_X9_puzzle : Cond.instanceMethod yX9_puzzle ∈ lw_g ∧ Cond.selects yX9_puzzle.cls yX9_puzzle yX9_puzzle ∈ lw_g := ⟨mg (i := 1429) (by decide +kernel) rfl, mg (i := 1430) (by decide +kernel) rfl⟩
theorem ml_RL_66 : Cond.methodLink RL 66 yX8_turnings ∈ lw_g := mg (i := 784) (by decide +kernel) rfl
theorem cf_X8_turnings : CalF yX8_turnings cX8_turnings 1 (some .int) 0 := ⟨mg (i := 787) (by decide +kernel) rfl, mg (i := 126) (by decide +kernel) rfl, ⟨by decide, by decide⟩, by decide +kernel, by decide⟩
theorem cv_X8_turnings : Cond.instanceMethod yX8_turnings ∈ lw_g ∧ Cond.selects yX8_turnings.cls yX8_turnings yX8_turnings ∈ lw_g := ⟨mg (i := 785) (by decide +kernel) rfl, mg (i := 786) (by decide +kernel) rfl⟩
theorem ml_RL_69 : Cond.methodLink RL 69 yX9_turnings ∈ lw_g := mg (i := 1436) (by decide +kernel) rfl
theorem ml_RL_70 : Cond.methodLink RL 70 yX8_alike ∈ lw_g := mg (i := 812) (by decide +kernel) rfl
theorem cf_X8_alike : CalF yX8_alike cX8_alike 5 (some .int) 3 := ⟨mg (i := 815) (by decide +kernel) rfl, mg (i := 126) (by decide +kernel) rfl, ⟨by decide, by decide⟩, by decide +kernel, by decide⟩
theorem cv_X8_alike : Cond.instanceMethod yX8_alike ∈ lw_g ∧ Cond.selects yX8_alike.cls yX8_alike yX8_alike ∈ lw_g := ⟨mg (i := 813) (by decide +kernel) rfl, mg (i := 814) (by decide +kernel) rfl⟩
theorem ml_RL_73 : Cond.methodLink RL 73 yX9_alike ∈ lw_g := mg (i := 1452) (by decide +kernel) rfl
theorem cf_X9_alike : CalF yX9_alike cX9_alike 10 (some .int) 3 := ⟨mg (i := 1455) (by decide +kernel) rfl, mg (i := 140) (by decide +kernel) rfl, ⟨by decide, by decide⟩, by decide +kernel, by decide⟩
theorem cv_X9_alike : Cond.instanceMethod yX9_alike ∈ lw_g ∧ Cond.selects yX9_alike.cls yX9_alike yX9_alike ∈ lw_g := ⟨mg (i := 1453) (by decide +kernel) rfl, mg (i := 1454) (by decide +kernel) rfl⟩
theorem ml_RL_74 : Cond.methodLink RL 74 yX8_fairer ∈ lw_g := mg (i := 825) (by decide +kernel) rfl
theorem cf_X8_fairer : CalF yX8_fairer cX8_fairer 1 (some .int) 0 := ⟨mg (i := 828) (by decide +kernel) rfl, mg (i := 126) (by decide +kernel) rfl, ⟨by decide, by decide⟩, by decide +kernel, by decide⟩
theorem cv_X8_fairer : Cond.instanceMethod yX8_fairer ∈ lw_g ∧ Cond.selects yX8_fairer.cls yX8_fairer yX8_fairer ∈ lw_g := ⟨mg (i := 826) (by decide +kernel) rfl, mg (i := 827) (by decide +kernel) rfl⟩
theorem ml_RL_77 : Cond.methodLink RL 77 yX9_fairer ∈ lw_g := mg (i := 1456) (by decide +kernel) rfl
theorem cf_X9_fairer : CalF yX9_fairer cX9_fairer 6 (some .int) 0 := ⟨mg (i := 1459) (by decide +kernel) rfl, mg (i := 140) (by decide +kernel) rfl, ⟨by decide, by decide⟩, by decide +kernel, by decide⟩
theorem cv_X9_fairer : Cond.instanceMethod yX9_fairer ∈ lw_g ∧ Cond.selects yX9_fairer.cls yX9_fairer yX9_fairer ∈ lw_g := ⟨mg (i := 1457) (by decide +kernel) rfl, mg (i := 1458) (by decide +kernel) rfl⟩
theorem ml_RL_78 : Cond.methodLink RL 78 yX8_sees ∈ lw_g := mg (i := 846) (by decide +kernel) rfl
theorem cf_X8_sees : CalF yX8_sees cX8_sees 4 (some .int) 2 := ⟨mg (i := 849) (by decide +kernel) rfl, mg (i := 126) (by decide +kernel) rfl, ⟨by decide, by decide⟩, by decide +kernel, by decide⟩
theorem cv_X8_sees : Cond.instanceMethod yX8_sees ∈ lw_g ∧ Cond.selects yX8_sees.cls yX8_sees yX8_sees ∈ lw_g := ⟨mg (i := 847) (by decide +kernel) rfl, mg (i := 848) (by decide +kernel) rfl⟩
theorem ml_RL_81 : Cond.methodLink RL 81 yX9_sees ∈ lw_g := mg (i := 1472) (by decide +kernel) rfl
theorem cf_X9_sees : CalF yX9_sees cX9_sees 4 (some .int) 2 := ⟨mg (i := 1475) (by decide +kernel) rfl, mg (i := 140) (by decide +kernel) rfl, ⟨by decide, by decide⟩, by decide +kernel, by decide⟩
theorem cv_X9_sees : Cond.instanceMethod yX9_sees ∈ lw_g ∧ Cond.selects yX9_sees.cls yX9_sees yX9_sees ∈ lw_g := ⟨mg (i := 1473) (by decide +kernel) rfl, mg (i := 1474) (by decide +kernel) rfl⟩
theorem ml_RL_82 : Cond.methodLink RL 82 yX8_sure ∈ lw_g := mg (i := 858) (by decide +kernel) rfl
theorem cf_X8_sure : CalF yX8_sure cX8_sure 5 (some .int) 3 := ⟨mg (i := 861) (by decide +kernel) rfl, mg (i := 126) (by decide +kernel) rfl, ⟨by decide, by decide⟩, by decide +kernel, by decide⟩
theorem cv_X8_sure : Cond.instanceMethod yX8_sure ∈ lw_g ∧ Cond.selects yX8_sure.cls yX8_sure yX8_sure ∈ lw_g := ⟨mg (i := 859) (by decide +kernel) rfl, mg (i := 860) (by decide +kernel) rfl⟩
theorem ml_RL_85 : Cond.methodLink RL 85 yX9_sure ∈ lw_g := mg (i := 1484) (by decide +kernel) rfl
theorem cf_X9_sure : CalF yX9_sure cX9_sure 4 (some .int) 3 := ⟨mg (i := 1487) (by decide +kernel) rfl, mg (i := 140) (by decide +kernel) rfl, ⟨by decide, by decide⟩, by decide +kernel, by decide⟩
theorem cv_X9_sure : Cond.instanceMethod yX9_sure ∈ lw_g ∧ Cond.selects yX9_sure.cls yX9_sure yX9_sure ∈ lw_g := ⟨mg (i := 1485) (by decide +kernel) rfl, mg (i := 1486) (by decide +kernel) rfl⟩
theorem ml_RL_86 : Cond.methodLink RL 86 yX8_first ∈ lw_g := mg (i := 914) (by decide +kernel) rfl
theorem cf_X8_first : CalF yX8_first cX8_first 5 (some .int) 3 := ⟨mg (i := 917) (by decide +kernel) rfl, mg (i := 126) (by decide +kernel) rfl, ⟨by decide, by decide⟩, by decide +kernel, by decide⟩
theorem cv_X8_first : Cond.instanceMethod yX8_first ∈ lw_g ∧ Cond.selects yX8_first.cls yX8_first yX8_first ∈ lw_g := ⟨mg (i := 915) (by decide +kernel) rfl, mg (i := 916) (by decide +kernel) rfl⟩
theorem ml_RL_89 : Cond.methodLink RL 89 yX9_first ∈ lw_g := mg (i := 1532) (by decide +kernel) rfl
theorem cf_X9_first : CalF yX9_first cX9_first 10 (some .int) 3 := ⟨mg (i := 1535) (by decide +kernel) rfl, mg (i := 140) (by decide +kernel) rfl, ⟨by decide, by decide⟩, by decide +kernel, by decide⟩
theorem cv_X9_first : Cond.instanceMethod yX9_first ∈ lw_g ∧ Cond.selects yX9_first.cls yX9_first yX9_first ∈ lw_g := ⟨mg (i := 1533) (by decide +kernel) rfl, mg (i := 1534) (by decide +kernel) rfl⟩
theorem ml_RL_90 : Cond.methodLink RL 90 yX8_start ∈ lw_g := mg (i := 923) (by decide +kernel) rfl
theorem cf_X8_start : CalF yX8_start cX8_start 5 (some .int) 3 := ⟨mg (i := 926) (by decide +kernel) rfl, mg (i := 126) (by decide +kernel) rfl, ⟨by decide, by decide⟩, by decide +kernel, by decide⟩
theorem cv_X8_start : Cond.instanceMethod yX8_start ∈ lw_g ∧ Cond.selects yX8_start.cls yX8_start yX8_start ∈ lw_g := ⟨mg (i := 924) (by decide +kernel) rfl, mg (i := 925) (by decide +kernel) rfl⟩
theorem ml_RL_93 : Cond.methodLink RL 93 yX9_start ∈ lw_g := mg (i := 1536) (by decide +kernel) rfl
theorem cf_X9_start : CalF yX9_start cX9_start 5 (some .int) 3 := ⟨mg (i := 1539) (by decide +kernel) rfl, mg (i := 140) (by decide +kernel) rfl, ⟨by decide, by decide⟩, by decide +kernel, by decide⟩
theorem cv_X9_start : Cond.instanceMethod yX9_start ∈ lw_g ∧ Cond.selects yX9_start.cls yX9_start yX9_start ∈ lw_g := ⟨mg (i := 1537) (by decide +kernel) rfl, mg (i := 1538) (by decide +kernel) rfl⟩
theorem ml_RL_94 : Cond.methodLink RL 94 yX8_move ∈ lw_g := mg (i := 939) (by decide +kernel) rfl
theorem cf_X8_move : CalF yX8_move cX8_move 3 (some .int) 1 := ⟨mg (i := 942) (by decide +kernel) rfl, mg (i := 126) (by decide +kernel) rfl, ⟨by decide, by decide⟩, by decide +kernel, by decide⟩
theorem cv_X8_move : Cond.instanceMethod yX8_move ∈ lw_g ∧ Cond.selects yX8_move.cls yX8_move yX8_move ∈ lw_g := ⟨mg (i := 940) (by decide +kernel) rfl, mg (i := 941) (by decide +kernel) rfl⟩
theorem ml_RL_97 : Cond.methodLink RL 97 yX9_move ∈ lw_g := mg (i := 1544) (by decide +kernel) rfl
theorem cf_X9_move : CalF yX9_move cX9_move 2 (some .int) 1 := ⟨mg (i := 1547) (by decide +kernel) rfl, mg (i := 140) (by decide +kernel) rfl, ⟨by decide, by decide⟩, by decide +kernel, by decide⟩
theorem cv_X9_move : Cond.instanceMethod yX9_move ∈ lw_g ∧ Cond.selects yX9_move.cls yX9_move yX9_move ∈ lw_g := ⟨mg (i := 1545) (by decide +kernel) rfl, mg (i := 1546) (by decide +kernel) rfl⟩
theorem ml_RL_98 : Cond.methodLink RL 98 yX8_play ∈ lw_g := mg (i := 956) (by decide +kernel) rfl
theorem cf_X8_play : CalF yX8_play cX8_play 4 (some .int) 1 := ⟨mg (i := 959) (by decide +kernel) rfl, mg (i := 126) (by decide +kernel) rfl, ⟨by decide, by decide⟩, by decide +kernel, by decide⟩
theorem cv_X8_play : Cond.instanceMethod yX8_play ∈ lw_g ∧ Cond.selects yX8_play.cls yX8_play yX8_play ∈ lw_g := ⟨mg (i := 957) (by decide +kernel) rfl, mg (i := 958) (by decide +kernel) rfl⟩
theorem ml_RL_101 : Cond.methodLink RL 101 yX9_play ∈ lw_g := mg (i := 1552) (by decide +kernel) rfl
theorem cf_X9_play : CalF yX9_play cX9_play 3 (some .int) 1 := ⟨mg (i := 1555) (by decide +kernel) rfl, mg (i := 140) (by decide +kernel) rfl, ⟨by decide, by decide⟩, by decide +kernel, by decide⟩
theorem cv_X9_play : Cond.instanceMethod yX9_play ∈ lw_g ∧ Cond.selects yX9_play.cls yX9_play yX9_play ∈ lw_g := ⟨mg (i := 1553) (by decide +kernel) rfl, mg (i := 1554) (by decide +kernel) rfl⟩
theorem ml_RL_102 : Cond.methodLink RL 102 yX8_back ∈ lw_g := mg (i := 960) (by decide +kernel) rfl
theorem cf_X8_back : CalF yX8_back cX8_back 1 (some .int) 0 := ⟨mg (i := 963) (by decide +kernel) rfl, mg (i := 126) (by decide +kernel) rfl, ⟨by decide, by decide⟩, by decide +kernel, by decide⟩
theorem cv_X8_back : Cond.instanceMethod yX8_back ∈ lw_g ∧ Cond.selects yX8_back.cls yX8_back yX8_back ∈ lw_g := ⟨mg (i := 961) (by decide +kernel) rfl, mg (i := 962) (by decide +kernel) rfl⟩
theorem ml_RL_105 : Cond.methodLink RL 105 yX9_back ∈ lw_g := mg (i := 1556) (by decide +kernel) rfl
theorem cf_X9_back : CalF yX9_back cX9_back 1 (some .int) 0 := ⟨mg (i := 1559) (by decide +kernel) rfl, mg (i := 140) (by decide +kernel) rfl, ⟨by decide, by decide⟩, by decide +kernel, by decide⟩
theorem cv_X9_back : Cond.instanceMethod yX9_back ∈ lw_g ∧ Cond.selects yX9_back.cls yX9_back yX9_back ∈ lw_g := ⟨mg (i := 1557) (by decide +kernel) rfl, mg (i := 1558) (by decide +kernel) rfl⟩
theorem ml_RL_106 : Cond.methodLink RL 106 yX8_told ∈ lw_g := mg (i := 968) (by decide +kernel) rfl
theorem cf_X8_told : CalF yX8_told cX8_told 3 (some .int) 1 := ⟨mg (i := 971) (by decide +kernel) rfl, mg (i := 126) (by decide +kernel) rfl, ⟨by decide, by decide⟩, by decide +kernel, by decide⟩
theorem cv_X8_told : Cond.instanceMethod yX8_told ∈ lw_g ∧ Cond.selects yX8_told.cls yX8_told yX8_told ∈ lw_g := ⟨mg (i := 969) (by decide +kernel) rfl, mg (i := 970) (by decide +kernel) rfl⟩
theorem ml_RL_109 : Cond.methodLink RL 109 yX9_told ∈ lw_g := mg (i := 1560) (by decide +kernel) rfl
theorem cf_X9_told : CalF yX9_told cX9_told 2 (some .int) 1 := ⟨mg (i := 1563) (by decide +kernel) rfl, mg (i := 140) (by decide +kernel) rfl, ⟨by decide, by decide⟩, by decide +kernel, by decide⟩
theorem cv_X9_told : Cond.instanceMethod yX9_told ∈ lw_g ∧ Cond.selects yX9_told.cls yX9_told yX9_told ∈ lw_g := ⟨mg (i := 1561) (by decide +kernel) rfl, mg (i := 1562) (by decide +kernel) rfl⟩
theorem cn_RL_110 : Cond.constantLong RL 110 (4294967295 : Int64) ∈ lw_g := mg (i := 1695) (by decide +kernel) rfl
theorem ml_RL_112 : Cond.methodLink RL 112 yX8_feed ∈ lw_g := mg (i := 972) (by decide +kernel) rfl
theorem cf_X8_feed : CalF yX8_feed cX8_feed 5 (some .int) 2 := ⟨mg (i := 975) (by decide +kernel) rfl, mg (i := 126) (by decide +kernel) rfl, ⟨by decide, by decide⟩, by decide +kernel, by decide⟩
theorem cv_X8_feed : Cond.instanceMethod yX8_feed ∈ lw_g ∧ Cond.selects yX8_feed.cls yX8_feed yX8_feed ∈ lw_g := ⟨mg (i := 973) (by decide +kernel) rfl, mg (i := 974) (by decide +kernel) rfl⟩
theorem ml_RL_116 : Cond.methodLink RL 116 yX9_feed ∈ lw_g := mg (i := 1564) (by decide +kernel) rfl
theorem cf_X9_feed : CalF yX9_feed cX9_feed 5 (some .int) 2 := ⟨mg (i := 1567) (by decide +kernel) rfl, mg (i := 140) (by decide +kernel) rfl, ⟨by decide, by decide⟩, by decide +kernel, by decide⟩
theorem cv_X9_feed : Cond.instanceMethod yX9_feed ∈ lw_g ∧ Cond.selects yX9_feed.cls yX9_feed yX9_feed ∈ lw_g := ⟨mg (i := 1565) (by decide +kernel) rfl, mg (i := 1566) (by decide +kernel) rfl⟩
theorem ml_RL_117 : Cond.methodLink RL 117 yX8_text ∈ lw_g := mg (i := 976) (by decide +kernel) rfl
theorem cf_X8_text : CalF yX8_text cX8_text 1 (some .int) 0 := ⟨mg (i := 979) (by decide +kernel) rfl, mg (i := 126) (by decide +kernel) rfl, ⟨by decide, by decide⟩, by decide +kernel, by decide⟩
theorem cv_X8_text : Cond.instanceMethod yX8_text ∈ lw_g ∧ Cond.selects yX8_text.cls yX8_text yX8_text ∈ lw_g := ⟨mg (i := 977) (by decide +kernel) rfl, mg (i := 978) (by decide +kernel) rfl⟩
theorem ml_RL_120 : Cond.methodLink RL 120 yX9_text ∈ lw_g := mg (i := 1568) (by decide +kernel) rfl
theorem cf_X9_text : CalF yX9_text cX9_text 3 (some .int) 0 := ⟨mg (i := 1571) (by decide +kernel) rfl, mg (i := 140) (by decide +kernel) rfl, ⟨by decide, by decide⟩, by decide +kernel, by decide⟩
theorem cv_X9_text : Cond.instanceMethod yX9_text ∈ lw_g ∧ Cond.selects yX9_text.cls yX9_text yX9_text ∈ lw_g := ⟨mg (i := 1569) (by decide +kernel) rfl, mg (i := 1570) (by decide +kernel) rfl⟩
theorem ml_RL_121 : Cond.methodLink RL 121 yX8_force ∈ lw_g := mg (i := 1060) (by decide +kernel) rfl
theorem cf_X8_force : CalF yX8_force cX8_force 3 (some .int) 1 := ⟨mg (i := 1063) (by decide +kernel) rfl, mg (i := 126) (by decide +kernel) rfl, ⟨by decide, by decide⟩, by decide +kernel, by decide⟩
theorem cv_X8_force : Cond.instanceMethod yX8_force ∈ lw_g ∧ Cond.selects yX8_force.cls yX8_force yX8_force ∈ lw_g := ⟨mg (i := 1061) (by decide +kernel) rfl, mg (i := 1062) (by decide +kernel) rfl⟩
theorem ml_RL_124 : Cond.methodLink RL 124 yX9_force ∈ lw_g := mg (i := 1644) (by decide +kernel) rfl
theorem cf_X9_force : CalF yX9_force cX9_force 3 (some .int) 1 := ⟨mg (i := 1647) (by decide +kernel) rfl, mg (i := 140) (by decide +kernel) rfl, ⟨by decide, by decide⟩, by decide +kernel, by decide⟩
theorem cv_X9_force : Cond.instanceMethod yX9_force ∈ lw_g ∧ Cond.selects yX9_force.cls yX9_force yX9_force ∈ lw_g := ⟨mg (i := 1645) (by decide +kernel) rfl, mg (i := 1646) (by decide +kernel) rfl⟩
theorem ml_RL_125 : Cond.methodLink RL 125 yX8_says ∈ lw_g := mg (i := 1064) (by decide +kernel) rfl
theorem cf_X8_says : CalF yX8_says cX8_says 4 (some .long) 1 := ⟨mg (i := 1067) (by decide +kernel) rfl, mg (i := 126) (by decide +kernel) rfl, ⟨by decide, by decide⟩, by decide +kernel, by decide⟩
theorem cv_X8_says : Cond.instanceMethod yX8_says ∈ lw_g ∧ Cond.selects yX8_says.cls yX8_says yX8_says ∈ lw_g := ⟨mg (i := 1065) (by decide +kernel) rfl, mg (i := 1066) (by decide +kernel) rfl⟩
theorem ml_RL_129 : Cond.methodLink RL 129 yX9_says ∈ lw_g := mg (i := 1648) (by decide +kernel) rfl
theorem cf_X9_says : CalF yX9_says cX9_says 6 (some .long) 1 := ⟨mg (i := 1651) (by decide +kernel) rfl, mg (i := 140) (by decide +kernel) rfl, ⟨by decide, by decide⟩, by decide +kernel, by decide⟩
theorem cv_X9_says : Cond.instanceMethod yX9_says ∈ lw_g ∧ Cond.selects yX9_says.cls yX9_says yX9_says ∈ lw_g := ⟨mg (i := 1649) (by decide +kernel) rfl, mg (i := 1650) (by decide +kernel) rfl⟩
theorem ml_RL_130 : Cond.methodLink RL 130 yX8_count ∈ lw_g := mg (i := 1074) (by decide +kernel) rfl
theorem cf_X8_count : CalF yX8_count cX8_count 2 (some .int) 1 := ⟨mg (i := 1077) (by decide +kernel) rfl, mg (i := 126) (by decide +kernel) rfl, ⟨by decide, by decide⟩, by decide +kernel, by decide⟩
theorem cv_X8_count : Cond.instanceMethod yX8_count ∈ lw_g ∧ Cond.selects yX8_count.cls yX8_count yX8_count ∈ lw_g := ⟨mg (i := 1075) (by decide +kernel) rfl, mg (i := 1076) (by decide +kernel) rfl⟩
theorem ml_RL_133 : Cond.methodLink RL 133 yX9_count ∈ lw_g := mg (i := 1666) (by decide +kernel) rfl
theorem cf_X9_count : CalF yX9_count cX9_count 2 (some .int) 1 := ⟨mg (i := 1669) (by decide +kernel) rfl, mg (i := 140) (by decide +kernel) rfl, ⟨by decide, by decide⟩, by decide +kernel, by decide⟩
theorem cv_X9_count : Cond.instanceMethod yX9_count ∈ lw_g ∧ Cond.selects yX9_count.cls yX9_count yX9_count ∈ lw_g := ⟨mg (i := 1667) (by decide +kernel) rfl, mg (i := 1668) (by decide +kernel) rfl⟩
theorem ml_RL_134 : Cond.methodLink RL 134 yX8_sheet ∈ lw_g := mg (i := 1078) (by decide +kernel) rfl
theorem cf_X8_sheet : CalF yX8_sheet cX8_sheet 4 (some .int) 3 := ⟨mg (i := 1081) (by decide +kernel) rfl, mg (i := 126) (by decide +kernel) rfl, ⟨by decide, by decide⟩, by decide +kernel, by decide⟩
theorem cv_X8_sheet : Cond.instanceMethod yX8_sheet ∈ lw_g ∧ Cond.selects yX8_sheet.cls yX8_sheet yX8_sheet ∈ lw_g := ⟨mg (i := 1079) (by decide +kernel) rfl, mg (i := 1080) (by decide +kernel) rfl⟩
theorem ml_RL_137 : Cond.methodLink RL 137 yX9_sheet ∈ lw_g := mg (i := 1670) (by decide +kernel) rfl
theorem cf_X9_sheet : CalF yX9_sheet cX9_sheet 5 (some .int) 3 := ⟨mg (i := 1673) (by decide +kernel) rfl, mg (i := 140) (by decide +kernel) rfl, ⟨by decide, by decide⟩, by decide +kernel, by decide⟩
theorem cv_X9_sheet : Cond.instanceMethod yX9_sheet ∈ lw_g ∧ Cond.selects yX9_sheet.cls yX9_sheet yX9_sheet ∈ lw_g := ⟨mg (i := 1671) (by decide +kernel) rfl, mg (i := 1672) (by decide +kernel) rfl⟩
theorem ml_RL_138 : Cond.methodLink RL 138 yX8_cell ∈ lw_g := mg (i := 1091) (by decide +kernel) rfl
theorem cf_X8_cell : CalF yX8_cell cX8_cell 4 (some .int) 3 := ⟨mg (i := 1094) (by decide +kernel) rfl, mg (i := 126) (by decide +kernel) rfl, ⟨by decide, by decide⟩, by decide +kernel, by decide⟩
theorem cv_X8_cell : Cond.instanceMethod yX8_cell ∈ lw_g ∧ Cond.selects yX8_cell.cls yX8_cell yX8_cell ∈ lw_g := ⟨mg (i := 1092) (by decide +kernel) rfl, mg (i := 1093) (by decide +kernel) rfl⟩
theorem ml_RL_140 : Cond.methodLink RL 140 yX9_cell ∈ lw_g := mg (i := 1678) (by decide +kernel) rfl
theorem cf_X9_cell : CalF yX9_cell cX9_cell 4 (some .int) 3 := ⟨mg (i := 1681) (by decide +kernel) rfl, mg (i := 140) (by decide +kernel) rfl, ⟨by decide, by decide⟩, by decide +kernel, by decide⟩
theorem cv_X9_cell : Cond.instanceMethod yX9_cell ∈ lw_g ∧ Cond.selects yX9_cell.cls yX9_cell yX9_cell ∈ lw_g := ⟨mg (i := 1679) (by decide +kernel) rfl, mg (i := 1680) (by decide +kernel) rfl⟩
theorem ml_RL_141 : Cond.methodLink RL 141 yX8_ways ∈ lw_g := mg (i := 1104) (by decide +kernel) rfl
theorem cf_X8_ways : CalF yX8_ways cX8_ways 9 (some .int) 4 := ⟨mg (i := 1107) (by decide +kernel) rfl, mg (i := 126) (by decide +kernel) rfl, ⟨by decide, by decide⟩, by decide +kernel, by decide⟩
theorem cv_X8_ways : Cond.instanceMethod yX8_ways ∈ lw_g ∧ Cond.selects yX8_ways.cls yX8_ways yX8_ways ∈ lw_g := ⟨mg (i := 1105) (by decide +kernel) rfl, mg (i := 1106) (by decide +kernel) rfl⟩
theorem ml_RL_145 : Cond.methodLink RL 145 yX9_ways ∈ lw_g := mg (i := 1682) (by decide +kernel) rfl
theorem cf_X9_ways : CalF yX9_ways cX9_ways 8 (some .int) 4 := ⟨mg (i := 1685) (by decide +kernel) rfl, mg (i := 140) (by decide +kernel) rfl, ⟨by decide, by decide⟩, by decide +kernel, by decide⟩
theorem cv_X9_ways : Cond.instanceMethod yX9_ways ∈ lw_g ∧ Cond.selects yX9_ways.cls yX9_ways yX9_ways ∈ lw_g := ⟨mg (i := 1683) (by decide +kernel) rfl, mg (i := 1684) (by decide +kernel) rfl⟩
theorem ml_RL_146 : Cond.methodLink RL 146 yX8_taken ∈ lw_g := mg (i := 1109) (by decide +kernel) rfl
theorem cf_X8_taken : CalF yX8_taken cX8_taken 5 (some .int) 2 := ⟨mg (i := 1112) (by decide +kernel) rfl, mg (i := 126) (by decide +kernel) rfl, ⟨by decide, by decide⟩, by decide +kernel, by decide⟩
theorem cv_X8_taken : Cond.instanceMethod yX8_taken ∈ lw_g ∧ Cond.selects yX8_taken.cls yX8_taken yX8_taken ∈ lw_g := ⟨mg (i := 1110) (by decide +kernel) rfl, mg (i := 1111) (by decide +kernel) rfl⟩
theorem ml_RL_149 : Cond.methodLink RL 149 yX9_taken ∈ lw_g := mg (i := 1687) (by decide +kernel) rfl
theorem cf_X9_taken : CalF yX9_taken cX9_taken 3 (some .int) 2 := ⟨mg (i := 1690) (by decide +kernel) rfl, mg (i := 140) (by decide +kernel) rfl, ⟨by decide, by decide⟩, by decide +kernel, by decide⟩
theorem cv_X9_taken : Cond.instanceMethod yX9_taken ∈ lw_g ∧ Cond.selects yX9_taken.cls yX9_taken yX9_taken ∈ lw_g := ⟨mg (i := 1688) (by decide +kernel) rfl, mg (i := 1689) (by decide +kernel) rfl⟩
