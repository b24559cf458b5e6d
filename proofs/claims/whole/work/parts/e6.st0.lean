/-! the start: what memory holds behind both constructors -/
theorem rz_s {F c n j : Nat} {i v : Int32} {f : Mem → Option Mem} {I : Nat → Nat → Int32} (hr : R0 none none none (some 50) 60 F = some c) (hs : sh c = some (.inr (0, n))) (hi : i = nI j) (hj : j < n) (hn : n < 2 ^ 31) : ((fR 9 (I, R0 none none none (some 50)) (some 60) F).bind fun a => (sI 0 (I, R0 none none none (some 50)) a i v).bind f) = f (up2 I c j v, R0 none none none (some 50)) := by
  have e1 : fR 9 (I, R0 none none none (some 50)) (some 60) F = some (R0 none none none (some 50) 60 F) := rfl
  have e2 : sI 0 (I, R0 none none none (some 50)) (some c) (nI j) v = some (up2 I c j v, R0 none none none (some 50)) := (sI_lit hs (vp_in_nI hj hn)).trans (by rw [nI_clamp (by omega)]; rfl)
  rw [e1, hr, hi]
  show (sI 0 (I, R0 none none none (some 50)) (some c) (nI j) v).bind f = _
  rw [e2]
  rfl
theorem rz0 {FU : Nat} {I : Nat → Nat → Int32} : fX9_ruleZero FU 60 (I, R0 none none none (some 50)) = some (puts lz0 I, R0 none none none (some 50)) := by
  unfold fX9_ruleZero
  rw [rz_s (F := 30) (c := 77) (n := 16) (j := 0) (i := (0 : Int32)) rfl rfl rfl (by decide) (by decide)]
  rw [rz_s (F := 31) (c := 78) (n := 1920) (j := 0) (i := (0 : Int32)) rfl rfl rfl (by decide) (by decide)]
  rw [rz_s (F := 31) (c := 78) (n := 1920) (j := 1) (i := (1 : Int32)) rfl rfl rfl (by decide) (by decide)]
  rw [rz_s (F := 31) (c := 78) (n := 1920) (j := 2) (i := (2 : Int32)) rfl rfl rfl (by decide) (by decide)]
  rw [rz_s (F := 31) (c := 78) (n := 1920) (j := 3) (i := (3 : Int32)) rfl rfl rfl (by decide) (by decide)]
  rw [rz_s (F := 31) (c := 78) (n := 1920) (j := 4) (i := (4 : Int32)) rfl rfl rfl (by decide) (by decide)]
  rw [rz_s (F := 30) (c := 77) (n := 16) (j := 1) (i := (1 : Int32)) rfl rfl rfl (by decide) (by decide)]
  rw [rz_s (F := 31) (c := 78) (n := 1920) (j := 120) (i := (120 : Int32)) rfl rfl rfl (by decide) (by decide)]
  rw [rz_s (F := 31) (c := 78) (n := 1920) (j := 121) (i := (121 : Int32)) rfl rfl rfl (by decide) (by decide)]
  rw [rz_s (F := 31) (c := 78) (n := 1920) (j := 122) (i := (122 : Int32)) rfl rfl rfl (by decide) (by decide)]
  rw [rz_s (F := 31) (c := 78) (n := 1920) (j := 123) (i := (123 : Int32)) rfl rfl rfl (by decide) (by decide)]
  rw [rz_s (F := 31) (c := 78) (n := 1920) (j := 124) (i := (124 : Int32)) rfl rfl rfl (by decide) (by decide)]
  rfl
theorem mem_0 {FU : Nat} (x : Int32) : fX9_ruleZero FU 60 (n9 x (n8 x M0)) = some (JJ x, R0 none none none (some 50)) := by
  have e : n9 x (n8 x M0) = (puts (li9 x) (puts (li8 x) (fun _ _ => 0)), R0 none none none (some 50)) := by
    refine Prod.ext ?_ (m9_2 x)
    rw [n9_1, n8_1]
    rfl
  rw [e, rz0]
  rfl
theorem bq_ne {a b : Nat} (h : a ≠ b) : Nat.beq a b = false := by
  cases hb : Nat.beq a b with
  | false => rfl
  | true => exact absurd (Nat.eq_of_beq_eq_true hb) h
def look {α : Type} : List (Nat × Nat × α) → Nat → Nat → Option α
  | [], _, _ => none
  | q :: l, k, i => bif (Nat.beq q.1 k && Nat.beq q.2.1 i) then some q.2.2 else look l k i
theorem puts_look {α : Type} {R : Nat → Nat → α} {k i : Nat} : ∀ l : List (Nat × Nat × α), puts l R k i = (look l k i).getD (R k i)
  | [] => rfl
  | q :: l => by
    show up2 (puts l R) q.1 q.2.1 q.2.2 k i = (bif (Nat.beq q.1 k && Nat.beq q.2.1 i) then some q.2.2 else look l k i).getD (R k i)
    by_cases e : k = q.1
    · subst e
      rw [up2_eq]
      unfold va_up
      rw [Nat.beq_refl, Bool.true_and]
      by_cases e2 : i = q.2.1
      · subst e2
        rw [if_pos rfl, Nat.beq_refl]
        rfl
      · rw [if_neg e2, bq_ne (fun z => e2 z.symm)]
        exact puts_look l
    · rw [up2_ne e, bq_ne (fun z => e z.symm), Bool.false_and]
      exact puts_look l
theorem puts_no {α : Type} {R : Nat → Nat → α} {k : Nat} : ∀ {l : List (Nat × Nat × α)}, l.all (fun q => !(Nat.beq q.1 k)) = true → puts l R k = R k
  | [], _ => rfl
  | q :: l, h => by
    rw [List.all_cons, Bool.and_eq_true] at h
    have h1 : k ≠ q.1 := fun e => by
      have h9 := h.1
      rw [← e, Nat.beq_refl] at h9
      cases h9
    show up2 (puts l R) q.1 q.2.1 q.2.2 k = R k
    rw [up2_ne h1]
    exact puts_no h.2
def ll (x : Int32) : List (Nat × Nat × Int32) := lz0 ++ (li9 x ++ li8 x)
theorem jj_e (x : Int32) : JJ x = puts (ll x) (fun _ _ => 0) := by
  unfold JJ ll
  rw [puts_app, puts_app]
theorem jj {x v : Int32} {k i : Nat} (h : look (ll x) k i = some v) : JJ x k i = v := by
  rw [jj_e, puts_look, h]
  rfl
theorem jz {x : Int32} {k i : Nat} (h : look (ll x) k i = none) : JJ x k i = nI 0 := by
  rw [jj_e, puts_look, h]
  rfl
theorem jn {x : Int32} {k : Nat} (h : (ll x).all (fun q => !(Nat.beq q.1 k)) = true) (i : Nat) : JJ x k i = nI 0 := by
  rw [jj_e, puts_no h]
  rfl
theorem j41 (x : Int32) : ∀ j, j < 51 → look (ll x) 41 j = some (b0 j)
  | 0, _ => rfl
  | 1, _ => rfl
  | 2, _ => rfl
  | 3, _ => rfl
  | 4, _ => rfl
  | 5, _ => rfl
  | 6, _ => rfl
  | 7, _ => rfl
  | 8, _ => rfl
  | 9, _ => rfl
  | 10, _ => rfl
  | 11, _ => rfl
  | 12, _ => rfl
  | 13, _ => rfl
  | 14, _ => rfl
  | 15, _ => rfl
  | 16, _ => rfl
  | 17, _ => rfl
  | 18, _ => rfl
  | 19, _ => rfl
  | 20, _ => rfl
  | 21, _ => rfl
  | 22, _ => rfl
  | 23, _ => rfl
  | 24, _ => rfl
  | 25, _ => rfl
  | 26, _ => rfl
  | 27, _ => rfl
  | 28, _ => rfl
  | 29, _ => rfl
  | 30, _ => rfl
  | 31, _ => rfl
  | 32, _ => rfl
  | 33, _ => rfl
  | 34, _ => rfl
  | 35, _ => rfl
  | 36, _ => rfl
  | 37, _ => rfl
  | 38, _ => rfl
  | 39, _ => rfl
  | 40, _ => rfl
  | 41, _ => rfl
  | 42, _ => rfl
  | 43, _ => rfl
  | 44, _ => rfl
  | 45, _ => rfl
  | 46, _ => rfl
  | 47, _ => rfl
  | 48, _ => rfl
  | 49, _ => rfl
  | 50, _ => rfl
  | n + 51, h => absurd h (by omega)
theorem st8_0 {x : Int32} {p : Nat} (hp : (3 : Int32) + fmJ x 6 = nI p) : St8 p (JJ x) := by
  refine ⟨⟨(jj rfl).trans hp, jz rfl, jz rfl, jj (v := nI 1) rfl, jj (v := nI 1) rfl, jz rfl⟩, fun i _ => jn rfl i, fun i _ => jn rfl i, (jj rfl).trans hp, jj (v := mI 1) rfl, jj (v := mI 1) rfl, jj (v := mI 1) rfl, jj (v := mI 1) rfl, jz rfl, ⟨jz rfl, jj (v := nI 1) rfl, jz rfl⟩, ⟨jj (v := nI 51) rfl, fun j hj => jj (j41 x j hj)⟩, fun s hs => ?_⟩
  obtain y | y | y | y : s = 0 ∨ s = 1 ∨ s = 2 ∨ s = 3 := by omega
  all_goals subst y; exact ⟨jj (v := mI 1) rfl, jz rfl, fun i _ => jn rfl i⟩
theorem st9_0 {x : Int32} {p : Nat} (hp : (3 : Int32) + (((x - x / 6 * 6) + 6) - ((x - x / 6 * 6) + 6) / 6 * 6) = nI p) : St9 p (JJ x) := by
  refine ⟨⟨(jj rfl).trans hp, jj (v := nI 0) rfl, jj (v := nI 1) rfl, jj (v := nI 1) rfl⟩, fun i _ => jn rfl i, fun i _ => jn rfl i, jj (v := nI 0) rfl, jj (v := nI 0) rfl, fun i _ => jn rfl i, jj (v := nI 0) rfl, ⟨jj (v := nI 0) rfl, jj (v := nI 1) rfl, jj (v := nI 0) rfl⟩, ⟨jj (v := nI 5) rfl, jj (v := nI 5) rfl, fun j hj => ?_⟩, fun s hs => ?_⟩
  · obtain y | y | y | y | y : j = 0 ∨ j = 1 ∨ j = 2 ∨ j = 3 ∨ j = 4 := by omega
    all_goals subst y; exact ⟨jj rfl, jj rfl⟩
  · obtain y | y | y | y : s = 0 ∨ s = 1 ∨ s = 2 ∨ s = 3 := by omega
    all_goals subst y; exact ⟨jj (v := mI 1) rfl, jn rfl _, fun i _ => jn rfl _⟩
