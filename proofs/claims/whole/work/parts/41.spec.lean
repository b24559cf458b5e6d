/-! the plan as numbers, and what both sides reckon of it -/
/-- how many below n -/
def cnt (p : Nat → Bool) : Nat → Nat
  | 0 => 0
  | n + 1 => cnt p n + if p n then 1 else 0
/-- one below n -/
def anyB (p : Nat → Bool) : Nat → Bool
  | 0 => false
  | n + 1 => anyB p n || p n
/-- those below n as bits -/
def mk (p : Nat → Bool) : Nat → Nat
  | 0 => 0
  | n + 1 => mk p n ||| if p n then 2 ^ n else 0
theorem cnt_le (p : Nat → Bool) (n : Nat) : cnt p n ≤ n := by
  induction n with
  | zero => exact Nat.le_refl _
  | succ n ih => unfold cnt; split <;> omega
theorem cnt_mono (p : Nat → Bool) {a b : Nat} (h : a ≤ b) : cnt p a ≤ cnt p b := by
  induction b with
  | zero => have : a = 0 := by omega
            subst this; exact Nat.le_refl _
  | succ b ih =>
    by_cases e : a = b + 1
    · subst e; exact Nat.le_refl _
    · have := ih (by omega)
      show _ ≤ cnt p b + _
      omega
theorem cnt_congr {p q : Nat → Bool} {n : Nat} (h : ∀ i, i < n → p i = q i) : cnt p n = cnt q n := by
  induction n with
  | zero => rfl
  | succ n ih =>
    unfold cnt
    rw [ih (fun i hi => h i (by omega)), h n (by omega)]
theorem anyB_iff {p : Nat → Bool} {n : Nat} : anyB p n = true ↔ ∃ i, i < n ∧ p i = true := by
  induction n with
  | zero => exact ⟨fun h => (by cases h), fun ⟨i, h, _⟩ => (by omega)⟩
  | succ n ih =>
    unfold anyB
    rw [Bool.or_eq_true, ih]
    constructor
    · rintro (⟨i, h1, h2⟩ | h)
      · exact ⟨i, by omega, h2⟩
      · exact ⟨n, by omega, h⟩
    · rintro ⟨i, h1, h2⟩
      by_cases e : i = n
      · subst e; exact Or.inr h2
      · exact Or.inl ⟨i, by omega, h2⟩
theorem tb_mk (p : Nat → Bool) (n i : Nat) : (mk p n).testBit i = (decide (i < n) && p i) := by
  induction n with
  | zero => unfold mk; rw [Nat.zero_testBit]; rfl
  | succ n ih =>
    unfold mk
    rw [Nat.testBit_or, ih]
    by_cases e : i = n
    · subst e
      cases hp : p i
      · simp
      · simp [Nat.testBit_two_pow_self]
    · have h1 : (if p n = true then 2 ^ n else 0).testBit i = false := by
        split
        · rw [Nat.testBit_two_pow]; simp; omega
        · exact Nat.zero_testBit i
      rw [h1, Bool.or_false]
      by_cases h : i < n
      · simp [h, show i < n + 1 by omega]
      · simp [h, show ¬ i < n + 1 by omega]
theorem mk_lt (p : Nat → Bool) (n : Nat) : mk p n < 2 ^ n := by
  apply Nat.lt_pow_two_of_testBit
  intro i hi
  rw [tb_mk]
  simp; omega
theorem mk_congr {p q : Nat → Bool} {n : Nat} (h : ∀ i, i < n → p i = q i) : mk p n = mk q n := by
  apply Nat.eq_of_testBit_eq
  intro i
  rw [tb_mk, tb_mk]
  by_cases e : i < n
  · rw [h i e]
  · simp [e]
theorem lt_of_tb {a k : Nat} (h : ∀ i, k ≤ i → a.testBit i = false) : a < 2 ^ k := Nat.lt_pow_two_of_testBit a h
theorem tb_of_lt {a k i : Nat} (h : a < 2 ^ k) (hi : k ≤ i) : a.testBit i = false := Nat.testBit_lt_two_pow (Nat.lt_of_lt_of_le h (Nat.pow_le_pow_right (by decide) hi))
/-- a plan: places, ways, hunters, sight; kinds, starts, ends; grounds -/
abbrev Pln : Type := Nat × Nat × Nat × Nat × (Nat → Nat) × (Nat → Nat) × (Nat → Nat) × (Nat → Nat)
def Pp (P : Pln) : Nat := P.1
def Pn (P : Pln) : Nat := P.2.1
def Ph (P : Pln) : Nat := P.2.2.1
def Ps (P : Pln) : Nat := P.2.2.2.1
def Pk (P : Pln) : Nat → Nat := P.2.2.2.2.1
def Pa (P : Pln) : Nat → Nat := P.2.2.2.2.2.1
def Pb (P : Pln) : Nat → Nat := P.2.2.2.2.2.2.1
def Pg (P : Pln) : Nat → Nat := P.2.2.2.2.2.2.2
def isSh (k : Nat) : Bool := k == 2 || k == 3 || k == 5
theorem isSh_iff {k : Nat} : isSh k = true ↔ k = 2 ∨ k = 3 ∨ k = 5 := by
  unfold isSh
  simp [or_assoc]
/-- shutters among the first n ways -/
def shN (P : Pln) (n : Nat) : Nat := cnt (fun w => isSh (Pk P w)) n
/-- which shutter a way is -/
def shO (P : Pln) (w : Nat) : Option Nat := if isSh (Pk P w) = true then some (shN P w) else none
def shF (k : Nat) : Nat := if k = 3 then 2 else if isSh k = true then 1 else 0
def shS (P : Pln) : Nat := if shN P (Pn P) = 0 then 1 else if shN P (Pn P) = 1 then 3 else 9
def WfP (P : Pln) : Prop := 3 ≤ Pp P ∧ Pp P ≤ 8 ∧ Pn P ≤ 16 ∧ (Ph P = 1 ∨ Ph P = 2) ∧ Ps P ≤ 3 ∧ (∀ w, w < Pn P → Pk P w < 6 ∧ Pa P w < Pp P ∧ Pb P w < Pp P ∧ Pa P w ≠ Pb P w) ∧ (∀ x, x < Pp P → Pg P x < 4) ∧ shN P (Pn P) ≤ 2
/-- where a way leads from a place -/
def ld (P : Pln) (w x : Nat) : Option Nat := if Pa P w = x then some (Pb P w) else if Pb P w = x ∧ Pk P w ≠ 5 then some (Pa P w) else none
/-- a way joins two places -/
def bsd (P : Pln) (x y : Nat) : Bool := anyB (fun w => (Pa P w == x && Pb P w == y) || (Pa P w == y && Pb P w == x)) (Pn P)
def nearM (P : Pln) (x : Nat) : Nat := mk (bsd P x) 8
def plcM (h i : Nat) : Nat := 2 ^ h ||| 2 ^ i
/-- a way isn't shut -/
def opn (P : Pln) (w sh : Nat) : Bool := match shO P w with
  | none => true
  | some k => (if k = 0 then sh % 3 else sh / 3) == 0
/-- what is shut behind a turn, in which shutter k was passed, that is shut for f -/
def shB (sh : Nat) (k : Option Nat) (f : Nat) : Nat := 3 * (if k = some 1 then f else sh / 3 - 1) + (if k = some 0 then f else sh % 3 - 1)
def runMay (P : Pln) (w x h i : Nat) : Bool := !(Pk P w == 3) && !(Pk P w == 4 && (bsd P h x || bsd P i x))
def runE (P : Pln) (w x h i : Nat) : Option Nat := if runMay P w x h i = true then ld P w x else none
def hunE (P : Pln) (w x : Nat) : Option Nat := if Pk P w = 1 ∨ Pk P w = 4 then none else ld P w x
def isWl (P : Pln) (x : Nat) : Bool := Pg P x % 2 == 1
def isHl (P : Pln) (x : Nat) : Bool := decide (2 ≤ Pg P x)
def srt (x y : Nat) : Nat × Nat := if x < y then (x, y) else (y, x)
/-- hunters behind a move, whatever is shut -/
def pAft (P : Pln) (h i m : Nat) : Option (Nat × Nat) := if m = 0 then some (h, i) else if Pn P ≤ (m - 1) % 16 ∨ (16 < m ∧ h = i) then none else (hunE P ((m - 1) % 16) (if 16 < m then i else h)).map (fun to => if Ph P = 1 then (to, to) else srt to (if 16 < m then h else i))
/-- the runner's place behind a move, whatever is shut -/
def rAft (P : Pln) (h i r m : Nat) : Option Nat := if m = 0 then (if isWl P r = true then some r else none) else if Pn P < m then none else runE P (m - 1) r h i
def opnM (P : Pln) (m sh : Nat) : Bool := m == 0 || opn P ((m - 1) % 16) sh
def shM (P : Pln) (m sh : Nat) : Nat := if m = 0 then shB sh none 0 else shB sh (shO P ((m - 1) % 16)) (shF (Pk P ((m - 1) % 16)))
/-- a standing: hunters, runner, turn, shut -/
abbrev Sd : Type := Nat × Nat × Nat × Nat × Nat
/-- behind a move -/
def bhd (P : Pln) (s : Sd) (m : Nat) : Option Sd := if opnM P m s.2.2.2.2 = true then (if s.2.2.2.1 = 1 then (rAft P s.1 s.2.1 s.2.2.1 m).map (fun r => (s.1, s.2.1, r, 0, shM P m s.2.2.2.2)) else (pAft P s.1 s.2.1 m).map (fun q => (q.1, q.2, s.2.2.1, 1, shM P m s.2.2.2.2))) else none
/-- hunters' places that can be -/
def isPr (P : Pln) (h i : Nat) : Bool := decide (h < Pp P) && decide (i < Pp P) && (if Ph P = 1 then h == i else decide (h ≤ i))
theorem isPr_iff {P : Pln} {h i : Nat} : isPr P h i = true ↔ h < Pp P ∧ i < Pp P ∧ (Ph P = 1 → h = i) ∧ (Ph P ≠ 1 → h ≤ i) := by
  unfold isPr
  by_cases e : Ph P = 1
  · simp [e, and_assoc]
  · simp [e, and_assoc]
/-- a standing that can be -/
def Vd (P : Pln) (s : Sd) : Prop := isPr P s.1 s.2.1 = true ∧ s.2.2.1 < Pp P ∧ s.2.2.2.1 < 2 ∧ s.2.2.2.2 < shS P
/-- its number in the class, in the reference -/
def cC (s : Sd) : Nat := s.2.2.2.2 * 1024 + (s.2.2.2.1 * 512 + ((s.1 * 8 + s.2.1) * 8 + s.2.2.1))
def cR (s : Sd) : Nat := (((s.1 * 8 + s.2.1) * 8 + s.2.2.1) * 2 + s.2.2.2.1) * 9 + s.2.2.2.2
/-- what hunters see: in k steps from a set -/
def seeK (P : Pln) (s : Nat) : Nat → Nat
  | 0 => s
  | k + 1 => seeK P s k ||| mk (fun y => anyB (fun x => (seeK P s k).testBit x && bsd P x y) (Pp P)) 8
def seeP (P : Pln) (x : Nat) : Nat := seeK P (2 ^ x) (Ps P + if isHl P x = true then 1 else 0)
def seeH (P : Pln) (h i : Nat) : Nat := seeP P h ||| seeP P i
/-- to where the runner goes from x -/
def rch (P : Pln) (x h i sh : Nat) : Nat := mk (fun y => ((isWl P x && x == y) || anyB (fun w => opn P w sh && runE P w x h i == some y) (Pn P)) && !(y == h) && !(y == i)) 8
/-! bounds -/
theorem wf_p {P : Pln} (h : WfP P) : 3 ≤ Pp P ∧ Pp P ≤ 8 := ⟨h.1, h.2.1⟩
theorem wf_n {P : Pln} (h : WfP P) : Pn P ≤ 16 := h.2.2.1
theorem wf_h {P : Pln} (h : WfP P) : Ph P = 1 ∨ Ph P = 2 := h.2.2.2.1
theorem wf_s {P : Pln} (h : WfP P) : Ps P ≤ 3 := h.2.2.2.2.1
theorem wf_w {P : Pln} (h : WfP P) {w : Nat} (hw : w < Pn P) : Pk P w < 6 ∧ Pa P w < Pp P ∧ Pb P w < Pp P ∧ Pa P w ≠ Pb P w := h.2.2.2.2.2.1 w hw
theorem wf_g {P : Pln} (h : WfP P) {x : Nat} (hx : x < Pp P) : Pg P x < 4 := h.2.2.2.2.2.2.1 x hx
theorem wf_sh {P : Pln} (h : WfP P) : shN P (Pn P) ≤ 2 := h.2.2.2.2.2.2.2
theorem shN_lt {P : Pln} {w n : Nat} (hw : w < n) (hs : isSh (Pk P w) = true) : shN P w < shN P n := by
  have h1 : shN P (w + 1) ≤ shN P n := cnt_mono _ (by omega)
  have h2 : shN P (w + 1) = shN P w + 1 := by
    show cnt _ w + _ = _
    rw [if_pos hs]
    rfl
  omega
theorem shO_lt {P : Pln} {w k : Nat} (hw : w < Pn P) (h : shO P w = some k) : k < shN P (Pn P) := by
  unfold shO at h
  split at h
  · rename_i hs
    cases h
    exact shN_lt hw hs
  · cases h
theorem shF_le (k : Nat) : shF k ≤ 2 := by
  unfold shF
  split
  · omega
  · split <;> omega
theorem nearM_lt (P : Pln) (x : Nat) : nearM P x < 256 := mk_lt _ 8
theorem tb_near (P : Pln) (x y : Nat) : (nearM P x).testBit y = (decide (y < 8) && bsd P x y) := tb_mk _ 8 y
theorem bsd_iff {P : Pln} {x y : Nat} : bsd P x y = true ↔ ∃ w, w < Pn P ∧ ((Pa P w = x ∧ Pb P w = y) ∨ (Pa P w = y ∧ Pb P w = x)) := by
  unfold bsd
  rw [anyB_iff]
  simp
theorem bsd_comm (P : Pln) (x y : Nat) : bsd P x y = bsd P y x := by
  rw [Bool.eq_iff_iff, bsd_iff, bsd_iff]
  constructor
  · rintro ⟨w, h1, h2⟩; exact ⟨w, h1, h2.symm⟩
  · rintro ⟨w, h1, h2⟩; exact ⟨w, h1, h2.symm⟩
theorem ld_lt {P : Pln} (hW : WfP P) {w x y : Nat} (hw : w < Pn P) (h : ld P w x = some y) : y < Pp P := by
  have := wf_w hW hw
  unfold ld at h
  split at h
  · cases h; omega
  · split at h
    · cases h; omega
    · cases h
theorem tb_plc (h i y : Nat) : (plcM h i).testBit y = (decide (h = y) || decide (i = y)) := by
  unfold plcM
  rw [Nat.testBit_or, Nat.testBit_two_pow, Nat.testBit_two_pow]
theorem plc_lt {h i : Nat} (h1 : h < 8) (h2 : i < 8) : plcM h i < 256 := by
  apply Nat.or_lt_two_pow (n := 8)
  · exact Nat.pow_lt_pow_right (by decide) h1
  · exact Nat.pow_lt_pow_right (by decide) h2
theorem pw_lt {h : Nat} (h1 : h < 8) : 2 ^ h < 256 := by
  have := Nat.pow_lt_pow_right (a := 2) (by decide) h1
  exact this
/-! where it stands in memory -/
def PlC (c : Nat) (P : Pln) (I : Nat → Nat → Int32) : Prop := I c 0 = nI (Pp P) ∧ I c 8 = nI (Pn P) ∧ I c 9 = nI (shN P (Pn P)) ∧ I c 10 = nI (Ph P) ∧ I c 11 = nI (Ps P) ∧ (∀ w, w < Pn P → I (c + 1) w = nI (Pk P w)) ∧ (∀ w, w < Pn P → I (c + 2) w = nI (Pa P w)) ∧ (∀ w, w < Pn P → I (c + 3) w = nI (Pb P w)) ∧ (∀ w, w < Pn P → I (c + 4) w = oI (shO P w)) ∧ (∀ w k, w < Pn P → shO P w = some k → I (c + 5) k = nI (shF (Pk P w))) ∧ (∀ x, x < Pp P → I (c + 6) x = nI (Pg P x)) ∧ (∀ x, x < Pp P → I (c + 7) x = nI (nearM P x))
def PlR (P : Pln) (I : Nat → Nat → Int32) : Prop := I 60 0 = nI (Pp P) ∧ I 60 1 = nI (Pn P) ∧ I 60 2 = nI (Ph P) ∧ I 60 3 = nI (Ps P) ∧ (∀ w, w < Pn P → I 61 w = nI (Pk P w)) ∧ (∀ w, w < Pn P → I 62 w = nI (Pa P w)) ∧ (∀ w, w < Pn P → I 63 w = nI (Pb P w)) ∧ (∀ x, x < Pp P → I 64 x = b01 (isWl P x = true)) ∧ (∀ x, x < Pp P → I 65 x = b01 (isHl P x = true))
theorem PlC.congr {c : Nat} {P : Pln} {I J : Nat → Nat → Int32} (h : PlC c P I) (e : ∀ k, c ≤ k → k ≤ c + 7 → J k = I k) : PlC c P J := by
  unfold PlC at h ⊢
  rw [e c (by omega) (by omega), e (c + 1) (by omega) (by omega), e (c + 2) (by omega) (by omega), e (c + 3) (by omega) (by omega), e (c + 4) (by omega) (by omega), e (c + 5) (by omega) (by omega), e (c + 6) (by omega) (by omega), e (c + 7) (by omega) (by omega)]
  exact h
theorem PlR.congr {P : Pln} {I J : Nat → Nat → Int32} (h : PlR P I) (e : ∀ i, i < 4 → J 60 i = I 60 i) (e' : ∀ k, 61 ≤ k → k ≤ 65 → J k = I k) : PlR P J := by
  unfold PlR at h ⊢
  rw [e 0 (by omega), e 1 (by omega), e 2 (by omega), e 3 (by omega), e' 61 (by omega) (by omega), e' 62 (by omega) (by omega), e' 63 (by omega) (by omega), e' 64 (by omega) (by omega), e' 65 (by omega) (by omega)]
  exact h
