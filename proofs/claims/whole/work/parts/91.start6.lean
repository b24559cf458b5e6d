/-! calls: start, refused -/
section Start6
variable {FU ver : Nat} {P : Pln} {I J : Nat → Nat → Int32} {pl nm hd rd : Option Nat}
theorem c_startN1 {x1 x2 x3 y : Int32} (e1 : fX3_pairOf FU 1 x1 x2 (I, R0 pl nm hd rd) = some (y, (I, R0 pl nm hd rd))) (f0 : y < 0) : fX8_start FU 0 x1 x2 x3 (I, R0 pl nm hd rd) = some (-2, (I, R0 pl nm hd rd)) := by
  unfold fX8_start
  rw [show fR 8 (I, R0 pl nm hd rd) (some 0) 0 = some (some 1) from rfl, w_bind, show rc 3 (some 1) = some 1 from rfl, w_bind, dn e1, if_pos f0]
theorem c_startN2 {x1 x2 x3 y : Int32} (e1 : fX3_pairOf FU 1 x1 x2 (I, R0 pl nm hd rd) = some (y, (I, R0 pl nm hd rd))) (f0 : ¬ y < 0) (cy : fX3_has FU 1 x3 (I, R0 pl nm hd rd) = some (nI 0, (I, R0 pl nm hd rd))) : fX8_start FU 0 x1 x2 x3 (I, R0 pl nm hd rd) = some (-2, (I, R0 pl nm hd rd)) := by
  have f1 : ¬ ¬ nI 0 = (0 : Int32) := by decide
  unfold fX8_start
  rw [show fR 8 (I, R0 pl nm hd rd) (some 0) 0 = some (some 1) from rfl, w_bind, show rc 3 (some 1) = some 1 from rfl, w_bind, dn e1, if_neg f0]
  rw [show fR 8 (I, R0 pl nm hd rd) (some 0) 0 = some (some 1) from rfl, w_bind, show rc 3 (some 1) = some 1 from rfl, w_bind, dn cy, if_neg f1]
theorem r_startN {x1 x2 x3 y : Int32} (e2 : fX9_standingOf FU 60 x1 x2 x3 (nI 0) (nI 0) (J, R0 pl nm hd rd) = some (y, (J, R0 pl nm hd rd))) (f0 : ¬ (0 : Int32) ≤ y) : fX9_start FU 60 x1 x2 x3 (J, R0 pl nm hd rd) = some (-2, (J, R0 pl nm hd rd)) := by
  rw [← li_0] at e2
  unfold fX9_start
  rw [show rc 9 (some 60) = some 60 from rfl, w_bind, dn e2, if_neg f0]
end Start6
