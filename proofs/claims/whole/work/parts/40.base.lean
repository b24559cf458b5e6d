/-! the base of the pure part: constant references, rows a cell, lifting to Nat, loops -/
def rfL : List (List (Option Nat)) := [[some 1, some 9, some 17, some 28, some 31, some 35, some 38, some 51], [none, some 2, some 3, some 4, some 5, some 6, some 7, some 8], [], [], [], [], [], [], [], [none, some 10, some 11, some 12, some 13, some 14, some 15, some 16], [], [], [], [], [], [], [], [none, none, none, none, none, some 18, some 19, some 20, none, some 21, some 22, some 23, some 24, none, none, some 25, some 26, some 27], [], [], [], [], [], [], [], [], [], [], [none, none, none, some 29, some 30], [], [], [none, none, some 32, some 33, some 34], [], [], [], [none, none, none, none, none, some 36, some 37], [], [], [some 39, none, some 40, some 47, none, none, some 48], [], [some 41, some 42, some 43, some 44, some 45, some 46], [], [], [], [], [], [], [], [some 49], [], [], [some 52, some 54, some 56, some 58], [none, none, some 53], [], [none, none, some 55], [], [none, none, some 57], [], [none, none, some 59], [], [none, none, none, none, some 61, some 62, some 63, some 64, some 65, none, some 66, some 67, some 68, some 69, some 70, none, some 71, some 72, some 73, none, none, none, none, none, some 74, some 75, some 76, none, none, none, some 77, some 78, none, none, none, none, some 79, some 80, none, none, none, none, some 81, some 82, some 83, some 84], [], [], [], [], [], [], [], [], [], [], [], [], [], [], [], [], [], [], [], [], [], [], [], []]
/-- the references: all constant but four: the plans that Standings, Namings, Hidden hold, the bytes that Reader reads -/
def R0 (pl nm hd rd : Option Nat) : Nat → Nat → Option Nat := fun k i => if k = 17 ∧ i = 0 then pl else if k = 28 ∧ i = 0 then nm else if k = 31 ∧ i = 1 then hd else if k = 48 ∧ i = 4 then rd else (rfL.getD k []).getD i none
section R0s
variable {pl nm hd rd : Option Nat}
theorem r0_0_0 : R0 pl nm hd rd 0 0 = some 1 := rfl
theorem r0_0_1 : R0 pl nm hd rd 0 1 = some 9 := rfl
theorem r0_0_2 : R0 pl nm hd rd 0 2 = some 17 := rfl
theorem r0_0_3 : R0 pl nm hd rd 0 3 = some 28 := rfl
theorem r0_0_4 : R0 pl nm hd rd 0 4 = some 31 := rfl
theorem r0_0_5 : R0 pl nm hd rd 0 5 = some 35 := rfl
theorem r0_0_6 : R0 pl nm hd rd 0 6 = some 38 := rfl
theorem r0_0_7 : R0 pl nm hd rd 0 7 = some 51 := rfl
theorem r0_1_1 : R0 pl nm hd rd 1 1 = some 2 := rfl
theorem r0_1_2 : R0 pl nm hd rd 1 2 = some 3 := rfl
theorem r0_1_3 : R0 pl nm hd rd 1 3 = some 4 := rfl
theorem r0_1_4 : R0 pl nm hd rd 1 4 = some 5 := rfl
theorem r0_1_5 : R0 pl nm hd rd 1 5 = some 6 := rfl
theorem r0_1_6 : R0 pl nm hd rd 1 6 = some 7 := rfl
theorem r0_1_7 : R0 pl nm hd rd 1 7 = some 8 := rfl
theorem r0_9_1 : R0 pl nm hd rd 9 1 = some 10 := rfl
theorem r0_9_2 : R0 pl nm hd rd 9 2 = some 11 := rfl
theorem r0_9_3 : R0 pl nm hd rd 9 3 = some 12 := rfl
theorem r0_9_4 : R0 pl nm hd rd 9 4 = some 13 := rfl
theorem r0_9_5 : R0 pl nm hd rd 9 5 = some 14 := rfl
theorem r0_9_6 : R0 pl nm hd rd 9 6 = some 15 := rfl
theorem r0_9_7 : R0 pl nm hd rd 9 7 = some 16 := rfl
theorem r0_17_5 : R0 pl nm hd rd 17 5 = some 18 := rfl
theorem r0_17_6 : R0 pl nm hd rd 17 6 = some 19 := rfl
theorem r0_17_7 : R0 pl nm hd rd 17 7 = some 20 := rfl
theorem r0_17_9 : R0 pl nm hd rd 17 9 = some 21 := rfl
theorem r0_17_10 : R0 pl nm hd rd 17 10 = some 22 := rfl
theorem r0_17_11 : R0 pl nm hd rd 17 11 = some 23 := rfl
theorem r0_17_12 : R0 pl nm hd rd 17 12 = some 24 := rfl
theorem r0_17_15 : R0 pl nm hd rd 17 15 = some 25 := rfl
theorem r0_17_16 : R0 pl nm hd rd 17 16 = some 26 := rfl
theorem r0_17_17 : R0 pl nm hd rd 17 17 = some 27 := rfl
theorem r0_28_3 : R0 pl nm hd rd 28 3 = some 29 := rfl
theorem r0_28_4 : R0 pl nm hd rd 28 4 = some 30 := rfl
theorem r0_31_2 : R0 pl nm hd rd 31 2 = some 32 := rfl
theorem r0_31_3 : R0 pl nm hd rd 31 3 = some 33 := rfl
theorem r0_31_4 : R0 pl nm hd rd 31 4 = some 34 := rfl
theorem r0_35_5 : R0 pl nm hd rd 35 5 = some 36 := rfl
theorem r0_35_6 : R0 pl nm hd rd 35 6 = some 37 := rfl
theorem r0_38_0 : R0 pl nm hd rd 38 0 = some 39 := rfl
theorem r0_38_2 : R0 pl nm hd rd 38 2 = some 40 := rfl
theorem r0_38_3 : R0 pl nm hd rd 38 3 = some 47 := rfl
theorem r0_38_6 : R0 pl nm hd rd 38 6 = some 48 := rfl
theorem r0_40_0 : R0 pl nm hd rd 40 0 = some 41 := rfl
theorem r0_40_1 : R0 pl nm hd rd 40 1 = some 42 := rfl
theorem r0_40_2 : R0 pl nm hd rd 40 2 = some 43 := rfl
theorem r0_40_3 : R0 pl nm hd rd 40 3 = some 44 := rfl
theorem r0_40_4 : R0 pl nm hd rd 40 4 = some 45 := rfl
theorem r0_40_5 : R0 pl nm hd rd 40 5 = some 46 := rfl
theorem r0_48_0 : R0 pl nm hd rd 48 0 = some 49 := rfl
theorem r0_51_0 : R0 pl nm hd rd 51 0 = some 52 := rfl
theorem r0_51_1 : R0 pl nm hd rd 51 1 = some 54 := rfl
theorem r0_51_2 : R0 pl nm hd rd 51 2 = some 56 := rfl
theorem r0_51_3 : R0 pl nm hd rd 51 3 = some 58 := rfl
theorem r0_52_2 : R0 pl nm hd rd 52 2 = some 53 := rfl
theorem r0_54_2 : R0 pl nm hd rd 54 2 = some 55 := rfl
theorem r0_56_2 : R0 pl nm hd rd 56 2 = some 57 := rfl
theorem r0_58_2 : R0 pl nm hd rd 58 2 = some 59 := rfl
theorem r0_60_4 : R0 pl nm hd rd 60 4 = some 61 := rfl
theorem r0_60_5 : R0 pl nm hd rd 60 5 = some 62 := rfl
theorem r0_60_6 : R0 pl nm hd rd 60 6 = some 63 := rfl
theorem r0_60_7 : R0 pl nm hd rd 60 7 = some 64 := rfl
theorem r0_60_8 : R0 pl nm hd rd 60 8 = some 65 := rfl
theorem r0_60_10 : R0 pl nm hd rd 60 10 = some 66 := rfl
theorem r0_60_11 : R0 pl nm hd rd 60 11 = some 67 := rfl
theorem r0_60_12 : R0 pl nm hd rd 60 12 = some 68 := rfl
theorem r0_60_13 : R0 pl nm hd rd 60 13 = some 69 := rfl
theorem r0_60_14 : R0 pl nm hd rd 60 14 = some 70 := rfl
theorem r0_60_16 : R0 pl nm hd rd 60 16 = some 71 := rfl
theorem r0_60_17 : R0 pl nm hd rd 60 17 = some 72 := rfl
theorem r0_60_18 : R0 pl nm hd rd 60 18 = some 73 := rfl
theorem r0_60_24 : R0 pl nm hd rd 60 24 = some 74 := rfl
theorem r0_60_25 : R0 pl nm hd rd 60 25 = some 75 := rfl
theorem r0_60_26 : R0 pl nm hd rd 60 26 = some 76 := rfl
theorem r0_60_30 : R0 pl nm hd rd 60 30 = some 77 := rfl
theorem r0_60_31 : R0 pl nm hd rd 60 31 = some 78 := rfl
theorem r0_60_36 : R0 pl nm hd rd 60 36 = some 79 := rfl
theorem r0_60_37 : R0 pl nm hd rd 60 37 = some 80 := rfl
theorem r0_60_42 : R0 pl nm hd rd 60 42 = some 81 := rfl
theorem r0_60_43 : R0 pl nm hd rd 60 43 = some 82 := rfl
theorem r0_60_44 : R0 pl nm hd rd 60 44 = some 83 := rfl
theorem r0_60_45 : R0 pl nm hd rd 60 45 = some 84 := rfl
theorem r0_17_0 : R0 pl nm hd rd 17 0 = pl := rfl
theorem r0_28_0 : R0 pl nm hd rd 28 0 = nm := rfl
theorem r0_31_1 : R0 pl nm hd rd 31 1 = hd := rfl
theorem r0_48_4 : R0 pl nm hd rd 48 4 = rd := rfl
theorem r0_set_pl {x : Option Nat} : up2 (R0 pl nm hd rd) 17 0 x = R0 x nm hd rd := by
  funext k i
  unfold up2 va_up R0
  by_cases h1 : k = 17
  · by_cases h2 : i = 0
    · simp [h1, h2]
    · simp [h1, h2]
  · simp [h1]
theorem r0_set_nm {x : Option Nat} : up2 (R0 pl nm hd rd) 28 0 x = R0 pl x hd rd := by
  funext k i
  unfold up2 va_up R0
  by_cases h1 : k = 28
  · by_cases h2 : i = 0
    · simp [h1, h2]
    · simp [h1, h2]
  · simp [h1]
theorem r0_set_hd {x : Option Nat} : up2 (R0 pl nm hd rd) 31 1 x = R0 pl nm x rd := by
  funext k i
  unfold up2 va_up R0
  by_cases h1 : k = 31
  · by_cases h2 : i = 1
    · simp [h1, h2]
    · simp [h1, h2]
  · simp [h1]
theorem r0_set_rd {x : Option Nat} : up2 (R0 pl nm hd rd) 48 4 x = R0 pl nm hd x := by
  funext k i
  unfold up2 va_up R0
  by_cases h1 : k = 48
  · by_cases h2 : i = 4
    · simp [h1, h2]
    · simp [h1, h2]
  · simp [h1]
end R0s
section RW
variable {I : Nat → Nat → Int32} {R : Nat → Nat → Option Nat} {i : Nat} {x : Int32} {r : Option Nat}
theorem rc_0 : rc 8 (some 0) = some 0 := rfl
theorem fI_0 : fI 8 (I, R) (some 0) i = some (I 0 i) := rfl
theorem fR_0 : fR 8 (I, R) (some 0) i = some (R 0 i) := rfl
theorem pI_0 : pI 8 (I, R) (some 0) i x = some (up2 I 0 i x, R) := rfl
theorem rc_1 : rc 3 (some 1) = some 1 := rfl
theorem fI_1 : fI 3 (I, R) (some 1) i = some (I 1 i) := rfl
theorem fR_1 : fR 3 (I, R) (some 1) i = some (R 1 i) := rfl
theorem pI_1 : pI 3 (I, R) (some 1) i x = some (up2 I 1 i x, R) := rfl
theorem aI_2 {j : Nat} (h : j < 16) : aI 0 (I, R) (some 2) (nI j) = some (I 2 j) := (aI_lit rfl (vp_in_nI h (by decide))).trans (by rw [nI_clamp (by omega)])
theorem sI_2 {j : Nat} (h : j < 16) : sI 0 (I, R) (some 2) (nI j) x = some (up2 I 2 j x, R) := (sI_lit rfl (vp_in_nI h (by decide))).trans (by rw [nI_clamp (by omega)]; rfl)
theorem aI_3 {j : Nat} (h : j < 16) : aI 0 (I, R) (some 3) (nI j) = some (I 3 j) := (aI_lit rfl (vp_in_nI h (by decide))).trans (by rw [nI_clamp (by omega)])
theorem sI_3 {j : Nat} (h : j < 16) : sI 0 (I, R) (some 3) (nI j) x = some (up2 I 3 j x, R) := (sI_lit rfl (vp_in_nI h (by decide))).trans (by rw [nI_clamp (by omega)]; rfl)
theorem aI_4 {j : Nat} (h : j < 16) : aI 0 (I, R) (some 4) (nI j) = some (I 4 j) := (aI_lit rfl (vp_in_nI h (by decide))).trans (by rw [nI_clamp (by omega)])
theorem sI_4 {j : Nat} (h : j < 16) : sI 0 (I, R) (some 4) (nI j) x = some (up2 I 4 j x, R) := (sI_lit rfl (vp_in_nI h (by decide))).trans (by rw [nI_clamp (by omega)]; rfl)
theorem aI_5 {j : Nat} (h : j < 16) : aI 0 (I, R) (some 5) (nI j) = some (I 5 j) := (aI_lit rfl (vp_in_nI h (by decide))).trans (by rw [nI_clamp (by omega)])
theorem sI_5 {j : Nat} (h : j < 16) : sI 0 (I, R) (some 5) (nI j) x = some (up2 I 5 j x, R) := (sI_lit rfl (vp_in_nI h (by decide))).trans (by rw [nI_clamp (by omega)]; rfl)
theorem aI_6 {j : Nat} (h : j < 2) : aI 0 (I, R) (some 6) (nI j) = some (I 6 j) := (aI_lit rfl (vp_in_nI h (by decide))).trans (by rw [nI_clamp (by omega)])
theorem sI_6 {j : Nat} (h : j < 2) : sI 0 (I, R) (some 6) (nI j) x = some (up2 I 6 j x, R) := (sI_lit rfl (vp_in_nI h (by decide))).trans (by rw [nI_clamp (by omega)]; rfl)
theorem aI_7 {j : Nat} (h : j < 8) : aI 0 (I, R) (some 7) (nI j) = some (I 7 j) := (aI_lit rfl (vp_in_nI h (by decide))).trans (by rw [nI_clamp (by omega)])
theorem sI_7 {j : Nat} (h : j < 8) : sI 0 (I, R) (some 7) (nI j) x = some (up2 I 7 j x, R) := (sI_lit rfl (vp_in_nI h (by decide))).trans (by rw [nI_clamp (by omega)]; rfl)
theorem aI_8 {j : Nat} (h : j < 8) : aI 0 (I, R) (some 8) (nI j) = some (I 8 j) := (aI_lit rfl (vp_in_nI h (by decide))).trans (by rw [nI_clamp (by omega)])
theorem sI_8 {j : Nat} (h : j < 8) : sI 0 (I, R) (some 8) (nI j) x = some (up2 I 8 j x, R) := (sI_lit rfl (vp_in_nI h (by decide))).trans (by rw [nI_clamp (by omega)]; rfl)
theorem rc_9 : rc 3 (some 9) = some 9 := rfl
theorem fI_9 : fI 3 (I, R) (some 9) i = some (I 9 i) := rfl
theorem fR_9 : fR 3 (I, R) (some 9) i = some (R 9 i) := rfl
theorem pI_9 : pI 3 (I, R) (some 9) i x = some (up2 I 9 i x, R) := rfl
theorem aI_10 {j : Nat} (h : j < 16) : aI 0 (I, R) (some 10) (nI j) = some (I 10 j) := (aI_lit rfl (vp_in_nI h (by decide))).trans (by rw [nI_clamp (by omega)])
theorem sI_10 {j : Nat} (h : j < 16) : sI 0 (I, R) (some 10) (nI j) x = some (up2 I 10 j x, R) := (sI_lit rfl (vp_in_nI h (by decide))).trans (by rw [nI_clamp (by omega)]; rfl)
theorem aI_11 {j : Nat} (h : j < 16) : aI 0 (I, R) (some 11) (nI j) = some (I 11 j) := (aI_lit rfl (vp_in_nI h (by decide))).trans (by rw [nI_clamp (by omega)])
theorem sI_11 {j : Nat} (h : j < 16) : sI 0 (I, R) (some 11) (nI j) x = some (up2 I 11 j x, R) := (sI_lit rfl (vp_in_nI h (by decide))).trans (by rw [nI_clamp (by omega)]; rfl)
theorem aI_12 {j : Nat} (h : j < 16) : aI 0 (I, R) (some 12) (nI j) = some (I 12 j) := (aI_lit rfl (vp_in_nI h (by decide))).trans (by rw [nI_clamp (by omega)])
theorem sI_12 {j : Nat} (h : j < 16) : sI 0 (I, R) (some 12) (nI j) x = some (up2 I 12 j x, R) := (sI_lit rfl (vp_in_nI h (by decide))).trans (by rw [nI_clamp (by omega)]; rfl)
theorem aI_13 {j : Nat} (h : j < 16) : aI 0 (I, R) (some 13) (nI j) = some (I 13 j) := (aI_lit rfl (vp_in_nI h (by decide))).trans (by rw [nI_clamp (by omega)])
theorem sI_13 {j : Nat} (h : j < 16) : sI 0 (I, R) (some 13) (nI j) x = some (up2 I 13 j x, R) := (sI_lit rfl (vp_in_nI h (by decide))).trans (by rw [nI_clamp (by omega)]; rfl)
theorem aI_14 {j : Nat} (h : j < 2) : aI 0 (I, R) (some 14) (nI j) = some (I 14 j) := (aI_lit rfl (vp_in_nI h (by decide))).trans (by rw [nI_clamp (by omega)])
theorem sI_14 {j : Nat} (h : j < 2) : sI 0 (I, R) (some 14) (nI j) x = some (up2 I 14 j x, R) := (sI_lit rfl (vp_in_nI h (by decide))).trans (by rw [nI_clamp (by omega)]; rfl)
theorem aI_15 {j : Nat} (h : j < 8) : aI 0 (I, R) (some 15) (nI j) = some (I 15 j) := (aI_lit rfl (vp_in_nI h (by decide))).trans (by rw [nI_clamp (by omega)])
theorem sI_15 {j : Nat} (h : j < 8) : sI 0 (I, R) (some 15) (nI j) x = some (up2 I 15 j x, R) := (sI_lit rfl (vp_in_nI h (by decide))).trans (by rw [nI_clamp (by omega)]; rfl)
theorem aI_16 {j : Nat} (h : j < 8) : aI 0 (I, R) (some 16) (nI j) = some (I 16 j) := (aI_lit rfl (vp_in_nI h (by decide))).trans (by rw [nI_clamp (by omega)])
theorem sI_16 {j : Nat} (h : j < 8) : sI 0 (I, R) (some 16) (nI j) x = some (up2 I 16 j x, R) := (sI_lit rfl (vp_in_nI h (by decide))).trans (by rw [nI_clamp (by omega)]; rfl)
theorem rc_17 : rc 6 (some 17) = some 17 := rfl
theorem fI_17 : fI 6 (I, R) (some 17) i = some (I 17 i) := rfl
theorem fR_17 : fR 6 (I, R) (some 17) i = some (R 17 i) := rfl
theorem pI_17 : pI 6 (I, R) (some 17) i x = some (up2 I 17 i x, R) := rfl
theorem pR_17 : pR 6 (I, R) (some 17) i r = some (I, up2 R 17 i r) := rfl
theorem aI_18 {j : Nat} (h : j < 9216) : aI 0 (I, R) (some 18) (nI j) = some (I 18 j) := (aI_lit rfl (vp_in_nI h (by decide))).trans (by rw [nI_clamp (by omega)])
theorem sI_18 {j : Nat} (h : j < 9216) : sI 0 (I, R) (some 18) (nI j) x = some (up2 I 18 j x, R) := (sI_lit rfl (vp_in_nI h (by decide))).trans (by rw [nI_clamp (by omega)]; rfl)
theorem aI_19 {j : Nat} (h : j < 9216) : aI 0 (I, R) (some 19) (nI j) = some (I 19 j) := (aI_lit rfl (vp_in_nI h (by decide))).trans (by rw [nI_clamp (by omega)])
theorem sI_19 {j : Nat} (h : j < 9216) : sI 0 (I, R) (some 19) (nI j) x = some (up2 I 19 j x, R) := (sI_lit rfl (vp_in_nI h (by decide))).trans (by rw [nI_clamp (by omega)]; rfl)
theorem aI_20 {j : Nat} (h : j < 9216) : aI 0 (I, R) (some 20) (nI j) = some (I 20 j) := (aI_lit rfl (vp_in_nI h (by decide))).trans (by rw [nI_clamp (by omega)])
theorem sI_20 {j : Nat} (h : j < 9216) : sI 0 (I, R) (some 20) (nI j) x = some (up2 I 20 j x, R) := (sI_lit rfl (vp_in_nI h (by decide))).trans (by rw [nI_clamp (by omega)]; rfl)
theorem aI_21 {j : Nat} (h : j < 1024) : aI 0 (I, R) (some 21) (nI j) = some (I 21 j) := (aI_lit rfl (vp_in_nI h (by decide))).trans (by rw [nI_clamp (by omega)])
theorem sI_21 {j : Nat} (h : j < 1024) : sI 0 (I, R) (some 21) (nI j) x = some (up2 I 21 j x, R) := (sI_lit rfl (vp_in_nI h (by decide))).trans (by rw [nI_clamp (by omega)]; rfl)
theorem aI_22 {j : Nat} (h : j < 3776) : aI 0 (I, R) (some 22) (nI j) = some (I 22 j) := (aI_lit rfl (vp_in_nI h (by decide))).trans (by rw [nI_clamp (by omega)])
theorem sI_22 {j : Nat} (h : j < 3776) : sI 0 (I, R) (some 22) (nI j) x = some (up2 I 22 j x, R) := (sI_lit rfl (vp_in_nI h (by decide))).trans (by rw [nI_clamp (by omega)]; rfl)
theorem aI_23 {j : Nat} (h : j < 3776) : aI 0 (I, R) (some 23) (nI j) = some (I 23 j) := (aI_lit rfl (vp_in_nI h (by decide))).trans (by rw [nI_clamp (by omega)])
theorem sI_23 {j : Nat} (h : j < 3776) : sI 0 (I, R) (some 23) (nI j) x = some (up2 I 23 j x, R) := (sI_lit rfl (vp_in_nI h (by decide))).trans (by rw [nI_clamp (by omega)]; rfl)
theorem aI_24 {j : Nat} (h : j < 3776) : aI 0 (I, R) (some 24) (nI j) = some (I 24 j) := (aI_lit rfl (vp_in_nI h (by decide))).trans (by rw [nI_clamp (by omega)])
theorem sI_24 {j : Nat} (h : j < 3776) : sI 0 (I, R) (some 24) (nI j) x = some (up2 I 24 j x, R) := (sI_lit rfl (vp_in_nI h (by decide))).trans (by rw [nI_clamp (by omega)]; rfl)
theorem aI_25 {j : Nat} (h : j < 27) : aI 0 (I, R) (some 25) (nI j) = some (I 25 j) := (aI_lit rfl (vp_in_nI h (by decide))).trans (by rw [nI_clamp (by omega)])
theorem sI_25 {j : Nat} (h : j < 27) : sI 0 (I, R) (some 25) (nI j) x = some (up2 I 25 j x, R) := (sI_lit rfl (vp_in_nI h (by decide))).trans (by rw [nI_clamp (by omega)]; rfl)
theorem aI_26 {j : Nat} (h : j < 27) : aI 0 (I, R) (some 26) (nI j) = some (I 26 j) := (aI_lit rfl (vp_in_nI h (by decide))).trans (by rw [nI_clamp (by omega)])
theorem sI_26 {j : Nat} (h : j < 27) : sI 0 (I, R) (some 26) (nI j) x = some (up2 I 26 j x, R) := (sI_lit rfl (vp_in_nI h (by decide))).trans (by rw [nI_clamp (by omega)]; rfl)
theorem aI_27 {j : Nat} (h : j < 512) : aI 1 (I, R) (some 27) (nI j) = some (I 27 j) := (aI_lit rfl (vp_in_nI h (by decide))).trans (by rw [nI_clamp (by omega)])
theorem sI_27 {j : Nat} (h : j < 512) : sI 1 (I, R) (some 27) (nI j) x = some (up2 I 27 j (narA 1 x), R) := (sI_lit rfl (vp_in_nI h (by decide))).trans (by rw [nI_clamp (by omega)])
theorem rc_28 : rc 2 (some 28) = some 28 := rfl
theorem fI_28 : fI 2 (I, R) (some 28) i = some (I 28 i) := rfl
theorem fR_28 : fR 2 (I, R) (some 28) i = some (R 28 i) := rfl
theorem pI_28 : pI 2 (I, R) (some 28) i x = some (up2 I 28 i x, R) := rfl
theorem pR_28 : pR 2 (I, R) (some 28) i r = some (I, up2 R 28 i r) := rfl
theorem aI_29 {j : Nat} (h : j < 64) : aI 0 (I, R) (some 29) (nI j) = some (I 29 j) := (aI_lit rfl (vp_in_nI h (by decide))).trans (by rw [nI_clamp (by omega)])
theorem sI_29 {j : Nat} (h : j < 64) : sI 0 (I, R) (some 29) (nI j) x = some (up2 I 29 j x, R) := (sI_lit rfl (vp_in_nI h (by decide))).trans (by rw [nI_clamp (by omega)]; rfl)
theorem aI_30 {j : Nat} (h : j < 8) : aI 0 (I, R) (some 30) (nI j) = some (I 30 j) := (aI_lit rfl (vp_in_nI h (by decide))).trans (by rw [nI_clamp (by omega)])
theorem sI_30 {j : Nat} (h : j < 8) : sI 0 (I, R) (some 30) (nI j) x = some (up2 I 30 j x, R) := (sI_lit rfl (vp_in_nI h (by decide))).trans (by rw [nI_clamp (by omega)]; rfl)
theorem rc_31 : rc 1 (some 31) = some 31 := rfl
theorem fI_31 : fI 1 (I, R) (some 31) i = some (I 31 i) := rfl
theorem fR_31 : fR 1 (I, R) (some 31) i = some (R 31 i) := rfl
theorem pI_31 : pI 1 (I, R) (some 31) i x = some (up2 I 31 i x, R) := rfl
theorem pR_31 : pR 1 (I, R) (some 31) i r = some (I, up2 R 31 i r) := rfl
theorem aI_32 {j : Nat} (h : j < 4096) : aI 0 (I, R) (some 32) (nI j) = some (I 32 j) := (aI_lit rfl (vp_in_nI h (by decide))).trans (by rw [nI_clamp (by omega)])
theorem sI_32 {j : Nat} (h : j < 4096) : sI 0 (I, R) (some 32) (nI j) x = some (up2 I 32 j x, R) := (sI_lit rfl (vp_in_nI h (by decide))).trans (by rw [nI_clamp (by omega)]; rfl)
theorem aI_33 {j : Nat} (h : j < 4096) : aI 0 (I, R) (some 33) (nI j) = some (I 33 j) := (aI_lit rfl (vp_in_nI h (by decide))).trans (by rw [nI_clamp (by omega)])
theorem sI_33 {j : Nat} (h : j < 4096) : sI 0 (I, R) (some 33) (nI j) x = some (up2 I 33 j x, R) := (sI_lit rfl (vp_in_nI h (by decide))).trans (by rw [nI_clamp (by omega)]; rfl)
theorem aI_34 {j : Nat} (h : j < 64) : aI 0 (I, R) (some 34) (nI j) = some (I 34 j) := (aI_lit rfl (vp_in_nI h (by decide))).trans (by rw [nI_clamp (by omega)])
theorem sI_34 {j : Nat} (h : j < 64) : sI 0 (I, R) (some 34) (nI j) x = some (up2 I 34 j x, R) := (sI_lit rfl (vp_in_nI h (by decide))).trans (by rw [nI_clamp (by omega)]; rfl)
theorem rc_35 : rc 0 (some 35) = some 35 := rfl
theorem fI_35 : fI 0 (I, R) (some 35) i = some (I 35 i) := rfl
theorem fR_35 : fR 0 (I, R) (some 35) i = some (R 35 i) := rfl
theorem pI_35 : pI 0 (I, R) (some 35) i x = some (up2 I 35 i x, R) := rfl
theorem aI_36 {j : Nat} (h : j < 64) : aI 0 (I, R) (some 36) (nI j) = some (I 36 j) := (aI_lit rfl (vp_in_nI h (by decide))).trans (by rw [nI_clamp (by omega)])
theorem sI_36 {j : Nat} (h : j < 64) : sI 0 (I, R) (some 36) (nI j) x = some (up2 I 36 j x, R) := (sI_lit rfl (vp_in_nI h (by decide))).trans (by rw [nI_clamp (by omega)]; rfl)
theorem aI_37 {j : Nat} (h : j < 64) : aI 0 (I, R) (some 37) (nI j) = some (I 37 j) := (aI_lit rfl (vp_in_nI h (by decide))).trans (by rw [nI_clamp (by omega)])
theorem sI_37 {j : Nat} (h : j < 64) : sI 0 (I, R) (some 37) (nI j) x = some (up2 I 37 j x, R) := (sI_lit rfl (vp_in_nI h (by decide))).trans (by rw [nI_clamp (by omega)]; rfl)
theorem rc_38 : rc 7 (some 38) = some 38 := rfl
theorem fI_38 : fI 7 (I, R) (some 38) i = some (I 38 i) := rfl
theorem fR_38 : fR 7 (I, R) (some 38) i = some (R 38 i) := rfl
theorem pI_38 : pI 7 (I, R) (some 38) i x = some (up2 I 38 i x, R) := rfl
theorem aI_39 {j : Nat} (h : j < 120) : aI 2 (I, R) (some 39) (nI j) = some (I 39 j) := (aI_lit rfl (vp_in_nI h (by decide))).trans (by rw [nI_clamp (by omega)])
theorem sI_39 {j : Nat} (h : j < 120) : sI 2 (I, R) (some 39) (nI j) x = some (up2 I 39 j (narA 2 x), R) := (sI_lit rfl (vp_in_nI h (by decide))).trans (by rw [nI_clamp (by omega)])
theorem aR_40 {j : Nat} (h : j < 6) : aR 3 (I, R) (some 40) (nI j) = some (R 40 j) := (aR_lit rfl (vp_in_nI h (by decide))).trans (by rw [nI_clamp (by omega)])
theorem aI_41 {j : Nat} (h : j < 120) : aI 2 (I, R) (some 41) (nI j) = some (I 41 j) := (aI_lit rfl (vp_in_nI h (by decide))).trans (by rw [nI_clamp (by omega)])
theorem sI_41 {j : Nat} (h : j < 120) : sI 2 (I, R) (some 41) (nI j) x = some (up2 I 41 j (narA 2 x), R) := (sI_lit rfl (vp_in_nI h (by decide))).trans (by rw [nI_clamp (by omega)])
theorem aI_42 {j : Nat} (h : j < 120) : aI 2 (I, R) (some 42) (nI j) = some (I 42 j) := (aI_lit rfl (vp_in_nI h (by decide))).trans (by rw [nI_clamp (by omega)])
theorem sI_42 {j : Nat} (h : j < 120) : sI 2 (I, R) (some 42) (nI j) x = some (up2 I 42 j (narA 2 x), R) := (sI_lit rfl (vp_in_nI h (by decide))).trans (by rw [nI_clamp (by omega)])
theorem aI_43 {j : Nat} (h : j < 120) : aI 2 (I, R) (some 43) (nI j) = some (I 43 j) := (aI_lit rfl (vp_in_nI h (by decide))).trans (by rw [nI_clamp (by omega)])
theorem sI_43 {j : Nat} (h : j < 120) : sI 2 (I, R) (some 43) (nI j) x = some (up2 I 43 j (narA 2 x), R) := (sI_lit rfl (vp_in_nI h (by decide))).trans (by rw [nI_clamp (by omega)])
theorem aI_44 {j : Nat} (h : j < 120) : aI 2 (I, R) (some 44) (nI j) = some (I 44 j) := (aI_lit rfl (vp_in_nI h (by decide))).trans (by rw [nI_clamp (by omega)])
theorem sI_44 {j : Nat} (h : j < 120) : sI 2 (I, R) (some 44) (nI j) x = some (up2 I 44 j (narA 2 x), R) := (sI_lit rfl (vp_in_nI h (by decide))).trans (by rw [nI_clamp (by omega)])
theorem aI_45 {j : Nat} (h : j < 120) : aI 2 (I, R) (some 45) (nI j) = some (I 45 j) := (aI_lit rfl (vp_in_nI h (by decide))).trans (by rw [nI_clamp (by omega)])
theorem sI_45 {j : Nat} (h : j < 120) : sI 2 (I, R) (some 45) (nI j) x = some (up2 I 45 j (narA 2 x), R) := (sI_lit rfl (vp_in_nI h (by decide))).trans (by rw [nI_clamp (by omega)])
theorem aI_46 {j : Nat} (h : j < 120) : aI 2 (I, R) (some 46) (nI j) = some (I 46 j) := (aI_lit rfl (vp_in_nI h (by decide))).trans (by rw [nI_clamp (by omega)])
theorem sI_46 {j : Nat} (h : j < 120) : sI 2 (I, R) (some 46) (nI j) x = some (up2 I 46 j (narA 2 x), R) := (sI_lit rfl (vp_in_nI h (by decide))).trans (by rw [nI_clamp (by omega)])
theorem aI_47 {j : Nat} (h : j < 6) : aI 0 (I, R) (some 47) (nI j) = some (I 47 j) := (aI_lit rfl (vp_in_nI h (by decide))).trans (by rw [nI_clamp (by omega)])
theorem sI_47 {j : Nat} (h : j < 6) : sI 0 (I, R) (some 47) (nI j) x = some (up2 I 47 j x, R) := (sI_lit rfl (vp_in_nI h (by decide))).trans (by rw [nI_clamp (by omega)]; rfl)
theorem rc_48 : rc 4 (some 48) = some 48 := rfl
theorem fI_48 : fI 4 (I, R) (some 48) i = some (I 48 i) := rfl
theorem fR_48 : fR 4 (I, R) (some 48) i = some (R 48 i) := rfl
theorem pI_48 : pI 4 (I, R) (some 48) i x = some (up2 I 48 i x, R) := rfl
theorem pR_48 : pR 4 (I, R) (some 48) i r = some (I, up2 R 48 i r) := rfl
theorem aI_49 {j : Nat} (h : j < 6) : aI 0 (I, R) (some 49) (nI j) = some (I 49 j) := (aI_lit rfl (vp_in_nI h (by decide))).trans (by rw [nI_clamp (by omega)])
theorem sI_49 {j : Nat} (h : j < 6) : sI 0 (I, R) (some 49) (nI j) x = some (up2 I 49 j x, R) := (sI_lit rfl (vp_in_nI h (by decide))).trans (by rw [nI_clamp (by omega)]; rfl)
theorem aR_51 {j : Nat} (h : j < 4) : aR 4 (I, R) (some 51) (nI j) = some (R 51 j) := (aR_lit rfl (vp_in_nI h (by decide))).trans (by rw [nI_clamp (by omega)])
theorem rc_52 : rc 5 (some 52) = some 52 := rfl
theorem fI_52 : fI 5 (I, R) (some 52) i = some (I 52 i) := rfl
theorem fR_52 : fR 5 (I, R) (some 52) i = some (R 52 i) := rfl
theorem pI_52 : pI 5 (I, R) (some 52) i x = some (up2 I 52 i x, R) := rfl
theorem aI_53 {j : Nat} (h : j < 40) : aI 0 (I, R) (some 53) (nI j) = some (I 53 j) := (aI_lit rfl (vp_in_nI h (by decide))).trans (by rw [nI_clamp (by omega)])
theorem sI_53 {j : Nat} (h : j < 40) : sI 0 (I, R) (some 53) (nI j) x = some (up2 I 53 j x, R) := (sI_lit rfl (vp_in_nI h (by decide))).trans (by rw [nI_clamp (by omega)]; rfl)
theorem rc_54 : rc 5 (some 54) = some 54 := rfl
theorem fI_54 : fI 5 (I, R) (some 54) i = some (I 54 i) := rfl
theorem fR_54 : fR 5 (I, R) (some 54) i = some (R 54 i) := rfl
theorem pI_54 : pI 5 (I, R) (some 54) i x = some (up2 I 54 i x, R) := rfl
theorem aI_55 {j : Nat} (h : j < 40) : aI 0 (I, R) (some 55) (nI j) = some (I 55 j) := (aI_lit rfl (vp_in_nI h (by decide))).trans (by rw [nI_clamp (by omega)])
theorem sI_55 {j : Nat} (h : j < 40) : sI 0 (I, R) (some 55) (nI j) x = some (up2 I 55 j x, R) := (sI_lit rfl (vp_in_nI h (by decide))).trans (by rw [nI_clamp (by omega)]; rfl)
theorem rc_56 : rc 5 (some 56) = some 56 := rfl
theorem fI_56 : fI 5 (I, R) (some 56) i = some (I 56 i) := rfl
theorem fR_56 : fR 5 (I, R) (some 56) i = some (R 56 i) := rfl
theorem pI_56 : pI 5 (I, R) (some 56) i x = some (up2 I 56 i x, R) := rfl
theorem aI_57 {j : Nat} (h : j < 40) : aI 0 (I, R) (some 57) (nI j) = some (I 57 j) := (aI_lit rfl (vp_in_nI h (by decide))).trans (by rw [nI_clamp (by omega)])
theorem sI_57 {j : Nat} (h : j < 40) : sI 0 (I, R) (some 57) (nI j) x = some (up2 I 57 j x, R) := (sI_lit rfl (vp_in_nI h (by decide))).trans (by rw [nI_clamp (by omega)]; rfl)
theorem rc_58 : rc 5 (some 58) = some 58 := rfl
theorem fI_58 : fI 5 (I, R) (some 58) i = some (I 58 i) := rfl
theorem fR_58 : fR 5 (I, R) (some 58) i = some (R 58 i) := rfl
theorem pI_58 : pI 5 (I, R) (some 58) i x = some (up2 I 58 i x, R) := rfl
theorem aI_59 {j : Nat} (h : j < 40) : aI 0 (I, R) (some 59) (nI j) = some (I 59 j) := (aI_lit rfl (vp_in_nI h (by decide))).trans (by rw [nI_clamp (by omega)])
theorem sI_59 {j : Nat} (h : j < 40) : sI 0 (I, R) (some 59) (nI j) x = some (up2 I 59 j x, R) := (sI_lit rfl (vp_in_nI h (by decide))).trans (by rw [nI_clamp (by omega)]; rfl)
theorem rc_60 : rc 9 (some 60) = some 60 := rfl
theorem fI_60 : fI 9 (I, R) (some 60) i = some (I 60 i) := rfl
theorem fR_60 : fR 9 (I, R) (some 60) i = some (R 60 i) := rfl
theorem pI_60 : pI 9 (I, R) (some 60) i x = some (up2 I 60 i x, R) := rfl
theorem aI_61 {j : Nat} (h : j < 17) : aI 0 (I, R) (some 61) (nI j) = some (I 61 j) := (aI_lit rfl (vp_in_nI h (by decide))).trans (by rw [nI_clamp (by omega)])
theorem sI_61 {j : Nat} (h : j < 17) : sI 0 (I, R) (some 61) (nI j) x = some (up2 I 61 j x, R) := (sI_lit rfl (vp_in_nI h (by decide))).trans (by rw [nI_clamp (by omega)]; rfl)
theorem aI_62 {j : Nat} (h : j < 17) : aI 0 (I, R) (some 62) (nI j) = some (I 62 j) := (aI_lit rfl (vp_in_nI h (by decide))).trans (by rw [nI_clamp (by omega)])
theorem sI_62 {j : Nat} (h : j < 17) : sI 0 (I, R) (some 62) (nI j) x = some (up2 I 62 j x, R) := (sI_lit rfl (vp_in_nI h (by decide))).trans (by rw [nI_clamp (by omega)]; rfl)
theorem aI_63 {j : Nat} (h : j < 17) : aI 0 (I, R) (some 63) (nI j) = some (I 63 j) := (aI_lit rfl (vp_in_nI h (by decide))).trans (by rw [nI_clamp (by omega)])
theorem sI_63 {j : Nat} (h : j < 17) : sI 0 (I, R) (some 63) (nI j) x = some (up2 I 63 j x, R) := (sI_lit rfl (vp_in_nI h (by decide))).trans (by rw [nI_clamp (by omega)]; rfl)
theorem aI_64 {j : Nat} (h : j < 8) : aI 1 (I, R) (some 64) (nI j) = some (I 64 j) := (aI_lit rfl (vp_in_nI h (by decide))).trans (by rw [nI_clamp (by omega)])
theorem sI_64 {j : Nat} (h : j < 8) : sI 1 (I, R) (some 64) (nI j) x = some (up2 I 64 j (narA 1 x), R) := (sI_lit rfl (vp_in_nI h (by decide))).trans (by rw [nI_clamp (by omega)])
theorem aI_65 {j : Nat} (h : j < 8) : aI 1 (I, R) (some 65) (nI j) = some (I 65 j) := (aI_lit rfl (vp_in_nI h (by decide))).trans (by rw [nI_clamp (by omega)])
theorem sI_65 {j : Nat} (h : j < 8) : sI 1 (I, R) (some 65) (nI j) x = some (up2 I 65 j (narA 1 x), R) := (sI_lit rfl (vp_in_nI h (by decide))).trans (by rw [nI_clamp (by omega)])
theorem aI_66 {j : Nat} (h : j < 9216) : aI 0 (I, R) (some 66) (nI j) = some (I 66 j) := (aI_lit rfl (vp_in_nI h (by decide))).trans (by rw [nI_clamp (by omega)])
theorem sI_66 {j : Nat} (h : j < 9216) : sI 0 (I, R) (some 66) (nI j) x = some (up2 I 66 j x, R) := (sI_lit rfl (vp_in_nI h (by decide))).trans (by rw [nI_clamp (by omega)]; rfl)
theorem aI_67 {j : Nat} (h : j < 9216) : aI 1 (I, R) (some 67) (nI j) = some (I 67 j) := (aI_lit rfl (vp_in_nI h (by decide))).trans (by rw [nI_clamp (by omega)])
theorem sI_67 {j : Nat} (h : j < 9216) : sI 1 (I, R) (some 67) (nI j) x = some (up2 I 67 j (narA 1 x), R) := (sI_lit rfl (vp_in_nI h (by decide))).trans (by rw [nI_clamp (by omega)])
theorem aI_68 {j : Nat} (h : j < 8) : aI 0 (I, R) (some 68) (nI j) = some (I 68 j) := (aI_lit rfl (vp_in_nI h (by decide))).trans (by rw [nI_clamp (by omega)])
theorem sI_68 {j : Nat} (h : j < 8) : sI 0 (I, R) (some 68) (nI j) x = some (up2 I 68 j x, R) := (sI_lit rfl (vp_in_nI h (by decide))).trans (by rw [nI_clamp (by omega)]; rfl)
theorem aI_69 {j : Nat} (h : j < 384) : aI 0 (I, R) (some 69) (nI j) = some (I 69 j) := (aI_lit rfl (vp_in_nI h (by decide))).trans (by rw [nI_clamp (by omega)])
theorem sI_69 {j : Nat} (h : j < 384) : sI 0 (I, R) (some 69) (nI j) x = some (up2 I 69 j x, R) := (sI_lit rfl (vp_in_nI h (by decide))).trans (by rw [nI_clamp (by omega)]; rfl)
theorem aI_70 {j : Nat} (h : j < 4096) : aI 0 (I, R) (some 70) (nI j) = some (I 70 j) := (aI_lit rfl (vp_in_nI h (by decide))).trans (by rw [nI_clamp (by omega)])
theorem sI_70 {j : Nat} (h : j < 4096) : sI 0 (I, R) (some 70) (nI j) x = some (up2 I 70 j x, R) := (sI_lit rfl (vp_in_nI h (by decide))).trans (by rw [nI_clamp (by omega)]; rfl)
theorem aI_71 {j : Nat} (h : j < 8) : aI 0 (I, R) (some 71) (nI j) = some (I 71 j) := (aI_lit rfl (vp_in_nI h (by decide))).trans (by rw [nI_clamp (by omega)])
theorem sI_71 {j : Nat} (h : j < 8) : sI 0 (I, R) (some 71) (nI j) x = some (up2 I 71 j x, R) := (sI_lit rfl (vp_in_nI h (by decide))).trans (by rw [nI_clamp (by omega)]; rfl)
theorem aI_72 {j : Nat} (h : j < 512) : aI 0 (I, R) (some 72) (nI j) = some (I 72 j) := (aI_lit rfl (vp_in_nI h (by decide))).trans (by rw [nI_clamp (by omega)])
theorem sI_72 {j : Nat} (h : j < 512) : sI 0 (I, R) (some 72) (nI j) x = some (up2 I 72 j x, R) := (sI_lit rfl (vp_in_nI h (by decide))).trans (by rw [nI_clamp (by omega)]; rfl)
theorem aI_73 {j : Nat} (h : j < 4096) : aI 1 (I, R) (some 73) (nI j) = some (I 73 j) := (aI_lit rfl (vp_in_nI h (by decide))).trans (by rw [nI_clamp (by omega)])
theorem sI_73 {j : Nat} (h : j < 4096) : sI 1 (I, R) (some 73) (nI j) x = some (up2 I 73 j (narA 1 x), R) := (sI_lit rfl (vp_in_nI h (by decide))).trans (by rw [nI_clamp (by omega)])
theorem aI_74 {j : Nat} (h : j < 64) : aI 0 (I, R) (some 74) (nI j) = some (I 74 j) := (aI_lit rfl (vp_in_nI h (by decide))).trans (by rw [nI_clamp (by omega)])
theorem sI_74 {j : Nat} (h : j < 64) : sI 0 (I, R) (some 74) (nI j) x = some (up2 I 74 j x, R) := (sI_lit rfl (vp_in_nI h (by decide))).trans (by rw [nI_clamp (by omega)]; rfl)
theorem aI_75 {j : Nat} (h : j < 64) : aI 0 (I, R) (some 75) (nI j) = some (I 75 j) := (aI_lit rfl (vp_in_nI h (by decide))).trans (by rw [nI_clamp (by omega)])
theorem sI_75 {j : Nat} (h : j < 64) : sI 0 (I, R) (some 75) (nI j) x = some (up2 I 75 j x, R) := (sI_lit rfl (vp_in_nI h (by decide))).trans (by rw [nI_clamp (by omega)]; rfl)
theorem aI_76 {j : Nat} (h : j < 120) : aI 2 (I, R) (some 76) (nI j) = some (I 76 j) := (aI_lit rfl (vp_in_nI h (by decide))).trans (by rw [nI_clamp (by omega)])
theorem sI_76 {j : Nat} (h : j < 120) : sI 2 (I, R) (some 76) (nI j) x = some (up2 I 76 j (narA 2 x), R) := (sI_lit rfl (vp_in_nI h (by decide))).trans (by rw [nI_clamp (by omega)])
theorem aI_77 {j : Nat} (h : j < 16) : aI 0 (I, R) (some 77) (nI j) = some (I 77 j) := (aI_lit rfl (vp_in_nI h (by decide))).trans (by rw [nI_clamp (by omega)])
theorem sI_77 {j : Nat} (h : j < 16) : sI 0 (I, R) (some 77) (nI j) x = some (up2 I 77 j x, R) := (sI_lit rfl (vp_in_nI h (by decide))).trans (by rw [nI_clamp (by omega)]; rfl)
theorem aI_78 {j : Nat} (h : j < 1920) : aI 0 (I, R) (some 78) (nI j) = some (I 78 j) := (aI_lit rfl (vp_in_nI h (by decide))).trans (by rw [nI_clamp (by omega)])
theorem sI_78 {j : Nat} (h : j < 1920) : sI 0 (I, R) (some 78) (nI j) x = some (up2 I 78 j x, R) := (sI_lit rfl (vp_in_nI h (by decide))).trans (by rw [nI_clamp (by omega)]; rfl)
theorem aI_79 {j : Nat} (h : j < 121) : aI 0 (I, R) (some 79) (nI j) = some (I 79 j) := (aI_lit rfl (vp_in_nI h (by decide))).trans (by rw [nI_clamp (by omega)])
theorem sI_79 {j : Nat} (h : j < 121) : sI 0 (I, R) (some 79) (nI j) x = some (up2 I 79 j x, R) := (sI_lit rfl (vp_in_nI h (by decide))).trans (by rw [nI_clamp (by omega)]; rfl)
theorem aI_80 {j : Nat} (h : j < 7) : aI 1 (I, R) (some 80) (nI j) = some (I 80 j) := (aI_lit rfl (vp_in_nI h (by decide))).trans (by rw [nI_clamp (by omega)])
theorem sI_80 {j : Nat} (h : j < 7) : sI 1 (I, R) (some 80) (nI j) x = some (up2 I 80 j (narA 1 x), R) := (sI_lit rfl (vp_in_nI h (by decide))).trans (by rw [nI_clamp (by omega)])
theorem aI_81 {j : Nat} (h : j < 121) : aI 0 (I, R) (some 81) (nI j) = some (I 81 j) := (aI_lit rfl (vp_in_nI h (by decide))).trans (by rw [nI_clamp (by omega)])
theorem sI_81 {j : Nat} (h : j < 121) : sI 0 (I, R) (some 81) (nI j) x = some (up2 I 81 j x, R) := (sI_lit rfl (vp_in_nI h (by decide))).trans (by rw [nI_clamp (by omega)]; rfl)
theorem aI_82 {j : Nat} (h : j < 4) : aI 0 (I, R) (some 82) (nI j) = some (I 82 j) := (aI_lit rfl (vp_in_nI h (by decide))).trans (by rw [nI_clamp (by omega)])
theorem sI_82 {j : Nat} (h : j < 4) : sI 0 (I, R) (some 82) (nI j) x = some (up2 I 82 j x, R) := (sI_lit rfl (vp_in_nI h (by decide))).trans (by rw [nI_clamp (by omega)]; rfl)
theorem aI_83 {j : Nat} (h : j < 4) : aI 0 (I, R) (some 83) (nI j) = some (I 83 j) := (aI_lit rfl (vp_in_nI h (by decide))).trans (by rw [nI_clamp (by omega)])
theorem sI_83 {j : Nat} (h : j < 4) : sI 0 (I, R) (some 83) (nI j) x = some (up2 I 83 j x, R) := (sI_lit rfl (vp_in_nI h (by decide))).trans (by rw [nI_clamp (by omega)]; rfl)
theorem aI_84 {j : Nat} (h : j < 160) : aI 0 (I, R) (some 84) (nI j) = some (I 84 j) := (aI_lit rfl (vp_in_nI h (by decide))).trans (by rw [nI_clamp (by omega)])
theorem sI_84 {j : Nat} (h : j < 160) : sI 0 (I, R) (some 84) (nI j) x = some (up2 I 84 j x, R) := (sI_lit rfl (vp_in_nI h (by decide))).trans (by rw [nI_clamp (by omega)]; rfl)
variable {β : Type} {f1 : Nat → Option β} {f2 : Int32 → Option β} {f3 : Option Nat → Option β} {f4 : Mem → Option β}
theorem rcb_0 : (rc 8 (some 0)).bind f1 = f1 0 := rfl
theorem fIb_0 : (fI 8 (I, R) (some 0) i).bind f2 = f2 (I 0 i) := rfl
theorem pIb_0 : (pI 8 (I, R) (some 0) i x).bind f4 = f4 (up2 I 0 i x, R) := rfl
theorem fRb_0_0 {pl nm hd rd : Option Nat} : (fR 8 (I, R0 pl nm hd rd) (some 0) 0).bind f3 = f3 (some 1) := rfl
theorem fRb_0_1 {pl nm hd rd : Option Nat} : (fR 8 (I, R0 pl nm hd rd) (some 0) 1).bind f3 = f3 (some 9) := rfl
theorem fRb_0_2 {pl nm hd rd : Option Nat} : (fR 8 (I, R0 pl nm hd rd) (some 0) 2).bind f3 = f3 (some 17) := rfl
theorem fRb_0_3 {pl nm hd rd : Option Nat} : (fR 8 (I, R0 pl nm hd rd) (some 0) 3).bind f3 = f3 (some 28) := rfl
theorem fRb_0_4 {pl nm hd rd : Option Nat} : (fR 8 (I, R0 pl nm hd rd) (some 0) 4).bind f3 = f3 (some 31) := rfl
theorem fRb_0_5 {pl nm hd rd : Option Nat} : (fR 8 (I, R0 pl nm hd rd) (some 0) 5).bind f3 = f3 (some 35) := rfl
theorem fRb_0_6 {pl nm hd rd : Option Nat} : (fR 8 (I, R0 pl nm hd rd) (some 0) 6).bind f3 = f3 (some 38) := rfl
theorem fRb_0_7 {pl nm hd rd : Option Nat} : (fR 8 (I, R0 pl nm hd rd) (some 0) 7).bind f3 = f3 (some 51) := rfl
theorem rcb_1 : (rc 3 (some 1)).bind f1 = f1 1 := rfl
theorem fIb_1 : (fI 3 (I, R) (some 1) i).bind f2 = f2 (I 1 i) := rfl
theorem pIb_1 : (pI 3 (I, R) (some 1) i x).bind f4 = f4 (up2 I 1 i x, R) := rfl
theorem fRb_1_1 {pl nm hd rd : Option Nat} : (fR 3 (I, R0 pl nm hd rd) (some 1) 1).bind f3 = f3 (some 2) := rfl
theorem fRb_1_2 {pl nm hd rd : Option Nat} : (fR 3 (I, R0 pl nm hd rd) (some 1) 2).bind f3 = f3 (some 3) := rfl
theorem fRb_1_3 {pl nm hd rd : Option Nat} : (fR 3 (I, R0 pl nm hd rd) (some 1) 3).bind f3 = f3 (some 4) := rfl
theorem fRb_1_4 {pl nm hd rd : Option Nat} : (fR 3 (I, R0 pl nm hd rd) (some 1) 4).bind f3 = f3 (some 5) := rfl
theorem fRb_1_5 {pl nm hd rd : Option Nat} : (fR 3 (I, R0 pl nm hd rd) (some 1) 5).bind f3 = f3 (some 6) := rfl
theorem fRb_1_6 {pl nm hd rd : Option Nat} : (fR 3 (I, R0 pl nm hd rd) (some 1) 6).bind f3 = f3 (some 7) := rfl
theorem fRb_1_7 {pl nm hd rd : Option Nat} : (fR 3 (I, R0 pl nm hd rd) (some 1) 7).bind f3 = f3 (some 8) := rfl
theorem aIb_2 {j : Nat} (h : j < 16) : (aI 0 (I, R) (some 2) (nI j)).bind f2 = f2 (I 2 j) := by rw [aI_2 h]; rfl
theorem sIb_2 {j : Nat} (h : j < 16) : (sI 0 (I, R) (some 2) (nI j) x).bind f4 = f4 (up2 I 2 j x, R) := by rw [sI_2 h]; rfl
theorem aIb_3 {j : Nat} (h : j < 16) : (aI 0 (I, R) (some 3) (nI j)).bind f2 = f2 (I 3 j) := by rw [aI_3 h]; rfl
theorem sIb_3 {j : Nat} (h : j < 16) : (sI 0 (I, R) (some 3) (nI j) x).bind f4 = f4 (up2 I 3 j x, R) := by rw [sI_3 h]; rfl
theorem aIb_4 {j : Nat} (h : j < 16) : (aI 0 (I, R) (some 4) (nI j)).bind f2 = f2 (I 4 j) := by rw [aI_4 h]; rfl
theorem sIb_4 {j : Nat} (h : j < 16) : (sI 0 (I, R) (some 4) (nI j) x).bind f4 = f4 (up2 I 4 j x, R) := by rw [sI_4 h]; rfl
theorem aIb_5 {j : Nat} (h : j < 16) : (aI 0 (I, R) (some 5) (nI j)).bind f2 = f2 (I 5 j) := by rw [aI_5 h]; rfl
theorem sIb_5 {j : Nat} (h : j < 16) : (sI 0 (I, R) (some 5) (nI j) x).bind f4 = f4 (up2 I 5 j x, R) := by rw [sI_5 h]; rfl
theorem aIb_6 {j : Nat} (h : j < 2) : (aI 0 (I, R) (some 6) (nI j)).bind f2 = f2 (I 6 j) := by rw [aI_6 h]; rfl
theorem sIb_6 {j : Nat} (h : j < 2) : (sI 0 (I, R) (some 6) (nI j) x).bind f4 = f4 (up2 I 6 j x, R) := by rw [sI_6 h]; rfl
theorem aIb_7 {j : Nat} (h : j < 8) : (aI 0 (I, R) (some 7) (nI j)).bind f2 = f2 (I 7 j) := by rw [aI_7 h]; rfl
theorem sIb_7 {j : Nat} (h : j < 8) : (sI 0 (I, R) (some 7) (nI j) x).bind f4 = f4 (up2 I 7 j x, R) := by rw [sI_7 h]; rfl
theorem aIb_8 {j : Nat} (h : j < 8) : (aI 0 (I, R) (some 8) (nI j)).bind f2 = f2 (I 8 j) := by rw [aI_8 h]; rfl
theorem sIb_8 {j : Nat} (h : j < 8) : (sI 0 (I, R) (some 8) (nI j) x).bind f4 = f4 (up2 I 8 j x, R) := by rw [sI_8 h]; rfl
theorem rcb_9 : (rc 3 (some 9)).bind f1 = f1 9 := rfl
theorem fIb_9 : (fI 3 (I, R) (some 9) i).bind f2 = f2 (I 9 i) := rfl
theorem pIb_9 : (pI 3 (I, R) (some 9) i x).bind f4 = f4 (up2 I 9 i x, R) := rfl
theorem fRb_9_1 {pl nm hd rd : Option Nat} : (fR 3 (I, R0 pl nm hd rd) (some 9) 1).bind f3 = f3 (some 10) := rfl
theorem fRb_9_2 {pl nm hd rd : Option Nat} : (fR 3 (I, R0 pl nm hd rd) (some 9) 2).bind f3 = f3 (some 11) := rfl
theorem fRb_9_3 {pl nm hd rd : Option Nat} : (fR 3 (I, R0 pl nm hd rd) (some 9) 3).bind f3 = f3 (some 12) := rfl
theorem fRb_9_4 {pl nm hd rd : Option Nat} : (fR 3 (I, R0 pl nm hd rd) (some 9) 4).bind f3 = f3 (some 13) := rfl
theorem fRb_9_5 {pl nm hd rd : Option Nat} : (fR 3 (I, R0 pl nm hd rd) (some 9) 5).bind f3 = f3 (some 14) := rfl
theorem fRb_9_6 {pl nm hd rd : Option Nat} : (fR 3 (I, R0 pl nm hd rd) (some 9) 6).bind f3 = f3 (some 15) := rfl
theorem fRb_9_7 {pl nm hd rd : Option Nat} : (fR 3 (I, R0 pl nm hd rd) (some 9) 7).bind f3 = f3 (some 16) := rfl
theorem aIb_10 {j : Nat} (h : j < 16) : (aI 0 (I, R) (some 10) (nI j)).bind f2 = f2 (I 10 j) := by rw [aI_10 h]; rfl
theorem sIb_10 {j : Nat} (h : j < 16) : (sI 0 (I, R) (some 10) (nI j) x).bind f4 = f4 (up2 I 10 j x, R) := by rw [sI_10 h]; rfl
theorem aIb_11 {j : Nat} (h : j < 16) : (aI 0 (I, R) (some 11) (nI j)).bind f2 = f2 (I 11 j) := by rw [aI_11 h]; rfl
theorem sIb_11 {j : Nat} (h : j < 16) : (sI 0 (I, R) (some 11) (nI j) x).bind f4 = f4 (up2 I 11 j x, R) := by rw [sI_11 h]; rfl
theorem aIb_12 {j : Nat} (h : j < 16) : (aI 0 (I, R) (some 12) (nI j)).bind f2 = f2 (I 12 j) := by rw [aI_12 h]; rfl
theorem sIb_12 {j : Nat} (h : j < 16) : (sI 0 (I, R) (some 12) (nI j) x).bind f4 = f4 (up2 I 12 j x, R) := by rw [sI_12 h]; rfl
theorem aIb_13 {j : Nat} (h : j < 16) : (aI 0 (I, R) (some 13) (nI j)).bind f2 = f2 (I 13 j) := by rw [aI_13 h]; rfl
theorem sIb_13 {j : Nat} (h : j < 16) : (sI 0 (I, R) (some 13) (nI j) x).bind f4 = f4 (up2 I 13 j x, R) := by rw [sI_13 h]; rfl
theorem aIb_14 {j : Nat} (h : j < 2) : (aI 0 (I, R) (some 14) (nI j)).bind f2 = f2 (I 14 j) := by rw [aI_14 h]; rfl
theorem sIb_14 {j : Nat} (h : j < 2) : (sI 0 (I, R) (some 14) (nI j) x).bind f4 = f4 (up2 I 14 j x, R) := by rw [sI_14 h]; rfl
theorem aIb_15 {j : Nat} (h : j < 8) : (aI 0 (I, R) (some 15) (nI j)).bind f2 = f2 (I 15 j) := by rw [aI_15 h]; rfl
theorem sIb_15 {j : Nat} (h : j < 8) : (sI 0 (I, R) (some 15) (nI j) x).bind f4 = f4 (up2 I 15 j x, R) := by rw [sI_15 h]; rfl
theorem aIb_16 {j : Nat} (h : j < 8) : (aI 0 (I, R) (some 16) (nI j)).bind f2 = f2 (I 16 j) := by rw [aI_16 h]; rfl
theorem sIb_16 {j : Nat} (h : j < 8) : (sI 0 (I, R) (some 16) (nI j) x).bind f4 = f4 (up2 I 16 j x, R) := by rw [sI_16 h]; rfl
theorem rcb_17 : (rc 6 (some 17)).bind f1 = f1 17 := rfl
theorem fIb_17 : (fI 6 (I, R) (some 17) i).bind f2 = f2 (I 17 i) := rfl
theorem pIb_17 : (pI 6 (I, R) (some 17) i x).bind f4 = f4 (up2 I 17 i x, R) := rfl
theorem fRb_17_5 {pl nm hd rd : Option Nat} : (fR 6 (I, R0 pl nm hd rd) (some 17) 5).bind f3 = f3 (some 18) := rfl
theorem fRb_17_6 {pl nm hd rd : Option Nat} : (fR 6 (I, R0 pl nm hd rd) (some 17) 6).bind f3 = f3 (some 19) := rfl
theorem fRb_17_7 {pl nm hd rd : Option Nat} : (fR 6 (I, R0 pl nm hd rd) (some 17) 7).bind f3 = f3 (some 20) := rfl
theorem fRb_17_9 {pl nm hd rd : Option Nat} : (fR 6 (I, R0 pl nm hd rd) (some 17) 9).bind f3 = f3 (some 21) := rfl
theorem fRb_17_10 {pl nm hd rd : Option Nat} : (fR 6 (I, R0 pl nm hd rd) (some 17) 10).bind f3 = f3 (some 22) := rfl
theorem fRb_17_11 {pl nm hd rd : Option Nat} : (fR 6 (I, R0 pl nm hd rd) (some 17) 11).bind f3 = f3 (some 23) := rfl
theorem fRb_17_12 {pl nm hd rd : Option Nat} : (fR 6 (I, R0 pl nm hd rd) (some 17) 12).bind f3 = f3 (some 24) := rfl
theorem fRb_17_15 {pl nm hd rd : Option Nat} : (fR 6 (I, R0 pl nm hd rd) (some 17) 15).bind f3 = f3 (some 25) := rfl
theorem fRb_17_16 {pl nm hd rd : Option Nat} : (fR 6 (I, R0 pl nm hd rd) (some 17) 16).bind f3 = f3 (some 26) := rfl
theorem fRb_17_17 {pl nm hd rd : Option Nat} : (fR 6 (I, R0 pl nm hd rd) (some 17) 17).bind f3 = f3 (some 27) := rfl
theorem fRb_17_0 {pl nm hd rd : Option Nat} : (fR 6 (I, R0 pl nm hd rd) (some 17) 0).bind f3 = f3 pl := rfl
theorem aIb_18 {j : Nat} (h : j < 9216) : (aI 0 (I, R) (some 18) (nI j)).bind f2 = f2 (I 18 j) := by rw [aI_18 h]; rfl
theorem sIb_18 {j : Nat} (h : j < 9216) : (sI 0 (I, R) (some 18) (nI j) x).bind f4 = f4 (up2 I 18 j x, R) := by rw [sI_18 h]; rfl
theorem aIb_19 {j : Nat} (h : j < 9216) : (aI 0 (I, R) (some 19) (nI j)).bind f2 = f2 (I 19 j) := by rw [aI_19 h]; rfl
theorem sIb_19 {j : Nat} (h : j < 9216) : (sI 0 (I, R) (some 19) (nI j) x).bind f4 = f4 (up2 I 19 j x, R) := by rw [sI_19 h]; rfl
theorem aIb_20 {j : Nat} (h : j < 9216) : (aI 0 (I, R) (some 20) (nI j)).bind f2 = f2 (I 20 j) := by rw [aI_20 h]; rfl
theorem sIb_20 {j : Nat} (h : j < 9216) : (sI 0 (I, R) (some 20) (nI j) x).bind f4 = f4 (up2 I 20 j x, R) := by rw [sI_20 h]; rfl
theorem aIb_21 {j : Nat} (h : j < 1024) : (aI 0 (I, R) (some 21) (nI j)).bind f2 = f2 (I 21 j) := by rw [aI_21 h]; rfl
theorem sIb_21 {j : Nat} (h : j < 1024) : (sI 0 (I, R) (some 21) (nI j) x).bind f4 = f4 (up2 I 21 j x, R) := by rw [sI_21 h]; rfl
theorem aIb_22 {j : Nat} (h : j < 3776) : (aI 0 (I, R) (some 22) (nI j)).bind f2 = f2 (I 22 j) := by rw [aI_22 h]; rfl
theorem sIb_22 {j : Nat} (h : j < 3776) : (sI 0 (I, R) (some 22) (nI j) x).bind f4 = f4 (up2 I 22 j x, R) := by rw [sI_22 h]; rfl
theorem aIb_23 {j : Nat} (h : j < 3776) : (aI 0 (I, R) (some 23) (nI j)).bind f2 = f2 (I 23 j) := by rw [aI_23 h]; rfl
theorem sIb_23 {j : Nat} (h : j < 3776) : (sI 0 (I, R) (some 23) (nI j) x).bind f4 = f4 (up2 I 23 j x, R) := by rw [sI_23 h]; rfl
theorem aIb_24 {j : Nat} (h : j < 3776) : (aI 0 (I, R) (some 24) (nI j)).bind f2 = f2 (I 24 j) := by rw [aI_24 h]; rfl
theorem sIb_24 {j : Nat} (h : j < 3776) : (sI 0 (I, R) (some 24) (nI j) x).bind f4 = f4 (up2 I 24 j x, R) := by rw [sI_24 h]; rfl
theorem aIb_25 {j : Nat} (h : j < 27) : (aI 0 (I, R) (some 25) (nI j)).bind f2 = f2 (I 25 j) := by rw [aI_25 h]; rfl
theorem sIb_25 {j : Nat} (h : j < 27) : (sI 0 (I, R) (some 25) (nI j) x).bind f4 = f4 (up2 I 25 j x, R) := by rw [sI_25 h]; rfl
theorem aIb_26 {j : Nat} (h : j < 27) : (aI 0 (I, R) (some 26) (nI j)).bind f2 = f2 (I 26 j) := by rw [aI_26 h]; rfl
theorem sIb_26 {j : Nat} (h : j < 27) : (sI 0 (I, R) (some 26) (nI j) x).bind f4 = f4 (up2 I 26 j x, R) := by rw [sI_26 h]; rfl
theorem aIb_27 {j : Nat} (h : j < 512) : (aI 1 (I, R) (some 27) (nI j)).bind f2 = f2 (I 27 j) := by rw [aI_27 h]; rfl
theorem sIb_27 {j : Nat} (h : j < 512) : (sI 1 (I, R) (some 27) (nI j) x).bind f4 = f4 (up2 I 27 j (narA 1 x), R) := by rw [sI_27 h]; rfl
theorem rcb_28 : (rc 2 (some 28)).bind f1 = f1 28 := rfl
theorem fIb_28 : (fI 2 (I, R) (some 28) i).bind f2 = f2 (I 28 i) := rfl
theorem pIb_28 : (pI 2 (I, R) (some 28) i x).bind f4 = f4 (up2 I 28 i x, R) := rfl
theorem fRb_28_3 {pl nm hd rd : Option Nat} : (fR 2 (I, R0 pl nm hd rd) (some 28) 3).bind f3 = f3 (some 29) := rfl
theorem fRb_28_4 {pl nm hd rd : Option Nat} : (fR 2 (I, R0 pl nm hd rd) (some 28) 4).bind f3 = f3 (some 30) := rfl
theorem fRb_28_0 {pl nm hd rd : Option Nat} : (fR 2 (I, R0 pl nm hd rd) (some 28) 0).bind f3 = f3 nm := rfl
theorem aIb_29 {j : Nat} (h : j < 64) : (aI 0 (I, R) (some 29) (nI j)).bind f2 = f2 (I 29 j) := by rw [aI_29 h]; rfl
theorem sIb_29 {j : Nat} (h : j < 64) : (sI 0 (I, R) (some 29) (nI j) x).bind f4 = f4 (up2 I 29 j x, R) := by rw [sI_29 h]; rfl
theorem aIb_30 {j : Nat} (h : j < 8) : (aI 0 (I, R) (some 30) (nI j)).bind f2 = f2 (I 30 j) := by rw [aI_30 h]; rfl
theorem sIb_30 {j : Nat} (h : j < 8) : (sI 0 (I, R) (some 30) (nI j) x).bind f4 = f4 (up2 I 30 j x, R) := by rw [sI_30 h]; rfl
theorem rcb_31 : (rc 1 (some 31)).bind f1 = f1 31 := rfl
theorem fIb_31 : (fI 1 (I, R) (some 31) i).bind f2 = f2 (I 31 i) := rfl
theorem pIb_31 : (pI 1 (I, R) (some 31) i x).bind f4 = f4 (up2 I 31 i x, R) := rfl
theorem fRb_31_2 {pl nm hd rd : Option Nat} : (fR 1 (I, R0 pl nm hd rd) (some 31) 2).bind f3 = f3 (some 32) := rfl
theorem fRb_31_3 {pl nm hd rd : Option Nat} : (fR 1 (I, R0 pl nm hd rd) (some 31) 3).bind f3 = f3 (some 33) := rfl
theorem fRb_31_4 {pl nm hd rd : Option Nat} : (fR 1 (I, R0 pl nm hd rd) (some 31) 4).bind f3 = f3 (some 34) := rfl
theorem fRb_31_1 {pl nm hd rd : Option Nat} : (fR 1 (I, R0 pl nm hd rd) (some 31) 1).bind f3 = f3 hd := rfl
theorem aIb_32 {j : Nat} (h : j < 4096) : (aI 0 (I, R) (some 32) (nI j)).bind f2 = f2 (I 32 j) := by rw [aI_32 h]; rfl
theorem sIb_32 {j : Nat} (h : j < 4096) : (sI 0 (I, R) (some 32) (nI j) x).bind f4 = f4 (up2 I 32 j x, R) := by rw [sI_32 h]; rfl
theorem aIb_33 {j : Nat} (h : j < 4096) : (aI 0 (I, R) (some 33) (nI j)).bind f2 = f2 (I 33 j) := by rw [aI_33 h]; rfl
theorem sIb_33 {j : Nat} (h : j < 4096) : (sI 0 (I, R) (some 33) (nI j) x).bind f4 = f4 (up2 I 33 j x, R) := by rw [sI_33 h]; rfl
theorem aIb_34 {j : Nat} (h : j < 64) : (aI 0 (I, R) (some 34) (nI j)).bind f2 = f2 (I 34 j) := by rw [aI_34 h]; rfl
theorem sIb_34 {j : Nat} (h : j < 64) : (sI 0 (I, R) (some 34) (nI j) x).bind f4 = f4 (up2 I 34 j x, R) := by rw [sI_34 h]; rfl
theorem rcb_35 : (rc 0 (some 35)).bind f1 = f1 35 := rfl
theorem fIb_35 : (fI 0 (I, R) (some 35) i).bind f2 = f2 (I 35 i) := rfl
theorem pIb_35 : (pI 0 (I, R) (some 35) i x).bind f4 = f4 (up2 I 35 i x, R) := rfl
theorem fRb_35_5 {pl nm hd rd : Option Nat} : (fR 0 (I, R0 pl nm hd rd) (some 35) 5).bind f3 = f3 (some 36) := rfl
theorem fRb_35_6 {pl nm hd rd : Option Nat} : (fR 0 (I, R0 pl nm hd rd) (some 35) 6).bind f3 = f3 (some 37) := rfl
theorem aIb_36 {j : Nat} (h : j < 64) : (aI 0 (I, R) (some 36) (nI j)).bind f2 = f2 (I 36 j) := by rw [aI_36 h]; rfl
theorem sIb_36 {j : Nat} (h : j < 64) : (sI 0 (I, R) (some 36) (nI j) x).bind f4 = f4 (up2 I 36 j x, R) := by rw [sI_36 h]; rfl
theorem aIb_37 {j : Nat} (h : j < 64) : (aI 0 (I, R) (some 37) (nI j)).bind f2 = f2 (I 37 j) := by rw [aI_37 h]; rfl
theorem sIb_37 {j : Nat} (h : j < 64) : (sI 0 (I, R) (some 37) (nI j) x).bind f4 = f4 (up2 I 37 j x, R) := by rw [sI_37 h]; rfl
theorem rcb_38 : (rc 7 (some 38)).bind f1 = f1 38 := rfl
theorem fIb_38 : (fI 7 (I, R) (some 38) i).bind f2 = f2 (I 38 i) := rfl
theorem pIb_38 : (pI 7 (I, R) (some 38) i x).bind f4 = f4 (up2 I 38 i x, R) := rfl
theorem fRb_38_0 {pl nm hd rd : Option Nat} : (fR 7 (I, R0 pl nm hd rd) (some 38) 0).bind f3 = f3 (some 39) := rfl
theorem fRb_38_2 {pl nm hd rd : Option Nat} : (fR 7 (I, R0 pl nm hd rd) (some 38) 2).bind f3 = f3 (some 40) := rfl
theorem fRb_38_3 {pl nm hd rd : Option Nat} : (fR 7 (I, R0 pl nm hd rd) (some 38) 3).bind f3 = f3 (some 47) := rfl
theorem fRb_38_6 {pl nm hd rd : Option Nat} : (fR 7 (I, R0 pl nm hd rd) (some 38) 6).bind f3 = f3 (some 48) := rfl
theorem aIb_39 {j : Nat} (h : j < 120) : (aI 2 (I, R) (some 39) (nI j)).bind f2 = f2 (I 39 j) := by rw [aI_39 h]; rfl
theorem sIb_39 {j : Nat} (h : j < 120) : (sI 2 (I, R) (some 39) (nI j) x).bind f4 = f4 (up2 I 39 j (narA 2 x), R) := by rw [sI_39 h]; rfl
theorem aIb_41 {j : Nat} (h : j < 120) : (aI 2 (I, R) (some 41) (nI j)).bind f2 = f2 (I 41 j) := by rw [aI_41 h]; rfl
theorem sIb_41 {j : Nat} (h : j < 120) : (sI 2 (I, R) (some 41) (nI j) x).bind f4 = f4 (up2 I 41 j (narA 2 x), R) := by rw [sI_41 h]; rfl
theorem aIb_42 {j : Nat} (h : j < 120) : (aI 2 (I, R) (some 42) (nI j)).bind f2 = f2 (I 42 j) := by rw [aI_42 h]; rfl
theorem sIb_42 {j : Nat} (h : j < 120) : (sI 2 (I, R) (some 42) (nI j) x).bind f4 = f4 (up2 I 42 j (narA 2 x), R) := by rw [sI_42 h]; rfl
theorem aIb_43 {j : Nat} (h : j < 120) : (aI 2 (I, R) (some 43) (nI j)).bind f2 = f2 (I 43 j) := by rw [aI_43 h]; rfl
theorem sIb_43 {j : Nat} (h : j < 120) : (sI 2 (I, R) (some 43) (nI j) x).bind f4 = f4 (up2 I 43 j (narA 2 x), R) := by rw [sI_43 h]; rfl
theorem aIb_44 {j : Nat} (h : j < 120) : (aI 2 (I, R) (some 44) (nI j)).bind f2 = f2 (I 44 j) := by rw [aI_44 h]; rfl
theorem sIb_44 {j : Nat} (h : j < 120) : (sI 2 (I, R) (some 44) (nI j) x).bind f4 = f4 (up2 I 44 j (narA 2 x), R) := by rw [sI_44 h]; rfl
theorem aIb_45 {j : Nat} (h : j < 120) : (aI 2 (I, R) (some 45) (nI j)).bind f2 = f2 (I 45 j) := by rw [aI_45 h]; rfl
theorem sIb_45 {j : Nat} (h : j < 120) : (sI 2 (I, R) (some 45) (nI j) x).bind f4 = f4 (up2 I 45 j (narA 2 x), R) := by rw [sI_45 h]; rfl
theorem aIb_46 {j : Nat} (h : j < 120) : (aI 2 (I, R) (some 46) (nI j)).bind f2 = f2 (I 46 j) := by rw [aI_46 h]; rfl
theorem sIb_46 {j : Nat} (h : j < 120) : (sI 2 (I, R) (some 46) (nI j) x).bind f4 = f4 (up2 I 46 j (narA 2 x), R) := by rw [sI_46 h]; rfl
theorem aIb_47 {j : Nat} (h : j < 6) : (aI 0 (I, R) (some 47) (nI j)).bind f2 = f2 (I 47 j) := by rw [aI_47 h]; rfl
theorem sIb_47 {j : Nat} (h : j < 6) : (sI 0 (I, R) (some 47) (nI j) x).bind f4 = f4 (up2 I 47 j x, R) := by rw [sI_47 h]; rfl
theorem rcb_48 : (rc 4 (some 48)).bind f1 = f1 48 := rfl
theorem fIb_48 : (fI 4 (I, R) (some 48) i).bind f2 = f2 (I 48 i) := rfl
theorem pIb_48 : (pI 4 (I, R) (some 48) i x).bind f4 = f4 (up2 I 48 i x, R) := rfl
theorem fRb_48_0 {pl nm hd rd : Option Nat} : (fR 4 (I, R0 pl nm hd rd) (some 48) 0).bind f3 = f3 (some 49) := rfl
theorem fRb_48_4 {pl nm hd rd : Option Nat} : (fR 4 (I, R0 pl nm hd rd) (some 48) 4).bind f3 = f3 rd := rfl
theorem aIb_49 {j : Nat} (h : j < 6) : (aI 0 (I, R) (some 49) (nI j)).bind f2 = f2 (I 49 j) := by rw [aI_49 h]; rfl
theorem sIb_49 {j : Nat} (h : j < 6) : (sI 0 (I, R) (some 49) (nI j) x).bind f4 = f4 (up2 I 49 j x, R) := by rw [sI_49 h]; rfl
theorem rcb_52 : (rc 5 (some 52)).bind f1 = f1 52 := rfl
theorem fIb_52 : (fI 5 (I, R) (some 52) i).bind f2 = f2 (I 52 i) := rfl
theorem pIb_52 : (pI 5 (I, R) (some 52) i x).bind f4 = f4 (up2 I 52 i x, R) := rfl
theorem fRb_52_2 {pl nm hd rd : Option Nat} : (fR 5 (I, R0 pl nm hd rd) (some 52) 2).bind f3 = f3 (some 53) := rfl
theorem aIb_53 {j : Nat} (h : j < 40) : (aI 0 (I, R) (some 53) (nI j)).bind f2 = f2 (I 53 j) := by rw [aI_53 h]; rfl
theorem sIb_53 {j : Nat} (h : j < 40) : (sI 0 (I, R) (some 53) (nI j) x).bind f4 = f4 (up2 I 53 j x, R) := by rw [sI_53 h]; rfl
theorem rcb_54 : (rc 5 (some 54)).bind f1 = f1 54 := rfl
theorem fIb_54 : (fI 5 (I, R) (some 54) i).bind f2 = f2 (I 54 i) := rfl
theorem pIb_54 : (pI 5 (I, R) (some 54) i x).bind f4 = f4 (up2 I 54 i x, R) := rfl
theorem fRb_54_2 {pl nm hd rd : Option Nat} : (fR 5 (I, R0 pl nm hd rd) (some 54) 2).bind f3 = f3 (some 55) := rfl
theorem aIb_55 {j : Nat} (h : j < 40) : (aI 0 (I, R) (some 55) (nI j)).bind f2 = f2 (I 55 j) := by rw [aI_55 h]; rfl
theorem sIb_55 {j : Nat} (h : j < 40) : (sI 0 (I, R) (some 55) (nI j) x).bind f4 = f4 (up2 I 55 j x, R) := by rw [sI_55 h]; rfl
theorem rcb_56 : (rc 5 (some 56)).bind f1 = f1 56 := rfl
theorem fIb_56 : (fI 5 (I, R) (some 56) i).bind f2 = f2 (I 56 i) := rfl
theorem pIb_56 : (pI 5 (I, R) (some 56) i x).bind f4 = f4 (up2 I 56 i x, R) := rfl
theorem fRb_56_2 {pl nm hd rd : Option Nat} : (fR 5 (I, R0 pl nm hd rd) (some 56) 2).bind f3 = f3 (some 57) := rfl
theorem aIb_57 {j : Nat} (h : j < 40) : (aI 0 (I, R) (some 57) (nI j)).bind f2 = f2 (I 57 j) := by rw [aI_57 h]; rfl
theorem sIb_57 {j : Nat} (h : j < 40) : (sI 0 (I, R) (some 57) (nI j) x).bind f4 = f4 (up2 I 57 j x, R) := by rw [sI_57 h]; rfl
theorem rcb_58 : (rc 5 (some 58)).bind f1 = f1 58 := rfl
theorem fIb_58 : (fI 5 (I, R) (some 58) i).bind f2 = f2 (I 58 i) := rfl
theorem pIb_58 : (pI 5 (I, R) (some 58) i x).bind f4 = f4 (up2 I 58 i x, R) := rfl
theorem fRb_58_2 {pl nm hd rd : Option Nat} : (fR 5 (I, R0 pl nm hd rd) (some 58) 2).bind f3 = f3 (some 59) := rfl
theorem aIb_59 {j : Nat} (h : j < 40) : (aI 0 (I, R) (some 59) (nI j)).bind f2 = f2 (I 59 j) := by rw [aI_59 h]; rfl
theorem sIb_59 {j : Nat} (h : j < 40) : (sI 0 (I, R) (some 59) (nI j) x).bind f4 = f4 (up2 I 59 j x, R) := by rw [sI_59 h]; rfl
theorem rcb_60 : (rc 9 (some 60)).bind f1 = f1 60 := rfl
theorem fIb_60 : (fI 9 (I, R) (some 60) i).bind f2 = f2 (I 60 i) := rfl
theorem pIb_60 : (pI 9 (I, R) (some 60) i x).bind f4 = f4 (up2 I 60 i x, R) := rfl
theorem fRb_60_4 {pl nm hd rd : Option Nat} : (fR 9 (I, R0 pl nm hd rd) (some 60) 4).bind f3 = f3 (some 61) := rfl
theorem fRb_60_5 {pl nm hd rd : Option Nat} : (fR 9 (I, R0 pl nm hd rd) (some 60) 5).bind f3 = f3 (some 62) := rfl
theorem fRb_60_6 {pl nm hd rd : Option Nat} : (fR 9 (I, R0 pl nm hd rd) (some 60) 6).bind f3 = f3 (some 63) := rfl
theorem fRb_60_7 {pl nm hd rd : Option Nat} : (fR 9 (I, R0 pl nm hd rd) (some 60) 7).bind f3 = f3 (some 64) := rfl
theorem fRb_60_8 {pl nm hd rd : Option Nat} : (fR 9 (I, R0 pl nm hd rd) (some 60) 8).bind f3 = f3 (some 65) := rfl
theorem fRb_60_10 {pl nm hd rd : Option Nat} : (fR 9 (I, R0 pl nm hd rd) (some 60) 10).bind f3 = f3 (some 66) := rfl
theorem fRb_60_11 {pl nm hd rd : Option Nat} : (fR 9 (I, R0 pl nm hd rd) (some 60) 11).bind f3 = f3 (some 67) := rfl
theorem fRb_60_12 {pl nm hd rd : Option Nat} : (fR 9 (I, R0 pl nm hd rd) (some 60) 12).bind f3 = f3 (some 68) := rfl
theorem fRb_60_13 {pl nm hd rd : Option Nat} : (fR 9 (I, R0 pl nm hd rd) (some 60) 13).bind f3 = f3 (some 69) := rfl
theorem fRb_60_14 {pl nm hd rd : Option Nat} : (fR 9 (I, R0 pl nm hd rd) (some 60) 14).bind f3 = f3 (some 70) := rfl
theorem fRb_60_16 {pl nm hd rd : Option Nat} : (fR 9 (I, R0 pl nm hd rd) (some 60) 16).bind f3 = f3 (some 71) := rfl
theorem fRb_60_17 {pl nm hd rd : Option Nat} : (fR 9 (I, R0 pl nm hd rd) (some 60) 17).bind f3 = f3 (some 72) := rfl
theorem fRb_60_18 {pl nm hd rd : Option Nat} : (fR 9 (I, R0 pl nm hd rd) (some 60) 18).bind f3 = f3 (some 73) := rfl
theorem fRb_60_24 {pl nm hd rd : Option Nat} : (fR 9 (I, R0 pl nm hd rd) (some 60) 24).bind f3 = f3 (some 74) := rfl
theorem fRb_60_25 {pl nm hd rd : Option Nat} : (fR 9 (I, R0 pl nm hd rd) (some 60) 25).bind f3 = f3 (some 75) := rfl
theorem fRb_60_26 {pl nm hd rd : Option Nat} : (fR 9 (I, R0 pl nm hd rd) (some 60) 26).bind f3 = f3 (some 76) := rfl
theorem fRb_60_30 {pl nm hd rd : Option Nat} : (fR 9 (I, R0 pl nm hd rd) (some 60) 30).bind f3 = f3 (some 77) := rfl
theorem fRb_60_31 {pl nm hd rd : Option Nat} : (fR 9 (I, R0 pl nm hd rd) (some 60) 31).bind f3 = f3 (some 78) := rfl
theorem fRb_60_36 {pl nm hd rd : Option Nat} : (fR 9 (I, R0 pl nm hd rd) (some 60) 36).bind f3 = f3 (some 79) := rfl
theorem fRb_60_37 {pl nm hd rd : Option Nat} : (fR 9 (I, R0 pl nm hd rd) (some 60) 37).bind f3 = f3 (some 80) := rfl
theorem fRb_60_42 {pl nm hd rd : Option Nat} : (fR 9 (I, R0 pl nm hd rd) (some 60) 42).bind f3 = f3 (some 81) := rfl
theorem fRb_60_43 {pl nm hd rd : Option Nat} : (fR 9 (I, R0 pl nm hd rd) (some 60) 43).bind f3 = f3 (some 82) := rfl
theorem fRb_60_44 {pl nm hd rd : Option Nat} : (fR 9 (I, R0 pl nm hd rd) (some 60) 44).bind f3 = f3 (some 83) := rfl
theorem fRb_60_45 {pl nm hd rd : Option Nat} : (fR 9 (I, R0 pl nm hd rd) (some 60) 45).bind f3 = f3 (some 84) := rfl
theorem aIb_61 {j : Nat} (h : j < 17) : (aI 0 (I, R) (some 61) (nI j)).bind f2 = f2 (I 61 j) := by rw [aI_61 h]; rfl
theorem sIb_61 {j : Nat} (h : j < 17) : (sI 0 (I, R) (some 61) (nI j) x).bind f4 = f4 (up2 I 61 j x, R) := by rw [sI_61 h]; rfl
theorem aIb_62 {j : Nat} (h : j < 17) : (aI 0 (I, R) (some 62) (nI j)).bind f2 = f2 (I 62 j) := by rw [aI_62 h]; rfl
theorem sIb_62 {j : Nat} (h : j < 17) : (sI 0 (I, R) (some 62) (nI j) x).bind f4 = f4 (up2 I 62 j x, R) := by rw [sI_62 h]; rfl
theorem aIb_63 {j : Nat} (h : j < 17) : (aI 0 (I, R) (some 63) (nI j)).bind f2 = f2 (I 63 j) := by rw [aI_63 h]; rfl
theorem sIb_63 {j : Nat} (h : j < 17) : (sI 0 (I, R) (some 63) (nI j) x).bind f4 = f4 (up2 I 63 j x, R) := by rw [sI_63 h]; rfl
theorem aIb_64 {j : Nat} (h : j < 8) : (aI 1 (I, R) (some 64) (nI j)).bind f2 = f2 (I 64 j) := by rw [aI_64 h]; rfl
theorem sIb_64 {j : Nat} (h : j < 8) : (sI 1 (I, R) (some 64) (nI j) x).bind f4 = f4 (up2 I 64 j (narA 1 x), R) := by rw [sI_64 h]; rfl
theorem aIb_65 {j : Nat} (h : j < 8) : (aI 1 (I, R) (some 65) (nI j)).bind f2 = f2 (I 65 j) := by rw [aI_65 h]; rfl
theorem sIb_65 {j : Nat} (h : j < 8) : (sI 1 (I, R) (some 65) (nI j) x).bind f4 = f4 (up2 I 65 j (narA 1 x), R) := by rw [sI_65 h]; rfl
theorem aIb_66 {j : Nat} (h : j < 9216) : (aI 0 (I, R) (some 66) (nI j)).bind f2 = f2 (I 66 j) := by rw [aI_66 h]; rfl
theorem sIb_66 {j : Nat} (h : j < 9216) : (sI 0 (I, R) (some 66) (nI j) x).bind f4 = f4 (up2 I 66 j x, R) := by rw [sI_66 h]; rfl
theorem aIb_67 {j : Nat} (h : j < 9216) : (aI 1 (I, R) (some 67) (nI j)).bind f2 = f2 (I 67 j) := by rw [aI_67 h]; rfl
theorem sIb_67 {j : Nat} (h : j < 9216) : (sI 1 (I, R) (some 67) (nI j) x).bind f4 = f4 (up2 I 67 j (narA 1 x), R) := by rw [sI_67 h]; rfl
theorem aIb_68 {j : Nat} (h : j < 8) : (aI 0 (I, R) (some 68) (nI j)).bind f2 = f2 (I 68 j) := by rw [aI_68 h]; rfl
theorem sIb_68 {j : Nat} (h : j < 8) : (sI 0 (I, R) (some 68) (nI j) x).bind f4 = f4 (up2 I 68 j x, R) := by rw [sI_68 h]; rfl
theorem aIb_69 {j : Nat} (h : j < 384) : (aI 0 (I, R) (some 69) (nI j)).bind f2 = f2 (I 69 j) := by rw [aI_69 h]; rfl
theorem sIb_69 {j : Nat} (h : j < 384) : (sI 0 (I, R) (some 69) (nI j) x).bind f4 = f4 (up2 I 69 j x, R) := by rw [sI_69 h]; rfl
theorem aIb_70 {j : Nat} (h : j < 4096) : (aI 0 (I, R) (some 70) (nI j)).bind f2 = f2 (I 70 j) := by rw [aI_70 h]; rfl
theorem sIb_70 {j : Nat} (h : j < 4096) : (sI 0 (I, R) (some 70) (nI j) x).bind f4 = f4 (up2 I 70 j x, R) := by rw [sI_70 h]; rfl
theorem aIb_71 {j : Nat} (h : j < 8) : (aI 0 (I, R) (some 71) (nI j)).bind f2 = f2 (I 71 j) := by rw [aI_71 h]; rfl
theorem sIb_71 {j : Nat} (h : j < 8) : (sI 0 (I, R) (some 71) (nI j) x).bind f4 = f4 (up2 I 71 j x, R) := by rw [sI_71 h]; rfl
theorem aIb_72 {j : Nat} (h : j < 512) : (aI 0 (I, R) (some 72) (nI j)).bind f2 = f2 (I 72 j) := by rw [aI_72 h]; rfl
theorem sIb_72 {j : Nat} (h : j < 512) : (sI 0 (I, R) (some 72) (nI j) x).bind f4 = f4 (up2 I 72 j x, R) := by rw [sI_72 h]; rfl
theorem aIb_73 {j : Nat} (h : j < 4096) : (aI 1 (I, R) (some 73) (nI j)).bind f2 = f2 (I 73 j) := by rw [aI_73 h]; rfl
theorem sIb_73 {j : Nat} (h : j < 4096) : (sI 1 (I, R) (some 73) (nI j) x).bind f4 = f4 (up2 I 73 j (narA 1 x), R) := by rw [sI_73 h]; rfl
theorem aIb_74 {j : Nat} (h : j < 64) : (aI 0 (I, R) (some 74) (nI j)).bind f2 = f2 (I 74 j) := by rw [aI_74 h]; rfl
theorem sIb_74 {j : Nat} (h : j < 64) : (sI 0 (I, R) (some 74) (nI j) x).bind f4 = f4 (up2 I 74 j x, R) := by rw [sI_74 h]; rfl
theorem aIb_75 {j : Nat} (h : j < 64) : (aI 0 (I, R) (some 75) (nI j)).bind f2 = f2 (I 75 j) := by rw [aI_75 h]; rfl
theorem sIb_75 {j : Nat} (h : j < 64) : (sI 0 (I, R) (some 75) (nI j) x).bind f4 = f4 (up2 I 75 j x, R) := by rw [sI_75 h]; rfl
theorem aIb_76 {j : Nat} (h : j < 120) : (aI 2 (I, R) (some 76) (nI j)).bind f2 = f2 (I 76 j) := by rw [aI_76 h]; rfl
theorem sIb_76 {j : Nat} (h : j < 120) : (sI 2 (I, R) (some 76) (nI j) x).bind f4 = f4 (up2 I 76 j (narA 2 x), R) := by rw [sI_76 h]; rfl
theorem aIb_77 {j : Nat} (h : j < 16) : (aI 0 (I, R) (some 77) (nI j)).bind f2 = f2 (I 77 j) := by rw [aI_77 h]; rfl
theorem sIb_77 {j : Nat} (h : j < 16) : (sI 0 (I, R) (some 77) (nI j) x).bind f4 = f4 (up2 I 77 j x, R) := by rw [sI_77 h]; rfl
theorem aIb_78 {j : Nat} (h : j < 1920) : (aI 0 (I, R) (some 78) (nI j)).bind f2 = f2 (I 78 j) := by rw [aI_78 h]; rfl
theorem sIb_78 {j : Nat} (h : j < 1920) : (sI 0 (I, R) (some 78) (nI j) x).bind f4 = f4 (up2 I 78 j x, R) := by rw [sI_78 h]; rfl
theorem aIb_79 {j : Nat} (h : j < 121) : (aI 0 (I, R) (some 79) (nI j)).bind f2 = f2 (I 79 j) := by rw [aI_79 h]; rfl
theorem sIb_79 {j : Nat} (h : j < 121) : (sI 0 (I, R) (some 79) (nI j) x).bind f4 = f4 (up2 I 79 j x, R) := by rw [sI_79 h]; rfl
theorem aIb_80 {j : Nat} (h : j < 7) : (aI 1 (I, R) (some 80) (nI j)).bind f2 = f2 (I 80 j) := by rw [aI_80 h]; rfl
theorem sIb_80 {j : Nat} (h : j < 7) : (sI 1 (I, R) (some 80) (nI j) x).bind f4 = f4 (up2 I 80 j (narA 1 x), R) := by rw [sI_80 h]; rfl
theorem aIb_81 {j : Nat} (h : j < 121) : (aI 0 (I, R) (some 81) (nI j)).bind f2 = f2 (I 81 j) := by rw [aI_81 h]; rfl
theorem sIb_81 {j : Nat} (h : j < 121) : (sI 0 (I, R) (some 81) (nI j) x).bind f4 = f4 (up2 I 81 j x, R) := by rw [sI_81 h]; rfl
theorem aIb_82 {j : Nat} (h : j < 4) : (aI 0 (I, R) (some 82) (nI j)).bind f2 = f2 (I 82 j) := by rw [aI_82 h]; rfl
theorem sIb_82 {j : Nat} (h : j < 4) : (sI 0 (I, R) (some 82) (nI j) x).bind f4 = f4 (up2 I 82 j x, R) := by rw [sI_82 h]; rfl
theorem aIb_83 {j : Nat} (h : j < 4) : (aI 0 (I, R) (some 83) (nI j)).bind f2 = f2 (I 83 j) := by rw [aI_83 h]; rfl
theorem sIb_83 {j : Nat} (h : j < 4) : (sI 0 (I, R) (some 83) (nI j) x).bind f4 = f4 (up2 I 83 j x, R) := by rw [sI_83 h]; rfl
theorem aIb_84 {j : Nat} (h : j < 160) : (aI 0 (I, R) (some 84) (nI j)).bind f2 = f2 (I 84 j) := by rw [aI_84 h]; rfl
theorem sIb_84 {j : Nat} (h : j < 160) : (sI 0 (I, R) (some 84) (nI j) x).bind f4 = f4 (up2 I 84 j x, R) := by rw [sI_84 h]; rfl
theorem rcb_P {c : Nat} (hc : c = 1 ∨ c = 9) : (rc 3 (some c)).bind f1 = f1 c := by rcases hc with e | e <;> subst e <;> rfl
theorem fIb_P {c : Nat} (hc : c = 1 ∨ c = 9) : (fI 3 (I, R) (some c) i).bind f2 = f2 (I c i) := by rcases hc with e | e <;> subst e <;> rfl
theorem pIb_P {c : Nat} (hc : c = 1 ∨ c = 9) : (pI 3 (I, R) (some c) i x).bind f4 = f4 (up2 I c i x, R) := by rcases hc with e | e <;> subst e <;> rfl
theorem fRb_P1 {pl nm hd rd : Option Nat} {c : Nat} (hc : c = 1 ∨ c = 9) : (fR 3 (I, R0 pl nm hd rd) (some c) 1).bind f3 = f3 (some (c + 1)) := by rcases hc with e | e <;> subst e <;> rfl
theorem aIb_P1 {c j : Nat} (hc : c = 1 ∨ c = 9) (h : j < 16) : (aI 0 (I, R) (some (c + 1)) (nI j)).bind f2 = f2 (I (c + 1) j) := by
  rcases hc with e | e <;> subst e
  · exact aIb_2 h
  · exact aIb_10 h
theorem sIb_P1 {c j : Nat} (hc : c = 1 ∨ c = 9) (h : j < 16) : (sI 0 (I, R) (some (c + 1)) (nI j) x).bind f4 = f4 (up2 I (c + 1) j x, R) := by
  rcases hc with e | e <;> subst e
  · exact sIb_2 h
  · exact sIb_10 h
theorem fRb_P2 {pl nm hd rd : Option Nat} {c : Nat} (hc : c = 1 ∨ c = 9) : (fR 3 (I, R0 pl nm hd rd) (some c) 2).bind f3 = f3 (some (c + 2)) := by rcases hc with e | e <;> subst e <;> rfl
theorem aIb_P2 {c j : Nat} (hc : c = 1 ∨ c = 9) (h : j < 16) : (aI 0 (I, R) (some (c + 2)) (nI j)).bind f2 = f2 (I (c + 2) j) := by
  rcases hc with e | e <;> subst e
  · exact aIb_3 h
  · exact aIb_11 h
theorem sIb_P2 {c j : Nat} (hc : c = 1 ∨ c = 9) (h : j < 16) : (sI 0 (I, R) (some (c + 2)) (nI j) x).bind f4 = f4 (up2 I (c + 2) j x, R) := by
  rcases hc with e | e <;> subst e
  · exact sIb_3 h
  · exact sIb_11 h
theorem fRb_P3 {pl nm hd rd : Option Nat} {c : Nat} (hc : c = 1 ∨ c = 9) : (fR 3 (I, R0 pl nm hd rd) (some c) 3).bind f3 = f3 (some (c + 3)) := by rcases hc with e | e <;> subst e <;> rfl
theorem aIb_P3 {c j : Nat} (hc : c = 1 ∨ c = 9) (h : j < 16) : (aI 0 (I, R) (some (c + 3)) (nI j)).bind f2 = f2 (I (c + 3) j) := by
  rcases hc with e | e <;> subst e
  · exact aIb_4 h
  · exact aIb_12 h
theorem sIb_P3 {c j : Nat} (hc : c = 1 ∨ c = 9) (h : j < 16) : (sI 0 (I, R) (some (c + 3)) (nI j) x).bind f4 = f4 (up2 I (c + 3) j x, R) := by
  rcases hc with e | e <;> subst e
  · exact sIb_4 h
  · exact sIb_12 h
theorem fRb_P4 {pl nm hd rd : Option Nat} {c : Nat} (hc : c = 1 ∨ c = 9) : (fR 3 (I, R0 pl nm hd rd) (some c) 4).bind f3 = f3 (some (c + 4)) := by rcases hc with e | e <;> subst e <;> rfl
theorem aIb_P4 {c j : Nat} (hc : c = 1 ∨ c = 9) (h : j < 16) : (aI 0 (I, R) (some (c + 4)) (nI j)).bind f2 = f2 (I (c + 4) j) := by
  rcases hc with e | e <;> subst e
  · exact aIb_5 h
  · exact aIb_13 h
theorem sIb_P4 {c j : Nat} (hc : c = 1 ∨ c = 9) (h : j < 16) : (sI 0 (I, R) (some (c + 4)) (nI j) x).bind f4 = f4 (up2 I (c + 4) j x, R) := by
  rcases hc with e | e <;> subst e
  · exact sIb_5 h
  · exact sIb_13 h
theorem fRb_P5 {pl nm hd rd : Option Nat} {c : Nat} (hc : c = 1 ∨ c = 9) : (fR 3 (I, R0 pl nm hd rd) (some c) 5).bind f3 = f3 (some (c + 5)) := by rcases hc with e | e <;> subst e <;> rfl
theorem aIb_P5 {c j : Nat} (hc : c = 1 ∨ c = 9) (h : j < 2) : (aI 0 (I, R) (some (c + 5)) (nI j)).bind f2 = f2 (I (c + 5) j) := by
  rcases hc with e | e <;> subst e
  · exact aIb_6 h
  · exact aIb_14 h
theorem sIb_P5 {c j : Nat} (hc : c = 1 ∨ c = 9) (h : j < 2) : (sI 0 (I, R) (some (c + 5)) (nI j) x).bind f4 = f4 (up2 I (c + 5) j x, R) := by
  rcases hc with e | e <;> subst e
  · exact sIb_6 h
  · exact sIb_14 h
theorem fRb_P6 {pl nm hd rd : Option Nat} {c : Nat} (hc : c = 1 ∨ c = 9) : (fR 3 (I, R0 pl nm hd rd) (some c) 6).bind f3 = f3 (some (c + 6)) := by rcases hc with e | e <;> subst e <;> rfl
theorem aIb_P6 {c j : Nat} (hc : c = 1 ∨ c = 9) (h : j < 8) : (aI 0 (I, R) (some (c + 6)) (nI j)).bind f2 = f2 (I (c + 6) j) := by
  rcases hc with e | e <;> subst e
  · exact aIb_7 h
  · exact aIb_15 h
theorem sIb_P6 {c j : Nat} (hc : c = 1 ∨ c = 9) (h : j < 8) : (sI 0 (I, R) (some (c + 6)) (nI j) x).bind f4 = f4 (up2 I (c + 6) j x, R) := by
  rcases hc with e | e <;> subst e
  · exact sIb_7 h
  · exact sIb_15 h
theorem fRb_P7 {pl nm hd rd : Option Nat} {c : Nat} (hc : c = 1 ∨ c = 9) : (fR 3 (I, R0 pl nm hd rd) (some c) 7).bind f3 = f3 (some (c + 7)) := by rcases hc with e | e <;> subst e <;> rfl
theorem aIb_P7 {c j : Nat} (hc : c = 1 ∨ c = 9) (h : j < 8) : (aI 0 (I, R) (some (c + 7)) (nI j)).bind f2 = f2 (I (c + 7) j) := by
  rcases hc with e | e <;> subst e
  · exact aIb_8 h
  · exact aIb_16 h
theorem sIb_P7 {c j : Nat} (hc : c = 1 ∨ c = 9) (h : j < 8) : (sI 0 (I, R) (some (c + 7)) (nI j) x).bind f4 = f4 (up2 I (c + 7) j x, R) := by
  rcases hc with e | e <;> subst e
  · exact sIb_8 h
  · exact sIb_16 h
theorem rc_P {c : Nat} (hc : c = 1 ∨ c = 9) : rc 3 (some c) = some c := by rcases hc with e | e <;> subst e <;> rfl
theorem fI_P {c : Nat} (hc : c = 1 ∨ c = 9) : fI 3 (I, R) (some c) i = some (I c i) := by rcases hc with e | e <;> subst e <;> rfl
theorem fR_P {c : Nat} (hc : c = 1 ∨ c = 9) : fR 3 (I, R) (some c) i = some (R c i) := by rcases hc with e | e <;> subst e <;> rfl
theorem pI_P {c : Nat} (hc : c = 1 ∨ c = 9) : pI 3 (I, R) (some c) i x = some (up2 I c i x, R) := by rcases hc with e | e <;> subst e <;> rfl
theorem r0_P1 {pl nm hd rd : Option Nat} {c : Nat} (hc : c = 1 ∨ c = 9) : R0 pl nm hd rd c 1 = some (c + 1) := by rcases hc with e | e <;> subst e <;> rfl
theorem aI_P1 {c j : Nat} (hc : c = 1 ∨ c = 9) (h : j < 16) : aI 0 (I, R) (some (c + 1)) (nI j) = some (I (c + 1) j) := by
  rcases hc with e | e <;> subst e
  · exact aI_2 h
  · exact aI_10 h
theorem sI_P1 {c j : Nat} (hc : c = 1 ∨ c = 9) (h : j < 16) : sI 0 (I, R) (some (c + 1)) (nI j) x = some (up2 I (c + 1) j x, R) := by
  rcases hc with e | e <;> subst e
  · exact sI_2 h
  · exact sI_10 h
theorem r0_P2 {pl nm hd rd : Option Nat} {c : Nat} (hc : c = 1 ∨ c = 9) : R0 pl nm hd rd c 2 = some (c + 2) := by rcases hc with e | e <;> subst e <;> rfl
theorem aI_P2 {c j : Nat} (hc : c = 1 ∨ c = 9) (h : j < 16) : aI 0 (I, R) (some (c + 2)) (nI j) = some (I (c + 2) j) := by
  rcases hc with e | e <;> subst e
  · exact aI_3 h
  · exact aI_11 h
theorem sI_P2 {c j : Nat} (hc : c = 1 ∨ c = 9) (h : j < 16) : sI 0 (I, R) (some (c + 2)) (nI j) x = some (up2 I (c + 2) j x, R) := by
  rcases hc with e | e <;> subst e
  · exact sI_3 h
  · exact sI_11 h
theorem r0_P3 {pl nm hd rd : Option Nat} {c : Nat} (hc : c = 1 ∨ c = 9) : R0 pl nm hd rd c 3 = some (c + 3) := by rcases hc with e | e <;> subst e <;> rfl
theorem aI_P3 {c j : Nat} (hc : c = 1 ∨ c = 9) (h : j < 16) : aI 0 (I, R) (some (c + 3)) (nI j) = some (I (c + 3) j) := by
  rcases hc with e | e <;> subst e
  · exact aI_4 h
  · exact aI_12 h
theorem sI_P3 {c j : Nat} (hc : c = 1 ∨ c = 9) (h : j < 16) : sI 0 (I, R) (some (c + 3)) (nI j) x = some (up2 I (c + 3) j x, R) := by
  rcases hc with e | e <;> subst e
  · exact sI_4 h
  · exact sI_12 h
theorem r0_P4 {pl nm hd rd : Option Nat} {c : Nat} (hc : c = 1 ∨ c = 9) : R0 pl nm hd rd c 4 = some (c + 4) := by rcases hc with e | e <;> subst e <;> rfl
theorem aI_P4 {c j : Nat} (hc : c = 1 ∨ c = 9) (h : j < 16) : aI 0 (I, R) (some (c + 4)) (nI j) = some (I (c + 4) j) := by
  rcases hc with e | e <;> subst e
  · exact aI_5 h
  · exact aI_13 h
theorem sI_P4 {c j : Nat} (hc : c = 1 ∨ c = 9) (h : j < 16) : sI 0 (I, R) (some (c + 4)) (nI j) x = some (up2 I (c + 4) j x, R) := by
  rcases hc with e | e <;> subst e
  · exact sI_5 h
  · exact sI_13 h
theorem r0_P5 {pl nm hd rd : Option Nat} {c : Nat} (hc : c = 1 ∨ c = 9) : R0 pl nm hd rd c 5 = some (c + 5) := by rcases hc with e | e <;> subst e <;> rfl
theorem aI_P5 {c j : Nat} (hc : c = 1 ∨ c = 9) (h : j < 2) : aI 0 (I, R) (some (c + 5)) (nI j) = some (I (c + 5) j) := by
  rcases hc with e | e <;> subst e
  · exact aI_6 h
  · exact aI_14 h
theorem sI_P5 {c j : Nat} (hc : c = 1 ∨ c = 9) (h : j < 2) : sI 0 (I, R) (some (c + 5)) (nI j) x = some (up2 I (c + 5) j x, R) := by
  rcases hc with e | e <;> subst e
  · exact sI_6 h
  · exact sI_14 h
theorem r0_P6 {pl nm hd rd : Option Nat} {c : Nat} (hc : c = 1 ∨ c = 9) : R0 pl nm hd rd c 6 = some (c + 6) := by rcases hc with e | e <;> subst e <;> rfl
theorem aI_P6 {c j : Nat} (hc : c = 1 ∨ c = 9) (h : j < 8) : aI 0 (I, R) (some (c + 6)) (nI j) = some (I (c + 6) j) := by
  rcases hc with e | e <;> subst e
  · exact aI_7 h
  · exact aI_15 h
theorem sI_P6 {c j : Nat} (hc : c = 1 ∨ c = 9) (h : j < 8) : sI 0 (I, R) (some (c + 6)) (nI j) x = some (up2 I (c + 6) j x, R) := by
  rcases hc with e | e <;> subst e
  · exact sI_7 h
  · exact sI_15 h
theorem r0_P7 {pl nm hd rd : Option Nat} {c : Nat} (hc : c = 1 ∨ c = 9) : R0 pl nm hd rd c 7 = some (c + 7) := by rcases hc with e | e <;> subst e <;> rfl
theorem aI_P7 {c j : Nat} (hc : c = 1 ∨ c = 9) (h : j < 8) : aI 0 (I, R) (some (c + 7)) (nI j) = some (I (c + 7) j) := by
  rcases hc with e | e <;> subst e
  · exact aI_8 h
  · exact aI_16 h
theorem sI_P7 {c j : Nat} (hc : c = 1 ∨ c = 9) (h : j < 8) : sI 0 (I, R) (some (c + 7)) (nI j) x = some (up2 I (c + 7) j x, R) := by
  rcases hc with e | e <;> subst e
  · exact sI_8 h
  · exact sI_16 h
theorem rc_S {s : Nat} (hs : s < 4) : rc 5 (some (52 + 2 * s)) = some (52 + 2 * s) := by
  obtain rfl | rfl | rfl | rfl : s = 0 ∨ s = 1 ∨ s = 2 ∨ s = 3 := by omega
  all_goals rfl
theorem fI_S {s : Nat} (hs : s < 4) : fI 5 (I, R) (some (52 + 2 * s)) i = some (I (52 + 2 * s) i) := by
  obtain rfl | rfl | rfl | rfl : s = 0 ∨ s = 1 ∨ s = 2 ∨ s = 3 := by omega
  all_goals rfl
theorem fR_S {s : Nat} (hs : s < 4) : fR 5 (I, R) (some (52 + 2 * s)) i = some (R (52 + 2 * s) i) := by
  obtain rfl | rfl | rfl | rfl : s = 0 ∨ s = 1 ∨ s = 2 ∨ s = 3 := by omega
  all_goals rfl
theorem pI_S {s : Nat} (hs : s < 4) : pI 5 (I, R) (some (52 + 2 * s)) i x = some (up2 I (52 + 2 * s) i x, R) := by
  obtain rfl | rfl | rfl | rfl : s = 0 ∨ s = 1 ∨ s = 2 ∨ s = 3 := by omega
  all_goals rfl
theorem r0_S {pl nm hd rd : Option Nat} {s : Nat} (hs : s < 4) : R0 pl nm hd rd (52 + 2 * s) 2 = some (53 + 2 * s) := by
  obtain rfl | rfl | rfl | rfl : s = 0 ∨ s = 1 ∨ s = 2 ∨ s = 3 := by omega
  all_goals rfl
theorem r0_51 {pl nm hd rd : Option Nat} {s : Nat} (hs : s < 4) : R0 pl nm hd rd 51 s = some (52 + 2 * s) := by
  obtain rfl | rfl | rfl | rfl : s = 0 ∨ s = 1 ∨ s = 2 ∨ s = 3 := by omega
  all_goals rfl
theorem r0_40 {pl nm hd rd : Option Nat} {t : Nat} (ht : t < 6) : R0 pl nm hd rd 40 t = some (41 + t) := by
  obtain rfl | rfl | rfl | rfl | rfl | rfl : t = 0 ∨ t = 1 ∨ t = 2 ∨ t = 3 ∨ t = 4 ∨ t = 5 := by omega
  all_goals rfl
theorem aI_S {s j : Nat} (hs : s < 4) (h : j < 40) : aI 0 (I, R) (some (53 + 2 * s)) (nI j) = some (I (53 + 2 * s) j) := by
  obtain rfl | rfl | rfl | rfl : s = 0 ∨ s = 1 ∨ s = 2 ∨ s = 3 := by omega
  · exact aI_53 h
  · exact aI_55 h
  · exact aI_57 h
  · exact aI_59 h
theorem sI_S {s j : Nat} (hs : s < 4) (h : j < 40) : sI 0 (I, R) (some (53 + 2 * s)) (nI j) x = some (up2 I (53 + 2 * s) j x, R) := by
  obtain rfl | rfl | rfl | rfl : s = 0 ∨ s = 1 ∨ s = 2 ∨ s = 3 := by omega
  · exact sI_53 h
  · exact sI_55 h
  · exact sI_57 h
  · exact sI_59 h
theorem aI_T {t j : Nat} (ht : t < 6) (h : j < 120) : aI 2 (I, R) (some (41 + t)) (nI j) = some (I (41 + t) j) := by
  obtain rfl | rfl | rfl | rfl | rfl | rfl : t = 0 ∨ t = 1 ∨ t = 2 ∨ t = 3 ∨ t = 4 ∨ t = 5 := by omega
  · exact aI_41 h
  · exact aI_42 h
  · exact aI_43 h
  · exact aI_44 h
  · exact aI_45 h
  · exact aI_46 h
end RW
/-- reading behind a write -/
theorem up2_s {α : Type} {f : Nat → Nat → α} {k i : Nat} {x : α} : up2 f k i x k i = x := by
  rw [up2_eq]
  exact if_pos rfl
theorem up2_i {α : Type} {f : Nat → Nat → α} {k i j l : Nat} {x : α} (h : j ≠ i) : up2 f k i x l j = f l j := by
  by_cases e : l = k
  · subst e
    rw [up2_eq]
    exact if_neg h
  · rw [up2_ne e]
theorem up2_k {α : Type} {f : Nat → Nat → α} {k i j l : Nat} {x : α} (h : l ≠ k) : up2 f k i x l j = f l j := by rw [up2_ne h]
theorem up2_if {α : Type} {f : Nat → Nat → α} {k i j l : Nat} {x : α} : up2 f k i x l j = if l = k ∧ j = i then x else f l j := by
  by_cases h : l = k
  · subst h
    rw [up2_eq]
    by_cases h2 : j = i
    · rw [if_pos ⟨rfl, h2⟩]; exact if_pos h2
    · rw [if_neg (fun e => h2 e.2)]; exact if_neg h2
  · rw [up2_ne h, if_neg (fun e => h e.1)]
/-! lifting -/
def mI (n : Nat) : Int32 := -(nI n)
theorem li_0 : (0 : Int32) = nI 0 := rfl
theorem li_1 : (1 : Int32) = nI 1 := rfl
theorem li_2 : (2 : Int32) = nI 2 := rfl
theorem li_3 : (3 : Int32) = nI 3 := rfl
theorem li_4 : (4 : Int32) = nI 4 := rfl
theorem li_5 : (5 : Int32) = nI 5 := rfl
theorem li_6 : (6 : Int32) = nI 6 := rfl
theorem li_7 : (7 : Int32) = nI 7 := rfl
theorem li_8 : (8 : Int32) = nI 8 := rfl
theorem li_9 : (9 : Int32) = nI 9 := rfl
theorem li_10 : (10 : Int32) = nI 10 := rfl
theorem li_11 : (11 : Int32) = nI 11 := rfl
theorem li_12 : (12 : Int32) = nI 12 := rfl
theorem li_13 : (13 : Int32) = nI 13 := rfl
theorem li_14 : (14 : Int32) = nI 14 := rfl
theorem li_15 : (15 : Int32) = nI 15 := rfl
theorem li_16 : (16 : Int32) = nI 16 := rfl
theorem li_17 : (17 : Int32) = nI 17 := rfl
theorem li_18 : (18 : Int32) = nI 18 := rfl
theorem li_19 : (19 : Int32) = nI 19 := rfl
theorem li_20 : (20 : Int32) = nI 20 := rfl
theorem li_21 : (21 : Int32) = nI 21 := rfl
theorem li_22 : (22 : Int32) = nI 22 := rfl
theorem li_23 : (23 : Int32) = nI 23 := rfl
theorem li_24 : (24 : Int32) = nI 24 := rfl
theorem li_25 : (25 : Int32) = nI 25 := rfl
theorem li_26 : (26 : Int32) = nI 26 := rfl
theorem li_27 : (27 : Int32) = nI 27 := rfl
theorem li_28 : (28 : Int32) = nI 28 := rfl
theorem li_29 : (29 : Int32) = nI 29 := rfl
theorem li_30 : (30 : Int32) = nI 30 := rfl
theorem li_31 : (31 : Int32) = nI 31 := rfl
theorem li_32 : (32 : Int32) = nI 32 := rfl
theorem li_33 : (33 : Int32) = nI 33 := rfl
theorem li_34 : (34 : Int32) = nI 34 := rfl
theorem li_35 : (35 : Int32) = nI 35 := rfl
theorem li_36 : (36 : Int32) = nI 36 := rfl
theorem li_37 : (37 : Int32) = nI 37 := rfl
theorem li_38 : (38 : Int32) = nI 38 := rfl
theorem li_39 : (39 : Int32) = nI 39 := rfl
theorem li_40 : (40 : Int32) = nI 40 := rfl
theorem li_41 : (41 : Int32) = nI 41 := rfl
theorem li_42 : (42 : Int32) = nI 42 := rfl
theorem li_43 : (43 : Int32) = nI 43 := rfl
theorem li_44 : (44 : Int32) = nI 44 := rfl
theorem li_45 : (45 : Int32) = nI 45 := rfl
theorem li_46 : (46 : Int32) = nI 46 := rfl
theorem li_47 : (47 : Int32) = nI 47 := rfl
theorem li_48 : (48 : Int32) = nI 48 := rfl
theorem li_49 : (49 : Int32) = nI 49 := rfl
theorem li_50 : (50 : Int32) = nI 50 := rfl
theorem li_51 : (51 : Int32) = nI 51 := rfl
theorem li_52 : (52 : Int32) = nI 52 := rfl
theorem li_53 : (53 : Int32) = nI 53 := rfl
theorem li_54 : (54 : Int32) = nI 54 := rfl
theorem li_55 : (55 : Int32) = nI 55 := rfl
theorem li_56 : (56 : Int32) = nI 56 := rfl
theorem li_57 : (57 : Int32) = nI 57 := rfl
theorem li_58 : (58 : Int32) = nI 58 := rfl
theorem li_59 : (59 : Int32) = nI 59 := rfl
theorem li_60 : (60 : Int32) = nI 60 := rfl
theorem li_61 : (61 : Int32) = nI 61 := rfl
theorem li_62 : (62 : Int32) = nI 62 := rfl
theorem li_63 : (63 : Int32) = nI 63 := rfl
theorem li_64 : (64 : Int32) = nI 64 := rfl
theorem li_65 : (65 : Int32) = nI 65 := rfl
theorem li_66 : (66 : Int32) = nI 66 := rfl
theorem li_67 : (67 : Int32) = nI 67 := rfl
theorem li_68 : (68 : Int32) = nI 68 := rfl
theorem li_69 : (69 : Int32) = nI 69 := rfl
theorem li_70 : (70 : Int32) = nI 70 := rfl
theorem li_71 : (71 : Int32) = nI 71 := rfl
theorem li_72 : (72 : Int32) = nI 72 := rfl
theorem li_73 : (73 : Int32) = nI 73 := rfl
theorem li_74 : (74 : Int32) = nI 74 := rfl
theorem li_75 : (75 : Int32) = nI 75 := rfl
theorem li_76 : (76 : Int32) = nI 76 := rfl
theorem li_77 : (77 : Int32) = nI 77 := rfl
theorem li_78 : (78 : Int32) = nI 78 := rfl
theorem li_79 : (79 : Int32) = nI 79 := rfl
theorem li_80 : (80 : Int32) = nI 80 := rfl
theorem li_81 : (81 : Int32) = nI 81 := rfl
theorem li_82 : (82 : Int32) = nI 82 := rfl
theorem li_83 : (83 : Int32) = nI 83 := rfl
theorem li_84 : (84 : Int32) = nI 84 := rfl
theorem li_85 : (85 : Int32) = nI 85 := rfl
theorem li_86 : (86 : Int32) = nI 86 := rfl
theorem li_87 : (87 : Int32) = nI 87 := rfl
theorem li_88 : (88 : Int32) = nI 88 := rfl
theorem li_89 : (89 : Int32) = nI 89 := rfl
theorem li_90 : (90 : Int32) = nI 90 := rfl
theorem li_91 : (91 : Int32) = nI 91 := rfl
theorem li_92 : (92 : Int32) = nI 92 := rfl
theorem li_93 : (93 : Int32) = nI 93 := rfl
theorem li_94 : (94 : Int32) = nI 94 := rfl
theorem li_95 : (95 : Int32) = nI 95 := rfl
theorem li_96 : (96 : Int32) = nI 96 := rfl
theorem li_97 : (97 : Int32) = nI 97 := rfl
theorem li_98 : (98 : Int32) = nI 98 := rfl
theorem li_99 : (99 : Int32) = nI 99 := rfl
theorem li_100 : (100 : Int32) = nI 100 := rfl
theorem li_101 : (101 : Int32) = nI 101 := rfl
theorem li_102 : (102 : Int32) = nI 102 := rfl
theorem li_103 : (103 : Int32) = nI 103 := rfl
theorem li_104 : (104 : Int32) = nI 104 := rfl
theorem li_105 : (105 : Int32) = nI 105 := rfl
theorem li_106 : (106 : Int32) = nI 106 := rfl
theorem li_107 : (107 : Int32) = nI 107 := rfl
theorem li_108 : (108 : Int32) = nI 108 := rfl
theorem li_109 : (109 : Int32) = nI 109 := rfl
theorem li_110 : (110 : Int32) = nI 110 := rfl
theorem li_111 : (111 : Int32) = nI 111 := rfl
theorem li_112 : (112 : Int32) = nI 112 := rfl
theorem li_113 : (113 : Int32) = nI 113 := rfl
theorem li_114 : (114 : Int32) = nI 114 := rfl
theorem li_115 : (115 : Int32) = nI 115 := rfl
theorem li_116 : (116 : Int32) = nI 116 := rfl
theorem li_117 : (117 : Int32) = nI 117 := rfl
theorem li_118 : (118 : Int32) = nI 118 := rfl
theorem li_119 : (119 : Int32) = nI 119 := rfl
theorem li_120 : (120 : Int32) = nI 120 := rfl
theorem li_121 : (121 : Int32) = nI 121 := rfl
theorem li_122 : (122 : Int32) = nI 122 := rfl
theorem li_123 : (123 : Int32) = nI 123 := rfl
theorem li_124 : (124 : Int32) = nI 124 := rfl
theorem li_125 : (125 : Int32) = nI 125 := rfl
theorem li_126 : (126 : Int32) = nI 126 := rfl
theorem li_127 : (127 : Int32) = nI 127 := rfl
theorem li_128 : (128 : Int32) = nI 128 := rfl
theorem li_144 : (144 : Int32) = nI 144 := rfl
theorem li_150 : (150 : Int32) = nI 150 := rfl
theorem li_200 : (200 : Int32) = nI 200 := rfl
theorem li_255 : (255 : Int32) = nI 255 := rfl
theorem li_384 : (384 : Int32) = nI 384 := rfl
theorem li_512 : (512 : Int32) = nI 512 := rfl
theorem li_999 : (999 : Int32) = nI 999 := rfl
theorem li_1000 : (1000 : Int32) = nI 1000 := rfl
theorem li_1024 : (1024 : Int32) = nI 1024 := rfl
theorem li_1152 : (1152 : Int32) = nI 1152 := rfl
theorem li_1920 : (1920 : Int32) = nI 1920 := rfl
theorem li_3776 : (3776 : Int32) = nI 3776 := rfl
theorem li_4096 : (4096 : Int32) = nI 4096 := rfl
theorem li_9216 : (9216 : Int32) = nI 9216 := rfl
theorem li_10000 : (10000 : Int32) = nI 10000 := rfl
theorem li_100000 : (100000 : Int32) = nI 100000 := rfl
theorem li_1073741824 : (1073741824 : Int32) = nI 1073741824 := rfl
theorem li_m (n : Nat) : -(nI n) = mI n := rfl
theorem mI_toInt {n : Nat} (h : n ≤ 2 ^ 31) : (mI n).toInt = -(n : Int) := by
  unfold mI
  rw [Int32.toInt_neg]
  by_cases e : n = 2 ^ 31
  · subst e
    decide +kernel
  · rw [nI_toInt (by omega)]
    exact Int.bmod_eq_of_le (by omega) (by omega)
theorem w_lt {a b : Nat} (ha : a < 2 ^ 31) (hb : b < 2 ^ 31) : (nI a < nI b) = (a < b) := propext (nI_ltI ha hb)
theorem w_le {a b : Nat} (ha : a < 2 ^ 31) (hb : b < 2 ^ 31) : (nI a ≤ nI b) = (a ≤ b) := propext (nI_leI ha hb)
theorem w_eq {a b : Nat} (ha : a < 2 ^ 31) (hb : b < 2 ^ 31) : (nI a = nI b) = (a = b) := propext (nI_eq ha hb)
theorem w_mlt {a b : Nat} (ha : a ≤ 2 ^ 31) (hb : b < 2 ^ 31) : (mI a < nI b) = (0 < a + b) := by
  apply propext
  rw [Int32.lt_iff_toInt_lt, mI_toInt ha, nI_toInt hb]
  omega
theorem w_mle {a b : Nat} (ha : a ≤ 2 ^ 31) (hb : b < 2 ^ 31) : (mI a ≤ nI b) = True := by
  apply propext
  rw [Int32.le_iff_toInt_le, mI_toInt ha, nI_toInt hb]
  exact ⟨fun _ => trivial, fun _ => by omega⟩
theorem w_ltm {a b : Nat} (ha : a < 2 ^ 31) (hb : b ≤ 2 ^ 31) : (nI a < mI b) = False := by
  apply propext
  rw [Int32.lt_iff_toInt_lt, mI_toInt hb, nI_toInt ha]
  exact ⟨fun _ => by omega, fun h => h.elim⟩
theorem w_lem {a b : Nat} (ha : a < 2 ^ 31) (hb : b ≤ 2 ^ 31) : (nI a ≤ mI b) = (a = 0 ∧ b = 0) := by
  apply propext
  rw [Int32.le_iff_toInt_le, mI_toInt hb, nI_toInt ha]
  omega
theorem w_meq {a b : Nat} (ha : a ≤ 2 ^ 31) (hb : b < 2 ^ 31) : (mI a = nI b) = (a = 0 ∧ b = 0) := by
  apply propext
  rw [← Int32.toInt_inj, mI_toInt ha, nI_toInt hb]
  omega
theorem w_eqm {a b : Nat} (ha : a < 2 ^ 31) (hb : b ≤ 2 ^ 31) : (nI a = mI b) = (a = 0 ∧ b = 0) := by
  apply propext
  rw [← Int32.toInt_inj, mI_toInt hb, nI_toInt ha]
  omega
theorem w_mm {a b : Nat} (ha : a ≤ 2 ^ 31) (hb : b ≤ 2 ^ 31) : (mI a = mI b) = (a = b) := by
  apply propext
  rw [← Int32.toInt_inj, mI_toInt ha, mI_toInt hb]
  omega
theorem w_mmlt {a b : Nat} (ha : a ≤ 2 ^ 31) (hb : b ≤ 2 ^ 31) : (mI a < mI b) = (b < a) := by
  apply propext
  rw [Int32.lt_iff_toInt_lt, mI_toInt ha, mI_toInt hb]
  omega
theorem w_mmle {a b : Nat} (ha : a ≤ 2 ^ 31) (hb : b ≤ 2 ^ 31) : (mI a ≤ mI b) = (b ≤ a) := by
  apply propext
  rw [Int32.le_iff_toInt_le, mI_toInt ha, mI_toInt hb]
  omega
theorem w_sub {a b : Nat} (h : b ≤ a) : nI a - nI b = nI (a - b) := pk_sub h
theorem w_div {a d : Nat} (ha : a < 2 ^ 31) (h0 : 0 < d) (hd : d < 2 ^ 31) : nI a / nI d = nI (a / d) := pk_div ha h0 hd
theorem w_rem {a d : Nat} : a - a / d * d = a % d := by have := Nat.div_add_mod' a d; omega
theorem w_and (a b : Nat) : nI a &&& nI b = nI (a &&& b) := by
  apply Int32.toBitVec_inj.1
  show BitVec.ofNat 32 a &&& BitVec.ofNat 32 b = BitVec.ofNat 32 (a &&& b)
  apply BitVec.eq_of_getLsbD_eq
  intro i hi
  simp [BitVec.getLsbD_ofNat, hi]
theorem w_or (a b : Nat) : nI a ||| nI b = nI (a ||| b) := by
  apply Int32.toBitVec_inj.1
  show BitVec.ofNat 32 a ||| BitVec.ofNat 32 b = BitVec.ofNat 32 (a ||| b)
  apply BitVec.eq_of_getLsbD_eq
  intro i hi
  simp [BitVec.getLsbD_ofNat, hi]
theorem w_sm : ∀ n, n < 32 → ((nI n).toBitVec.smod 32).toNat = n := by decide +kernel
theorem w_shr {a k : Nat} (ha : a < 2 ^ 31) (hk : k < 32) : nI a >>> nI k = nI (a >>> k) := by
  rw [pk_shrN ha (nI k) k (w_sm k hk), Nat.shiftRight_eq_div_pow]
theorem w_shl1 : ∀ k, k < 31 → nI 1 <<< nI k = nI (2 ^ k) := by decide +kernel
theorem w_a31 {k : Nat} (h : k < 32) : k &&& 31 = k := by
  rw [show (31 : Nat) = 2 ^ 5 - 1 from rfl, Nat.and_two_pow_sub_one_eq_mod]
  exact Nat.mod_eq_of_lt h
theorem w_a1 (k : Nat) : k &&& 1 = k % 2 := Nat.and_two_pow_sub_one_eq_mod k 1
theorem w_a3 (k : Nat) : k &&& 3 = k % 4 := Nat.and_two_pow_sub_one_eq_mod k 2
theorem w_a7 (k : Nat) : k &&& 7 = k % 8 := Nat.and_two_pow_sub_one_eq_mod k 3
theorem w_a15 (k : Nat) : k &&& 15 = k % 16 := Nat.and_two_pow_sub_one_eq_mod k 4
theorem w_a63 (k : Nat) : k &&& 63 = k % 64 := Nat.and_two_pow_sub_one_eq_mod k 6
/-- set less set -/
def andn (a b : Nat) : Nat := a &&& (a ^^^ b)
theorem tb_andn (a b i : Nat) : (andn a b).testBit i = (a.testBit i && !b.testBit i) := by
  unfold andn
  rw [Nat.testBit_and, Nat.testBit_xor]
  cases a.testBit i <;> cases b.testBit i <;> rfl
theorem andn_le (a b : Nat) : andn a b ≤ a := Nat.and_le_left
theorem w_andn (a b : Nat) : nI a &&& (nI b ^^^ mI 1) = nI (andn a b) := by
  apply Int32.toBitVec_inj.1
  show BitVec.ofNat 32 a &&& (BitVec.ofNat 32 b ^^^ (-(nI 1)).toBitVec) = BitVec.ofNat 32 (andn a b)
  rw [show (-(nI 1)).toBitVec = BitVec.allOnes 32 from by decide]
  apply BitVec.eq_of_getLsbD_eq
  intro i hi
  rw [BitVec.getLsbD_and, BitVec.getLsbD_xor, BitVec.getLsbD_allOnes, BitVec.getLsbD_ofNat, BitVec.getLsbD_ofNat, BitVec.getLsbD_ofNat, tb_andn]
  simp [hi]
theorem w_bit0 {s x : Nat} : ((s >>> x) % 2 = 0) = (s.testBit x = false) := by
  apply propext
  rw [Nat.testBit_eq_decide_div_mod_eq, Nat.shiftRight_eq_div_pow, decide_eq_false_iff_not]
  generalize s / 2 ^ x = z
  omega
theorem w_bit1 {s x : Nat} : ((s >>> x) % 2 = 1) = (s.testBit x = true) := by
  apply propext
  rw [Nat.testBit_eq_decide_div_mod_eq, Nat.shiftRight_eq_div_pow, decide_eq_true_iff]
theorem w_and2 {s x : Nat} (hx : x < 31) : (s &&& 2 ^ x = 0) = (s.testBit x = false) := by
  apply propext
  constructor
  · intro h
    have := congrArg (fun z => z.testBit x) h
    simpa [Nat.testBit_and, Nat.testBit_two_pow_self] using this
  · intro h
    apply Nat.eq_of_testBit_eq
    intro i
    rw [Nat.testBit_and, Nat.testBit_two_pow, Nat.zero_testBit]
    by_cases e : x = i
    · subst e; simp [h]
    · simp [e]
theorem w_maxI {a b : Nat} (ha : a < 2 ^ 31) (hb : b < 2 ^ 31) : (if nI a < nI b then nI b else nI a) = nI (max a b) := by
  by_cases h : a < b
  · rw [if_pos ((nI_ltI ha hb).mpr h), Nat.max_eq_right (by omega)]
  · rw [if_neg (fun e => h ((nI_ltI ha hb).mp e)), Nat.max_eq_left (by omega)]
/-! answers -/
def oI : Option Nat → Int32
  | some n => nI n
  | none => mI 1
theorem oI_some {n : Nat} : oI (some n) = nI n := rfl
theorem oI_none : oI none = mI 1 := rfl
theorem b01_eq0 {c : Prop} [Decidable c] : (b01 c = nI 0) = ¬ c := propext b01_0
theorem b01_pos {c : Prop} [Decidable c] (h : c) : b01 c = nI 1 := if_pos h
theorem b01_neg {c : Prop} [Decidable c] (h : ¬ c) : b01 c = nI 0 := if_neg h
theorem b01_ok {c : Prop} [Decidable c] {α : Type} {k : Option α} : (if b01 c = nI 0 ∨ b01 c = nI 1 then k else none) = k := if_pos b01_01
theorem b01_ok2 {c : Prop} [Decidable c] {α : Type} {k : Option α} [Decidable (¬ c ∨ b01 c = nI 1)] : (if ¬ c ∨ b01 c = nI 1 then k else none) = k := if_pos (by
  by_cases h : c
  · exact Or.inr (b01_pos h)
  · exact Or.inl h)
theorem w_bind {α β : Type} {a : α} {f : α → Option β} : (some a).bind f = f a := rfl
theorem dn {α β γ : Type} {o : Option (α × β)} {a : α} {b : β} {f : α → β → Option γ} (e : o = some (a, b)) : bd2 o f = f a b := by rw [e]; rfl
theorem dn1 {α β : Type} {o : Option α} {a : α} {f : α → Option β} (e : o = some a) : o.bind f = f a := by rw [e]; rfl
theorem w_bd2 {α β γ : Type} {a : α} {b : β} {f : α → β → Option γ} : bd2 (some (a, b)) f = f a b := rfl
/-! loops -/
theorem lpU {σ β : Type} (L : Nat → σ → Option β) (st : Nat → σ) (b : Nat) (step : ∀ i, i < b → ∀ F, L (F + 1) (st i) = L F (st (i + 1))) : ∀ n a F, n + a = b → n ≤ F → L F (st a) = L (F - n) (st b) := by
  intro n
  induction n with
  | zero =>
    intro a F h _
    have : a = b := by omega
    subst this
    rfl
  | succ n ih =>
    intro a F h hF
    obtain ⟨F, rfl⟩ : ∃ G, F = G + 1 := ⟨F - 1, by omega⟩
    rw [step a (by omega) F, ih (a + 1) F (by omega) (by omega)]
    congr 1
    omega
/-- with an invariant -/
theorem lpI {σ β : Type} (L : Nat → σ → Option β) (Inv : Nat → σ → Prop) (b : Nat) (step : ∀ i s, i < b → Inv i s → ∃ s', Inv (i + 1) s' ∧ ∀ F, L (F + 1) s = L F s') : ∀ n a s F, n + a = b → n ≤ F → Inv a s → ∃ s', Inv b s' ∧ L F s = L (F - n) s' := by
  intro n
  induction n with
  | zero =>
    intro a s F h _ hi
    have : a = b := by omega
    subst this
    exact ⟨s, hi, rfl⟩
  | succ n ih =>
    intro a s F h hF hi
    obtain ⟨F, rfl⟩ : ∃ G, F = G + 1 := ⟨F - 1, by omega⟩
    obtain ⟨s', h1, h2⟩ := step a s (by omega) hi
    obtain ⟨s'', h3, h4⟩ := ih (a + 1) s' F (by omega) (by omega) h1
    refine ⟨s'', h3, ?_⟩
    rw [h2 F, h4]
    congr 1
    omega
/-- with a measure: until Post -/
theorem lpW {σ β : Type} (L : Nat → σ → Option β) (Inv Post : σ → Prop) (μ : σ → Nat) (step : ∀ s, Inv s → ¬ Post s → ∃ s', Inv s' ∧ μ s' < μ s ∧ ∀ F, L (F + 1) s = L F s') : ∀ n s F, μ s ≤ n → n ≤ F → Inv s → ∃ s' G, Inv s' ∧ Post s' ∧ F ≤ G + n ∧ L F s = L G s' := by
  intro n
  induction n with
  | zero =>
    intro s F h hF hi
    by_cases hp : Post s
    · exact ⟨s, F, hi, hp, by omega, rfl⟩
    · obtain ⟨s', _, h2, _⟩ := step s hi hp
      omega
  | succ n ih =>
    intro s F h hF hi
    by_cases hp : Post s
    · exact ⟨s, F, hi, hp, by omega, rfl⟩
    · obtain ⟨s', h1, h2, h3⟩ := step s hi hp
      obtain ⟨F, rfl⟩ : ∃ G, F = G + 1 := ⟨F - 1, by omega⟩
      obtain ⟨s'', G, h4, h5, h6, h7⟩ := ih s' F (by omega) (by omega) h1
      exact ⟨s'', G, h4, h5, by omega, by rw [h3 F, h7]⟩
