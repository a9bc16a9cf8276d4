def zSh (L : Nat) : List (Nat × Nat) := (0, L) :: [(0, 7), (17, 4), (1, 328), (17, 4), (1, 0), (1, 100), (1, 100), (4, 10), (5, 17), (0, 10), (0, 10), (0, 10), (0, 10), (0, 6), (0, 6), (0, 6), (0, 10), (0, 10), (0, 10), (0, 40), (6, 11), (0, 40), (0, 40), (0, 40), (0, 40), (0, 40), (0, 240), (0, 20), (0, 160), (0, 20), (7, 13), (0, 850), (0, 850), (0, 850), (0, 850), (0, 850), (0, 850), (0, 850), (0, 850), (0, 46), (0, 46), (0, 7), (8, 14), (0, 8), (1, 800), (9, 8), (3, 40), (0, 801), (0, 801), (0, 801), (3, 320), (0, 8), (10, 4), (1, 16), (3, 488), (3, 480), (0, 128), (0, 12), (11, 17), (0, 12), (0, 6), (0, 100), (0, 100), (0, 200), (0, 100), (0, 100), (0, 100), (0, 100), (0, 8), (12, 20), (0, 2461), (0, 2461), (0, 2461), (0, 40), (0, 40), (2, 40), (13, 16), (0, 40), (0, 40), (0, 2560), (0, 64), (0, 8241), (0, 40), (0, 42), (14, 8), (0, 10), (0, 10), (0, 10), (0, 600), (0, 60), (18, 94), (0, 40), (0, 40), (0, 40), (0, 40), (0, 40), (0, 240), (0, 6), (0, 6), (0, 6), (0, 10), (0, 10), (0, 850), (0, 850), (0, 850), (0, 850), (0, 850), (0, 850), (0, 850), (0, 7), (0, 100), (0, 200), (0, 100), (2, 100), (2, 100), (2, 600), (0, 2600), (0, 2600), (0, 2600), (0, 40), (0, 20), (0, 20), (0, 160), (0, 40), (0, 2560), (0, 64), (0, 8241), (0, 40), (0, 10), (0, 10), (0, 10), (0, 10), (0, 10), (0, 600), (0, 10), (0, 40), (0, 9), (0, 9), (0, 360), (0, 360), (0, 360), (0, 360), (0, 360), (0, 7200), (0, 7200), (0, 7200), (0, 7200), (0, 7200), (0, 7200), (0, 12), (0, 488), (1, 800), (1, 800), (1, 8000)]
def zRf : List (List (Option Nat)) := [[], [], [some 3, none, none, none], [], [some 5, none, none, none], [], [], [], [some 9, some 21, some 31, some 43, some 59, some 70, some 77, some 85, none, none], [some 10, some 11, some 12, some 13, some 14, some 15, some 16, some 17, some 18, some 19, some 20, none, none, none, none, none, none], [], [], [], [], [], [], [], [], [], [], [], [some 22, some 23, some 24, some 25, some 26, some 27, some 28, some 29, some 30, none, none], [], [], [], [], [], [], [], [], [], [some 32, some 33, some 34, some 35, some 36, some 37, some 38, some 39, some 40, some 41, some 42, none, none], [], [], [], [], [], [], [], [], [], [], [], [some 44, none, none, none, some 45, some 46, some 51, none, some 52, some 53, some 55, some 56, some 57, some 58], [], [], [some 47, none, none, some 48, some 49, some 50, none, none], [], [], [], [], [], [], [], [], [], [], [], [], [some 60, some 61, some 31, some 21, some 43, some 62, some 63, some 64, some 65, some 66, some 67, some 68, some 69, none, none, none, none], [], [], [], [], [], [], [], [], [], [], [some 21, some 43, some 59, some 71, some 72, some 73, some 74, some 75, some 76, none, none, none, none, none, none, none, none, none, none, none], [], [], [], [], [], [], [some 21, some 43, some 59, some 78, some 79, some 80, some 81, some 82, some 83, some 84, none, none, none, none, none, none], [], [], [], [], [], [], [], [none, none, none, some 86, some 87, some 88, some 89, some 90], [], [], [], [], [], [none, none, none, none, none, some 92, some 93, some 94, some 95, some 96, some 97, some 98, some 99, some 100, some 101, some 102, some 103, some 104, some 105, some 106, some 107, some 108, some 109, some 110, some 111, some 112, some 113, some 114, some 115, some 116, some 117, some 118, some 119, some 120, none, none, none, none, none, none, none, some 121, some 122, some 123, some 124, some 125, some 126, some 127, some 128, none, none, none, some 129, some 130, none, some 131, some 132, none, none, none, some 133, some 134, some 135, none, some 136, none, none, none, none, none, none, none, some 137, some 138, some 139, some 140, some 141, some 142, some 143, some 144, some 145, some 146, some 147, some 148, some 149, some 150, some 151, none, some 152, some 153, none, some 154, none, none], [], [], [], [], [], [], [], [], [], [], [], [], [], [], [], [], [], [], [], [], [], [], [], [], [], [], [], [], [], [], [], [], [], [], [], [], [], [], [], [], [], [], [], [], [], [], [], [], [], [], [], [], [], [], [], [], [], [], [], [], [], [], []]
def zr (a k : Nat) : Option Nat := (zRf.getD a []).getD k none
def rfB (R : Nat → Nat → Option Nat) (a k : Nat) : Option Nat := match zr a k with
  | some t => some t
  | none => R a k
/-- a state whose first 155 cells are those behind the constructors -/
def bd (L : Nat) (I : Nat → Nat → Int32) (R : Nat → Nat → Option Nat) (S : List (Nat × Nat)) : mM := (I, rfB R, zSh L ++ S)
theorem bd_I (L : Nat) (I : Nat → Nat → Int32) (R : Nat → Nat → Option Nat) (S : List (Nat × Nat)) : (bd L I R S).1 = I := rfl
theorem bd_w (L : Nat) (I : Nat → Nat → Int32) (R : Nat → Nat → Option Nat) (S : List (Nat × Nat)) (a k : Nat) (v : Int32) : wI (bd L I R S) a k v = bd L (u2 I a k v) R S := rfl
section
variable {L : Nat} {I : Nat → Nat → Int32} {R : Nat → Nat → Option Nat} {S : List (Nat × Nat)} {k : Nat} {x : Int32} {as : List Value}
theorem ix0 : mIx (bd L I R S) 0 0 x = true ↔ 0 ≤ x.toInt ∧ x.toInt < L := by
  show (0 == 0 && decide (0 ≤ x.toInt) && decide (x.toInt < (L : Nat))) = true ↔ _
  simp
theorem ix1 : mIx (bd L I R S) 1 0 x = true ↔ 0 ≤ x.toInt ∧ x.toInt < 7 := by
  show (0 == 0 && decide (0 ≤ x.toInt) && decide (x.toInt < (7 : Nat))) = true ↔ _
  simp
theorem ob2 : mOb (bd L I R S) 2 13 k = (decide (k < 2) && decide (k < 4)) := rfl
theorem rf2_0 : (bd L I R S).2.1 2 0 = some 3 := rfl
theorem ix3 : mIx (bd L I R S) 3 1 x = true ↔ 0 ≤ x.toInt ∧ x.toInt < 328 := by
  show (1 == 1 && decide (0 ≤ x.toInt) && decide (x.toInt < (328 : Nat))) = true ↔ _
  simp
theorem ob4 : mOb (bd L I R S) 4 13 k = (decide (k < 2) && decide (k < 4)) := rfl
theorem rf4_0 : (bd L I R S).2.1 4 0 = some 5 := rfl
theorem ix5 : mIx (bd L I R S) 5 1 x = true ↔ 0 ≤ x.toInt ∧ x.toInt < 0 := by
  show (1 == 1 && decide (0 ≤ x.toInt) && decide (x.toInt < (0 : Nat))) = true ↔ _
  simp
theorem ix6 : mIx (bd L I R S) 6 1 x = true ↔ 0 ≤ x.toInt ∧ x.toInt < 100 := by
  show (1 == 1 && decide (0 ≤ x.toInt) && decide (x.toInt < (100 : Nat))) = true ↔ _
  simp
theorem ix7 : mIx (bd L I R S) 7 1 x = true ↔ 0 ≤ x.toInt ∧ x.toInt < 100 := by
  show (1 == 1 && decide (0 ≤ x.toInt) && decide (x.toInt < (100 : Nat))) = true ↔ _
  simp
theorem ob8 : mOb (bd L I R S) 8 0 k = decide (k < 10) := rfl
theorem rf8_0 : (bd L I R S).2.1 8 0 = some 9 := rfl
theorem rf8_1 : (bd L I R S).2.1 8 1 = some 21 := rfl
theorem rf8_2 : (bd L I R S).2.1 8 2 = some 31 := rfl
theorem rf8_3 : (bd L I R S).2.1 8 3 = some 43 := rfl
theorem rf8_4 : (bd L I R S).2.1 8 4 = some 59 := rfl
theorem rf8_5 : (bd L I R S).2.1 8 5 = some 70 := rfl
theorem rf8_6 : (bd L I R S).2.1 8 6 = some 77 := rfl
theorem rf8_7 : (bd L I R S).2.1 8 7 = some 85 := rfl
theorem ob9 : mOb (bd L I R S) 9 1 k = decide (k < 17) := rfl
theorem rf9_0 : (bd L I R S).2.1 9 0 = some 10 := rfl
theorem rf9_1 : (bd L I R S).2.1 9 1 = some 11 := rfl
theorem rf9_2 : (bd L I R S).2.1 9 2 = some 12 := rfl
theorem rf9_3 : (bd L I R S).2.1 9 3 = some 13 := rfl
theorem rf9_4 : (bd L I R S).2.1 9 4 = some 14 := rfl
theorem rf9_5 : (bd L I R S).2.1 9 5 = some 15 := rfl
theorem rf9_6 : (bd L I R S).2.1 9 6 = some 16 := rfl
theorem rf9_7 : (bd L I R S).2.1 9 7 = some 17 := rfl
theorem rf9_8 : (bd L I R S).2.1 9 8 = some 18 := rfl
theorem rf9_9 : (bd L I R S).2.1 9 9 = some 19 := rfl
theorem rf9_10 : (bd L I R S).2.1 9 10 = some 20 := rfl
theorem ix10 : mIx (bd L I R S) 10 0 x = true ↔ 0 ≤ x.toInt ∧ x.toInt < 10 := by
  show (0 == 0 && decide (0 ≤ x.toInt) && decide (x.toInt < (10 : Nat))) = true ↔ _
  simp
theorem ix11 : mIx (bd L I R S) 11 0 x = true ↔ 0 ≤ x.toInt ∧ x.toInt < 10 := by
  show (0 == 0 && decide (0 ≤ x.toInt) && decide (x.toInt < (10 : Nat))) = true ↔ _
  simp
theorem ix12 : mIx (bd L I R S) 12 0 x = true ↔ 0 ≤ x.toInt ∧ x.toInt < 10 := by
  show (0 == 0 && decide (0 ≤ x.toInt) && decide (x.toInt < (10 : Nat))) = true ↔ _
  simp
theorem ix13 : mIx (bd L I R S) 13 0 x = true ↔ 0 ≤ x.toInt ∧ x.toInt < 10 := by
  show (0 == 0 && decide (0 ≤ x.toInt) && decide (x.toInt < (10 : Nat))) = true ↔ _
  simp
theorem ix14 : mIx (bd L I R S) 14 0 x = true ↔ 0 ≤ x.toInt ∧ x.toInt < 6 := by
  show (0 == 0 && decide (0 ≤ x.toInt) && decide (x.toInt < (6 : Nat))) = true ↔ _
  simp
theorem ix15 : mIx (bd L I R S) 15 0 x = true ↔ 0 ≤ x.toInt ∧ x.toInt < 6 := by
  show (0 == 0 && decide (0 ≤ x.toInt) && decide (x.toInt < (6 : Nat))) = true ↔ _
  simp
theorem ix16 : mIx (bd L I R S) 16 0 x = true ↔ 0 ≤ x.toInt ∧ x.toInt < 6 := by
  show (0 == 0 && decide (0 ≤ x.toInt) && decide (x.toInt < (6 : Nat))) = true ↔ _
  simp
theorem ix17 : mIx (bd L I R S) 17 0 x = true ↔ 0 ≤ x.toInt ∧ x.toInt < 10 := by
  show (0 == 0 && decide (0 ≤ x.toInt) && decide (x.toInt < (10 : Nat))) = true ↔ _
  simp
theorem ix18 : mIx (bd L I R S) 18 0 x = true ↔ 0 ≤ x.toInt ∧ x.toInt < 10 := by
  show (0 == 0 && decide (0 ≤ x.toInt) && decide (x.toInt < (10 : Nat))) = true ↔ _
  simp
theorem ix19 : mIx (bd L I R S) 19 0 x = true ↔ 0 ≤ x.toInt ∧ x.toInt < 10 := by
  show (0 == 0 && decide (0 ≤ x.toInt) && decide (x.toInt < (10 : Nat))) = true ↔ _
  simp
theorem ix20 : mIx (bd L I R S) 20 0 x = true ↔ 0 ≤ x.toInt ∧ x.toInt < 40 := by
  show (0 == 0 && decide (0 ≤ x.toInt) && decide (x.toInt < (40 : Nat))) = true ↔ _
  simp
theorem ob21 : mOb (bd L I R S) 21 2 k = decide (k < 11) := rfl
theorem rf21_0 : (bd L I R S).2.1 21 0 = some 22 := rfl
theorem rf21_1 : (bd L I R S).2.1 21 1 = some 23 := rfl
theorem rf21_2 : (bd L I R S).2.1 21 2 = some 24 := rfl
theorem rf21_3 : (bd L I R S).2.1 21 3 = some 25 := rfl
theorem rf21_4 : (bd L I R S).2.1 21 4 = some 26 := rfl
theorem rf21_5 : (bd L I R S).2.1 21 5 = some 27 := rfl
theorem rf21_6 : (bd L I R S).2.1 21 6 = some 28 := rfl
theorem rf21_7 : (bd L I R S).2.1 21 7 = some 29 := rfl
theorem rf21_8 : (bd L I R S).2.1 21 8 = some 30 := rfl
theorem ix22 : mIx (bd L I R S) 22 0 x = true ↔ 0 ≤ x.toInt ∧ x.toInt < 40 := by
  show (0 == 0 && decide (0 ≤ x.toInt) && decide (x.toInt < (40 : Nat))) = true ↔ _
  simp
theorem ix23 : mIx (bd L I R S) 23 0 x = true ↔ 0 ≤ x.toInt ∧ x.toInt < 40 := by
  show (0 == 0 && decide (0 ≤ x.toInt) && decide (x.toInt < (40 : Nat))) = true ↔ _
  simp
theorem ix24 : mIx (bd L I R S) 24 0 x = true ↔ 0 ≤ x.toInt ∧ x.toInt < 40 := by
  show (0 == 0 && decide (0 ≤ x.toInt) && decide (x.toInt < (40 : Nat))) = true ↔ _
  simp
theorem ix25 : mIx (bd L I R S) 25 0 x = true ↔ 0 ≤ x.toInt ∧ x.toInt < 40 := by
  show (0 == 0 && decide (0 ≤ x.toInt) && decide (x.toInt < (40 : Nat))) = true ↔ _
  simp
theorem ix26 : mIx (bd L I R S) 26 0 x = true ↔ 0 ≤ x.toInt ∧ x.toInt < 40 := by
  show (0 == 0 && decide (0 ≤ x.toInt) && decide (x.toInt < (40 : Nat))) = true ↔ _
  simp
theorem ix27 : mIx (bd L I R S) 27 0 x = true ↔ 0 ≤ x.toInt ∧ x.toInt < 240 := by
  show (0 == 0 && decide (0 ≤ x.toInt) && decide (x.toInt < (240 : Nat))) = true ↔ _
  simp
theorem ix28 : mIx (bd L I R S) 28 0 x = true ↔ 0 ≤ x.toInt ∧ x.toInt < 20 := by
  show (0 == 0 && decide (0 ≤ x.toInt) && decide (x.toInt < (20 : Nat))) = true ↔ _
  simp
theorem ix29 : mIx (bd L I R S) 29 0 x = true ↔ 0 ≤ x.toInt ∧ x.toInt < 160 := by
  show (0 == 0 && decide (0 ≤ x.toInt) && decide (x.toInt < (160 : Nat))) = true ↔ _
  simp
theorem ix30 : mIx (bd L I R S) 30 0 x = true ↔ 0 ≤ x.toInt ∧ x.toInt < 20 := by
  show (0 == 0 && decide (0 ≤ x.toInt) && decide (x.toInt < (20 : Nat))) = true ↔ _
  simp
theorem ob31 : mOb (bd L I R S) 31 3 k = decide (k < 13) := rfl
theorem rf31_0 : (bd L I R S).2.1 31 0 = some 32 := rfl
theorem rf31_1 : (bd L I R S).2.1 31 1 = some 33 := rfl
theorem rf31_2 : (bd L I R S).2.1 31 2 = some 34 := rfl
theorem rf31_3 : (bd L I R S).2.1 31 3 = some 35 := rfl
theorem rf31_4 : (bd L I R S).2.1 31 4 = some 36 := rfl
theorem rf31_5 : (bd L I R S).2.1 31 5 = some 37 := rfl
theorem rf31_6 : (bd L I R S).2.1 31 6 = some 38 := rfl
theorem rf31_7 : (bd L I R S).2.1 31 7 = some 39 := rfl
theorem rf31_8 : (bd L I R S).2.1 31 8 = some 40 := rfl
theorem rf31_9 : (bd L I R S).2.1 31 9 = some 41 := rfl
theorem rf31_10 : (bd L I R S).2.1 31 10 = some 42 := rfl
theorem ix32 : mIx (bd L I R S) 32 0 x = true ↔ 0 ≤ x.toInt ∧ x.toInt < 850 := by
  show (0 == 0 && decide (0 ≤ x.toInt) && decide (x.toInt < (850 : Nat))) = true ↔ _
  simp
theorem ix33 : mIx (bd L I R S) 33 0 x = true ↔ 0 ≤ x.toInt ∧ x.toInt < 850 := by
  show (0 == 0 && decide (0 ≤ x.toInt) && decide (x.toInt < (850 : Nat))) = true ↔ _
  simp
theorem ix34 : mIx (bd L I R S) 34 0 x = true ↔ 0 ≤ x.toInt ∧ x.toInt < 850 := by
  show (0 == 0 && decide (0 ≤ x.toInt) && decide (x.toInt < (850 : Nat))) = true ↔ _
  simp
theorem ix35 : mIx (bd L I R S) 35 0 x = true ↔ 0 ≤ x.toInt ∧ x.toInt < 850 := by
  show (0 == 0 && decide (0 ≤ x.toInt) && decide (x.toInt < (850 : Nat))) = true ↔ _
  simp
theorem ix36 : mIx (bd L I R S) 36 0 x = true ↔ 0 ≤ x.toInt ∧ x.toInt < 850 := by
  show (0 == 0 && decide (0 ≤ x.toInt) && decide (x.toInt < (850 : Nat))) = true ↔ _
  simp
theorem ix37 : mIx (bd L I R S) 37 0 x = true ↔ 0 ≤ x.toInt ∧ x.toInt < 850 := by
  show (0 == 0 && decide (0 ≤ x.toInt) && decide (x.toInt < (850 : Nat))) = true ↔ _
  simp
theorem ix38 : mIx (bd L I R S) 38 0 x = true ↔ 0 ≤ x.toInt ∧ x.toInt < 850 := by
  show (0 == 0 && decide (0 ≤ x.toInt) && decide (x.toInt < (850 : Nat))) = true ↔ _
  simp
theorem ix39 : mIx (bd L I R S) 39 0 x = true ↔ 0 ≤ x.toInt ∧ x.toInt < 850 := by
  show (0 == 0 && decide (0 ≤ x.toInt) && decide (x.toInt < (850 : Nat))) = true ↔ _
  simp
theorem ix40 : mIx (bd L I R S) 40 0 x = true ↔ 0 ≤ x.toInt ∧ x.toInt < 46 := by
  show (0 == 0 && decide (0 ≤ x.toInt) && decide (x.toInt < (46 : Nat))) = true ↔ _
  simp
theorem ix41 : mIx (bd L I R S) 41 0 x = true ↔ 0 ≤ x.toInt ∧ x.toInt < 46 := by
  show (0 == 0 && decide (0 ≤ x.toInt) && decide (x.toInt < (46 : Nat))) = true ↔ _
  simp
theorem ix42 : mIx (bd L I R S) 42 0 x = true ↔ 0 ≤ x.toInt ∧ x.toInt < 7 := by
  show (0 == 0 && decide (0 ≤ x.toInt) && decide (x.toInt < (7 : Nat))) = true ↔ _
  simp
theorem ob43 : mOb (bd L I R S) 43 4 k = decide (k < 14) := rfl
theorem rf43_0 : (bd L I R S).2.1 43 0 = some 44 := rfl
theorem rf43_4 : (bd L I R S).2.1 43 4 = some 45 := rfl
theorem rf43_5 : (bd L I R S).2.1 43 5 = some 46 := rfl
theorem rf43_6 : (bd L I R S).2.1 43 6 = some 51 := rfl
theorem rf43_8 : (bd L I R S).2.1 43 8 = some 52 := rfl
theorem rf43_9 : (bd L I R S).2.1 43 9 = some 53 := rfl
theorem rf43_10 : (bd L I R S).2.1 43 10 = some 55 := rfl
theorem rf43_11 : (bd L I R S).2.1 43 11 = some 56 := rfl
theorem rf43_12 : (bd L I R S).2.1 43 12 = some 57 := rfl
theorem rf43_13 : (bd L I R S).2.1 43 13 = some 58 := rfl
theorem ix44 : mIx (bd L I R S) 44 0 x = true ↔ 0 ≤ x.toInt ∧ x.toInt < 8 := by
  show (0 == 0 && decide (0 ≤ x.toInt) && decide (x.toInt < (8 : Nat))) = true ↔ _
  simp
theorem ix45 : mIx (bd L I R S) 45 1 x = true ↔ 0 ≤ x.toInt ∧ x.toInt < 800 := by
  show (1 == 1 && decide (0 ≤ x.toInt) && decide (x.toInt < (800 : Nat))) = true ↔ _
  simp
theorem ob46 : mOb (bd L I R S) 46 5 k = decide (k < 8) := rfl
theorem rf46_0 : (bd L I R S).2.1 46 0 = some 47 := rfl
theorem rf46_3 : (bd L I R S).2.1 46 3 = some 48 := rfl
theorem rf46_4 : (bd L I R S).2.1 46 4 = some 49 := rfl
theorem rf46_5 : (bd L I R S).2.1 46 5 = some 50 := rfl
theorem ix47 : mIx (bd L I R S) 47 3 x = true ↔ 0 ≤ x.toInt ∧ x.toInt < 40 := by
  show (3 == 3 && decide (0 ≤ x.toInt) && decide (x.toInt < (40 : Nat))) = true ↔ _
  simp
theorem ix48 : mIx (bd L I R S) 48 0 x = true ↔ 0 ≤ x.toInt ∧ x.toInt < 801 := by
  show (0 == 0 && decide (0 ≤ x.toInt) && decide (x.toInt < (801 : Nat))) = true ↔ _
  simp
theorem ix49 : mIx (bd L I R S) 49 0 x = true ↔ 0 ≤ x.toInt ∧ x.toInt < 801 := by
  show (0 == 0 && decide (0 ≤ x.toInt) && decide (x.toInt < (801 : Nat))) = true ↔ _
  simp
theorem ix50 : mIx (bd L I R S) 50 0 x = true ↔ 0 ≤ x.toInt ∧ x.toInt < 801 := by
  show (0 == 0 && decide (0 ≤ x.toInt) && decide (x.toInt < (801 : Nat))) = true ↔ _
  simp
theorem ix51 : mIx (bd L I R S) 51 3 x = true ↔ 0 ≤ x.toInt ∧ x.toInt < 320 := by
  show (3 == 3 && decide (0 ≤ x.toInt) && decide (x.toInt < (320 : Nat))) = true ↔ _
  simp
theorem ix52 : mIx (bd L I R S) 52 0 x = true ↔ 0 ≤ x.toInt ∧ x.toInt < 8 := by
  show (0 == 0 && decide (0 ≤ x.toInt) && decide (x.toInt < (8 : Nat))) = true ↔ _
  simp
theorem ob53 : mOb (bd L I R S) 53 6 k = decide (k < 4) := rfl
theorem ix54 : mIx (bd L I R S) 54 1 x = true ↔ 0 ≤ x.toInt ∧ x.toInt < 16 := by
  show (1 == 1 && decide (0 ≤ x.toInt) && decide (x.toInt < (16 : Nat))) = true ↔ _
  simp
theorem ix55 : mIx (bd L I R S) 55 3 x = true ↔ 0 ≤ x.toInt ∧ x.toInt < 488 := by
  show (3 == 3 && decide (0 ≤ x.toInt) && decide (x.toInt < (488 : Nat))) = true ↔ _
  simp
theorem ix56 : mIx (bd L I R S) 56 3 x = true ↔ 0 ≤ x.toInt ∧ x.toInt < 480 := by
  show (3 == 3 && decide (0 ≤ x.toInt) && decide (x.toInt < (480 : Nat))) = true ↔ _
  simp
theorem ix57 : mIx (bd L I R S) 57 0 x = true ↔ 0 ≤ x.toInt ∧ x.toInt < 128 := by
  show (0 == 0 && decide (0 ≤ x.toInt) && decide (x.toInt < (128 : Nat))) = true ↔ _
  simp
theorem ix58 : mIx (bd L I R S) 58 0 x = true ↔ 0 ≤ x.toInt ∧ x.toInt < 12 := by
  show (0 == 0 && decide (0 ≤ x.toInt) && decide (x.toInt < (12 : Nat))) = true ↔ _
  simp
theorem ob59 : mOb (bd L I R S) 59 7 k = decide (k < 17) := rfl
theorem rf59_0 : (bd L I R S).2.1 59 0 = some 60 := rfl
theorem rf59_1 : (bd L I R S).2.1 59 1 = some 61 := rfl
theorem rf59_2 : (bd L I R S).2.1 59 2 = some 31 := rfl
theorem rf59_3 : (bd L I R S).2.1 59 3 = some 21 := rfl
theorem rf59_4 : (bd L I R S).2.1 59 4 = some 43 := rfl
theorem rf59_5 : (bd L I R S).2.1 59 5 = some 62 := rfl
theorem rf59_6 : (bd L I R S).2.1 59 6 = some 63 := rfl
theorem rf59_7 : (bd L I R S).2.1 59 7 = some 64 := rfl
theorem rf59_8 : (bd L I R S).2.1 59 8 = some 65 := rfl
theorem rf59_9 : (bd L I R S).2.1 59 9 = some 66 := rfl
theorem rf59_10 : (bd L I R S).2.1 59 10 = some 67 := rfl
theorem rf59_11 : (bd L I R S).2.1 59 11 = some 68 := rfl
theorem rf59_12 : (bd L I R S).2.1 59 12 = some 69 := rfl
theorem ix60 : mIx (bd L I R S) 60 0 x = true ↔ 0 ≤ x.toInt ∧ x.toInt < 12 := by
  show (0 == 0 && decide (0 ≤ x.toInt) && decide (x.toInt < (12 : Nat))) = true ↔ _
  simp
theorem ix61 : mIx (bd L I R S) 61 0 x = true ↔ 0 ≤ x.toInt ∧ x.toInt < 6 := by
  show (0 == 0 && decide (0 ≤ x.toInt) && decide (x.toInt < (6 : Nat))) = true ↔ _
  simp
theorem ix62 : mIx (bd L I R S) 62 0 x = true ↔ 0 ≤ x.toInt ∧ x.toInt < 100 := by
  show (0 == 0 && decide (0 ≤ x.toInt) && decide (x.toInt < (100 : Nat))) = true ↔ _
  simp
theorem ix63 : mIx (bd L I R S) 63 0 x = true ↔ 0 ≤ x.toInt ∧ x.toInt < 100 := by
  show (0 == 0 && decide (0 ≤ x.toInt) && decide (x.toInt < (100 : Nat))) = true ↔ _
  simp
theorem ix64 : mIx (bd L I R S) 64 0 x = true ↔ 0 ≤ x.toInt ∧ x.toInt < 200 := by
  show (0 == 0 && decide (0 ≤ x.toInt) && decide (x.toInt < (200 : Nat))) = true ↔ _
  simp
theorem ix65 : mIx (bd L I R S) 65 0 x = true ↔ 0 ≤ x.toInt ∧ x.toInt < 100 := by
  show (0 == 0 && decide (0 ≤ x.toInt) && decide (x.toInt < (100 : Nat))) = true ↔ _
  simp
theorem ix66 : mIx (bd L I R S) 66 0 x = true ↔ 0 ≤ x.toInt ∧ x.toInt < 100 := by
  show (0 == 0 && decide (0 ≤ x.toInt) && decide (x.toInt < (100 : Nat))) = true ↔ _
  simp
theorem ix67 : mIx (bd L I R S) 67 0 x = true ↔ 0 ≤ x.toInt ∧ x.toInt < 100 := by
  show (0 == 0 && decide (0 ≤ x.toInt) && decide (x.toInt < (100 : Nat))) = true ↔ _
  simp
theorem ix68 : mIx (bd L I R S) 68 0 x = true ↔ 0 ≤ x.toInt ∧ x.toInt < 100 := by
  show (0 == 0 && decide (0 ≤ x.toInt) && decide (x.toInt < (100 : Nat))) = true ↔ _
  simp
theorem ix69 : mIx (bd L I R S) 69 0 x = true ↔ 0 ≤ x.toInt ∧ x.toInt < 8 := by
  show (0 == 0 && decide (0 ≤ x.toInt) && decide (x.toInt < (8 : Nat))) = true ↔ _
  simp
theorem ob70 : mOb (bd L I R S) 70 8 k = decide (k < 20) := rfl
theorem rf70_0 : (bd L I R S).2.1 70 0 = some 21 := rfl
theorem rf70_1 : (bd L I R S).2.1 70 1 = some 43 := rfl
theorem rf70_2 : (bd L I R S).2.1 70 2 = some 59 := rfl
theorem rf70_3 : (bd L I R S).2.1 70 3 = some 71 := rfl
theorem rf70_4 : (bd L I R S).2.1 70 4 = some 72 := rfl
theorem rf70_5 : (bd L I R S).2.1 70 5 = some 73 := rfl
theorem rf70_6 : (bd L I R S).2.1 70 6 = some 74 := rfl
theorem rf70_7 : (bd L I R S).2.1 70 7 = some 75 := rfl
theorem rf70_8 : (bd L I R S).2.1 70 8 = some 76 := rfl
theorem ix71 : mIx (bd L I R S) 71 0 x = true ↔ 0 ≤ x.toInt ∧ x.toInt < 2461 := by
  show (0 == 0 && decide (0 ≤ x.toInt) && decide (x.toInt < (2461 : Nat))) = true ↔ _
  simp
theorem ix72 : mIx (bd L I R S) 72 0 x = true ↔ 0 ≤ x.toInt ∧ x.toInt < 2461 := by
  show (0 == 0 && decide (0 ≤ x.toInt) && decide (x.toInt < (2461 : Nat))) = true ↔ _
  simp
theorem ix73 : mIx (bd L I R S) 73 0 x = true ↔ 0 ≤ x.toInt ∧ x.toInt < 2461 := by
  show (0 == 0 && decide (0 ≤ x.toInt) && decide (x.toInt < (2461 : Nat))) = true ↔ _
  simp
theorem ix74 : mIx (bd L I R S) 74 0 x = true ↔ 0 ≤ x.toInt ∧ x.toInt < 40 := by
  show (0 == 0 && decide (0 ≤ x.toInt) && decide (x.toInt < (40 : Nat))) = true ↔ _
  simp
theorem ix75 : mIx (bd L I R S) 75 0 x = true ↔ 0 ≤ x.toInt ∧ x.toInt < 40 := by
  show (0 == 0 && decide (0 ≤ x.toInt) && decide (x.toInt < (40 : Nat))) = true ↔ _
  simp
theorem ix76 : mIx (bd L I R S) 76 2 x = true ↔ 0 ≤ x.toInt ∧ x.toInt < 40 := by
  show (2 == 2 && decide (0 ≤ x.toInt) && decide (x.toInt < (40 : Nat))) = true ↔ _
  simp
theorem ob77 : mOb (bd L I R S) 77 9 k = decide (k < 16) := rfl
theorem rf77_0 : (bd L I R S).2.1 77 0 = some 21 := rfl
theorem rf77_1 : (bd L I R S).2.1 77 1 = some 43 := rfl
theorem rf77_2 : (bd L I R S).2.1 77 2 = some 59 := rfl
theorem rf77_3 : (bd L I R S).2.1 77 3 = some 78 := rfl
theorem rf77_4 : (bd L I R S).2.1 77 4 = some 79 := rfl
theorem rf77_5 : (bd L I R S).2.1 77 5 = some 80 := rfl
theorem rf77_6 : (bd L I R S).2.1 77 6 = some 81 := rfl
theorem rf77_7 : (bd L I R S).2.1 77 7 = some 82 := rfl
theorem rf77_8 : (bd L I R S).2.1 77 8 = some 83 := rfl
theorem rf77_9 : (bd L I R S).2.1 77 9 = some 84 := rfl
theorem ix78 : mIx (bd L I R S) 78 0 x = true ↔ 0 ≤ x.toInt ∧ x.toInt < 40 := by
  show (0 == 0 && decide (0 ≤ x.toInt) && decide (x.toInt < (40 : Nat))) = true ↔ _
  simp
theorem ix79 : mIx (bd L I R S) 79 0 x = true ↔ 0 ≤ x.toInt ∧ x.toInt < 40 := by
  show (0 == 0 && decide (0 ≤ x.toInt) && decide (x.toInt < (40 : Nat))) = true ↔ _
  simp
theorem ix80 : mIx (bd L I R S) 80 0 x = true ↔ 0 ≤ x.toInt ∧ x.toInt < 2560 := by
  show (0 == 0 && decide (0 ≤ x.toInt) && decide (x.toInt < (2560 : Nat))) = true ↔ _
  simp
theorem ix81 : mIx (bd L I R S) 81 0 x = true ↔ 0 ≤ x.toInt ∧ x.toInt < 64 := by
  show (0 == 0 && decide (0 ≤ x.toInt) && decide (x.toInt < (64 : Nat))) = true ↔ _
  simp
theorem ix82 : mIx (bd L I R S) 82 0 x = true ↔ 0 ≤ x.toInt ∧ x.toInt < 8241 := by
  show (0 == 0 && decide (0 ≤ x.toInt) && decide (x.toInt < (8241 : Nat))) = true ↔ _
  simp
theorem ix83 : mIx (bd L I R S) 83 0 x = true ↔ 0 ≤ x.toInt ∧ x.toInt < 40 := by
  show (0 == 0 && decide (0 ≤ x.toInt) && decide (x.toInt < (40 : Nat))) = true ↔ _
  simp
theorem ix84 : mIx (bd L I R S) 84 0 x = true ↔ 0 ≤ x.toInt ∧ x.toInt < 42 := by
  show (0 == 0 && decide (0 ≤ x.toInt) && decide (x.toInt < (42 : Nat))) = true ↔ _
  simp
theorem ob85 : mOb (bd L I R S) 85 10 k = decide (k < 8) := rfl
theorem rf85_3 : (bd L I R S).2.1 85 3 = some 86 := rfl
theorem rf85_4 : (bd L I R S).2.1 85 4 = some 87 := rfl
theorem rf85_5 : (bd L I R S).2.1 85 5 = some 88 := rfl
theorem rf85_6 : (bd L I R S).2.1 85 6 = some 89 := rfl
theorem rf85_7 : (bd L I R S).2.1 85 7 = some 90 := rfl
theorem ix86 : mIx (bd L I R S) 86 0 x = true ↔ 0 ≤ x.toInt ∧ x.toInt < 10 := by
  show (0 == 0 && decide (0 ≤ x.toInt) && decide (x.toInt < (10 : Nat))) = true ↔ _
  simp
theorem ix87 : mIx (bd L I R S) 87 0 x = true ↔ 0 ≤ x.toInt ∧ x.toInt < 10 := by
  show (0 == 0 && decide (0 ≤ x.toInt) && decide (x.toInt < (10 : Nat))) = true ↔ _
  simp
theorem ix88 : mIx (bd L I R S) 88 0 x = true ↔ 0 ≤ x.toInt ∧ x.toInt < 10 := by
  show (0 == 0 && decide (0 ≤ x.toInt) && decide (x.toInt < (10 : Nat))) = true ↔ _
  simp
theorem ix89 : mIx (bd L I R S) 89 0 x = true ↔ 0 ≤ x.toInt ∧ x.toInt < 600 := by
  show (0 == 0 && decide (0 ≤ x.toInt) && decide (x.toInt < (600 : Nat))) = true ↔ _
  simp
theorem ix90 : mIx (bd L I R S) 90 0 x = true ↔ 0 ≤ x.toInt ∧ x.toInt < 60 := by
  show (0 == 0 && decide (0 ≤ x.toInt) && decide (x.toInt < (60 : Nat))) = true ↔ _
  simp
theorem ob91 : mOb (bd L I R S) 91 14 k = decide (k < 94) := rfl
theorem rf91_5 : (bd L I R S).2.1 91 5 = some 92 := rfl
theorem rf91_6 : (bd L I R S).2.1 91 6 = some 93 := rfl
theorem rf91_7 : (bd L I R S).2.1 91 7 = some 94 := rfl
theorem rf91_8 : (bd L I R S).2.1 91 8 = some 95 := rfl
theorem rf91_9 : (bd L I R S).2.1 91 9 = some 96 := rfl
theorem rf91_10 : (bd L I R S).2.1 91 10 = some 97 := rfl
theorem rf91_11 : (bd L I R S).2.1 91 11 = some 98 := rfl
theorem rf91_12 : (bd L I R S).2.1 91 12 = some 99 := rfl
theorem rf91_13 : (bd L I R S).2.1 91 13 = some 100 := rfl
theorem rf91_14 : (bd L I R S).2.1 91 14 = some 101 := rfl
theorem rf91_15 : (bd L I R S).2.1 91 15 = some 102 := rfl
theorem rf91_16 : (bd L I R S).2.1 91 16 = some 103 := rfl
theorem rf91_17 : (bd L I R S).2.1 91 17 = some 104 := rfl
theorem rf91_18 : (bd L I R S).2.1 91 18 = some 105 := rfl
theorem rf91_19 : (bd L I R S).2.1 91 19 = some 106 := rfl
theorem rf91_20 : (bd L I R S).2.1 91 20 = some 107 := rfl
theorem rf91_21 : (bd L I R S).2.1 91 21 = some 108 := rfl
theorem rf91_22 : (bd L I R S).2.1 91 22 = some 109 := rfl
theorem rf91_23 : (bd L I R S).2.1 91 23 = some 110 := rfl
theorem rf91_24 : (bd L I R S).2.1 91 24 = some 111 := rfl
theorem rf91_25 : (bd L I R S).2.1 91 25 = some 112 := rfl
theorem rf91_26 : (bd L I R S).2.1 91 26 = some 113 := rfl
theorem rf91_27 : (bd L I R S).2.1 91 27 = some 114 := rfl
theorem rf91_28 : (bd L I R S).2.1 91 28 = some 115 := rfl
theorem rf91_29 : (bd L I R S).2.1 91 29 = some 116 := rfl
theorem rf91_30 : (bd L I R S).2.1 91 30 = some 117 := rfl
theorem rf91_31 : (bd L I R S).2.1 91 31 = some 118 := rfl
theorem rf91_32 : (bd L I R S).2.1 91 32 = some 119 := rfl
theorem rf91_33 : (bd L I R S).2.1 91 33 = some 120 := rfl
theorem rf91_41 : (bd L I R S).2.1 91 41 = some 121 := rfl
theorem rf91_42 : (bd L I R S).2.1 91 42 = some 122 := rfl
theorem rf91_43 : (bd L I R S).2.1 91 43 = some 123 := rfl
theorem rf91_44 : (bd L I R S).2.1 91 44 = some 124 := rfl
theorem rf91_45 : (bd L I R S).2.1 91 45 = some 125 := rfl
theorem rf91_46 : (bd L I R S).2.1 91 46 = some 126 := rfl
theorem rf91_47 : (bd L I R S).2.1 91 47 = some 127 := rfl
theorem rf91_48 : (bd L I R S).2.1 91 48 = some 128 := rfl
theorem rf91_52 : (bd L I R S).2.1 91 52 = some 129 := rfl
theorem rf91_53 : (bd L I R S).2.1 91 53 = some 130 := rfl
theorem rf91_55 : (bd L I R S).2.1 91 55 = some 131 := rfl
theorem rf91_56 : (bd L I R S).2.1 91 56 = some 132 := rfl
theorem rf91_60 : (bd L I R S).2.1 91 60 = some 133 := rfl
theorem rf91_61 : (bd L I R S).2.1 91 61 = some 134 := rfl
theorem rf91_62 : (bd L I R S).2.1 91 62 = some 135 := rfl
theorem rf91_64 : (bd L I R S).2.1 91 64 = some 136 := rfl
theorem rf91_72 : (bd L I R S).2.1 91 72 = some 137 := rfl
theorem rf91_73 : (bd L I R S).2.1 91 73 = some 138 := rfl
theorem rf91_74 : (bd L I R S).2.1 91 74 = some 139 := rfl
theorem rf91_75 : (bd L I R S).2.1 91 75 = some 140 := rfl
theorem rf91_76 : (bd L I R S).2.1 91 76 = some 141 := rfl
theorem rf91_77 : (bd L I R S).2.1 91 77 = some 142 := rfl
theorem rf91_78 : (bd L I R S).2.1 91 78 = some 143 := rfl
theorem rf91_79 : (bd L I R S).2.1 91 79 = some 144 := rfl
theorem rf91_80 : (bd L I R S).2.1 91 80 = some 145 := rfl
theorem rf91_81 : (bd L I R S).2.1 91 81 = some 146 := rfl
theorem rf91_82 : (bd L I R S).2.1 91 82 = some 147 := rfl
theorem rf91_83 : (bd L I R S).2.1 91 83 = some 148 := rfl
theorem rf91_84 : (bd L I R S).2.1 91 84 = some 149 := rfl
theorem rf91_85 : (bd L I R S).2.1 91 85 = some 150 := rfl
theorem rf91_86 : (bd L I R S).2.1 91 86 = some 151 := rfl
theorem rf91_88 : (bd L I R S).2.1 91 88 = some 152 := rfl
theorem rf91_89 : (bd L I R S).2.1 91 89 = some 153 := rfl
theorem rf91_91 : (bd L I R S).2.1 91 91 = some 154 := rfl
theorem ix92 : mIx (bd L I R S) 92 0 x = true ↔ 0 ≤ x.toInt ∧ x.toInt < 40 := by
  show (0 == 0 && decide (0 ≤ x.toInt) && decide (x.toInt < (40 : Nat))) = true ↔ _
  simp
theorem ix93 : mIx (bd L I R S) 93 0 x = true ↔ 0 ≤ x.toInt ∧ x.toInt < 40 := by
  show (0 == 0 && decide (0 ≤ x.toInt) && decide (x.toInt < (40 : Nat))) = true ↔ _
  simp
theorem ix94 : mIx (bd L I R S) 94 0 x = true ↔ 0 ≤ x.toInt ∧ x.toInt < 40 := by
  show (0 == 0 && decide (0 ≤ x.toInt) && decide (x.toInt < (40 : Nat))) = true ↔ _
  simp
theorem ix95 : mIx (bd L I R S) 95 0 x = true ↔ 0 ≤ x.toInt ∧ x.toInt < 40 := by
  show (0 == 0 && decide (0 ≤ x.toInt) && decide (x.toInt < (40 : Nat))) = true ↔ _
  simp
theorem ix96 : mIx (bd L I R S) 96 0 x = true ↔ 0 ≤ x.toInt ∧ x.toInt < 40 := by
  show (0 == 0 && decide (0 ≤ x.toInt) && decide (x.toInt < (40 : Nat))) = true ↔ _
  simp
theorem ix97 : mIx (bd L I R S) 97 0 x = true ↔ 0 ≤ x.toInt ∧ x.toInt < 240 := by
  show (0 == 0 && decide (0 ≤ x.toInt) && decide (x.toInt < (240 : Nat))) = true ↔ _
  simp
theorem ix98 : mIx (bd L I R S) 98 0 x = true ↔ 0 ≤ x.toInt ∧ x.toInt < 6 := by
  show (0 == 0 && decide (0 ≤ x.toInt) && decide (x.toInt < (6 : Nat))) = true ↔ _
  simp
theorem ix99 : mIx (bd L I R S) 99 0 x = true ↔ 0 ≤ x.toInt ∧ x.toInt < 6 := by
  show (0 == 0 && decide (0 ≤ x.toInt) && decide (x.toInt < (6 : Nat))) = true ↔ _
  simp
theorem ix100 : mIx (bd L I R S) 100 0 x = true ↔ 0 ≤ x.toInt ∧ x.toInt < 6 := by
  show (0 == 0 && decide (0 ≤ x.toInt) && decide (x.toInt < (6 : Nat))) = true ↔ _
  simp
theorem ix101 : mIx (bd L I R S) 101 0 x = true ↔ 0 ≤ x.toInt ∧ x.toInt < 10 := by
  show (0 == 0 && decide (0 ≤ x.toInt) && decide (x.toInt < (10 : Nat))) = true ↔ _
  simp
theorem ix102 : mIx (bd L I R S) 102 0 x = true ↔ 0 ≤ x.toInt ∧ x.toInt < 10 := by
  show (0 == 0 && decide (0 ≤ x.toInt) && decide (x.toInt < (10 : Nat))) = true ↔ _
  simp
theorem ix103 : mIx (bd L I R S) 103 0 x = true ↔ 0 ≤ x.toInt ∧ x.toInt < 850 := by
  show (0 == 0 && decide (0 ≤ x.toInt) && decide (x.toInt < (850 : Nat))) = true ↔ _
  simp
theorem ix104 : mIx (bd L I R S) 104 0 x = true ↔ 0 ≤ x.toInt ∧ x.toInt < 850 := by
  show (0 == 0 && decide (0 ≤ x.toInt) && decide (x.toInt < (850 : Nat))) = true ↔ _
  simp
theorem ix105 : mIx (bd L I R S) 105 0 x = true ↔ 0 ≤ x.toInt ∧ x.toInt < 850 := by
  show (0 == 0 && decide (0 ≤ x.toInt) && decide (x.toInt < (850 : Nat))) = true ↔ _
  simp
theorem ix106 : mIx (bd L I R S) 106 0 x = true ↔ 0 ≤ x.toInt ∧ x.toInt < 850 := by
  show (0 == 0 && decide (0 ≤ x.toInt) && decide (x.toInt < (850 : Nat))) = true ↔ _
  simp
theorem ix107 : mIx (bd L I R S) 107 0 x = true ↔ 0 ≤ x.toInt ∧ x.toInt < 850 := by
  show (0 == 0 && decide (0 ≤ x.toInt) && decide (x.toInt < (850 : Nat))) = true ↔ _
  simp
theorem ix108 : mIx (bd L I R S) 108 0 x = true ↔ 0 ≤ x.toInt ∧ x.toInt < 850 := by
  show (0 == 0 && decide (0 ≤ x.toInt) && decide (x.toInt < (850 : Nat))) = true ↔ _
  simp
theorem ix109 : mIx (bd L I R S) 109 0 x = true ↔ 0 ≤ x.toInt ∧ x.toInt < 850 := by
  show (0 == 0 && decide (0 ≤ x.toInt) && decide (x.toInt < (850 : Nat))) = true ↔ _
  simp
theorem ix110 : mIx (bd L I R S) 110 0 x = true ↔ 0 ≤ x.toInt ∧ x.toInt < 7 := by
  show (0 == 0 && decide (0 ≤ x.toInt) && decide (x.toInt < (7 : Nat))) = true ↔ _
  simp
theorem ix111 : mIx (bd L I R S) 111 0 x = true ↔ 0 ≤ x.toInt ∧ x.toInt < 100 := by
  show (0 == 0 && decide (0 ≤ x.toInt) && decide (x.toInt < (100 : Nat))) = true ↔ _
  simp
theorem ix112 : mIx (bd L I R S) 112 0 x = true ↔ 0 ≤ x.toInt ∧ x.toInt < 200 := by
  show (0 == 0 && decide (0 ≤ x.toInt) && decide (x.toInt < (200 : Nat))) = true ↔ _
  simp
theorem ix113 : mIx (bd L I R S) 113 0 x = true ↔ 0 ≤ x.toInt ∧ x.toInt < 100 := by
  show (0 == 0 && decide (0 ≤ x.toInt) && decide (x.toInt < (100 : Nat))) = true ↔ _
  simp
theorem ix114 : mIx (bd L I R S) 114 2 x = true ↔ 0 ≤ x.toInt ∧ x.toInt < 100 := by
  show (2 == 2 && decide (0 ≤ x.toInt) && decide (x.toInt < (100 : Nat))) = true ↔ _
  simp
theorem ix115 : mIx (bd L I R S) 115 2 x = true ↔ 0 ≤ x.toInt ∧ x.toInt < 100 := by
  show (2 == 2 && decide (0 ≤ x.toInt) && decide (x.toInt < (100 : Nat))) = true ↔ _
  simp
theorem ix116 : mIx (bd L I R S) 116 2 x = true ↔ 0 ≤ x.toInt ∧ x.toInt < 600 := by
  show (2 == 2 && decide (0 ≤ x.toInt) && decide (x.toInt < (600 : Nat))) = true ↔ _
  simp
theorem ix117 : mIx (bd L I R S) 117 0 x = true ↔ 0 ≤ x.toInt ∧ x.toInt < 2600 := by
  show (0 == 0 && decide (0 ≤ x.toInt) && decide (x.toInt < (2600 : Nat))) = true ↔ _
  simp
theorem ix118 : mIx (bd L I R S) 118 0 x = true ↔ 0 ≤ x.toInt ∧ x.toInt < 2600 := by
  show (0 == 0 && decide (0 ≤ x.toInt) && decide (x.toInt < (2600 : Nat))) = true ↔ _
  simp
theorem ix119 : mIx (bd L I R S) 119 0 x = true ↔ 0 ≤ x.toInt ∧ x.toInt < 2600 := by
  show (0 == 0 && decide (0 ≤ x.toInt) && decide (x.toInt < (2600 : Nat))) = true ↔ _
  simp
theorem ix120 : mIx (bd L I R S) 120 0 x = true ↔ 0 ≤ x.toInt ∧ x.toInt < 40 := by
  show (0 == 0 && decide (0 ≤ x.toInt) && decide (x.toInt < (40 : Nat))) = true ↔ _
  simp
theorem ix121 : mIx (bd L I R S) 121 0 x = true ↔ 0 ≤ x.toInt ∧ x.toInt < 20 := by
  show (0 == 0 && decide (0 ≤ x.toInt) && decide (x.toInt < (20 : Nat))) = true ↔ _
  simp
theorem ix122 : mIx (bd L I R S) 122 0 x = true ↔ 0 ≤ x.toInt ∧ x.toInt < 20 := by
  show (0 == 0 && decide (0 ≤ x.toInt) && decide (x.toInt < (20 : Nat))) = true ↔ _
  simp
theorem ix123 : mIx (bd L I R S) 123 0 x = true ↔ 0 ≤ x.toInt ∧ x.toInt < 160 := by
  show (0 == 0 && decide (0 ≤ x.toInt) && decide (x.toInt < (160 : Nat))) = true ↔ _
  simp
theorem ix124 : mIx (bd L I R S) 124 0 x = true ↔ 0 ≤ x.toInt ∧ x.toInt < 40 := by
  show (0 == 0 && decide (0 ≤ x.toInt) && decide (x.toInt < (40 : Nat))) = true ↔ _
  simp
theorem ix125 : mIx (bd L I R S) 125 0 x = true ↔ 0 ≤ x.toInt ∧ x.toInt < 2560 := by
  show (0 == 0 && decide (0 ≤ x.toInt) && decide (x.toInt < (2560 : Nat))) = true ↔ _
  simp
theorem ix126 : mIx (bd L I R S) 126 0 x = true ↔ 0 ≤ x.toInt ∧ x.toInt < 64 := by
  show (0 == 0 && decide (0 ≤ x.toInt) && decide (x.toInt < (64 : Nat))) = true ↔ _
  simp
theorem ix127 : mIx (bd L I R S) 127 0 x = true ↔ 0 ≤ x.toInt ∧ x.toInt < 8241 := by
  show (0 == 0 && decide (0 ≤ x.toInt) && decide (x.toInt < (8241 : Nat))) = true ↔ _
  simp
theorem ix128 : mIx (bd L I R S) 128 0 x = true ↔ 0 ≤ x.toInt ∧ x.toInt < 40 := by
  show (0 == 0 && decide (0 ≤ x.toInt) && decide (x.toInt < (40 : Nat))) = true ↔ _
  simp
theorem ix129 : mIx (bd L I R S) 129 0 x = true ↔ 0 ≤ x.toInt ∧ x.toInt < 10 := by
  show (0 == 0 && decide (0 ≤ x.toInt) && decide (x.toInt < (10 : Nat))) = true ↔ _
  simp
theorem ix130 : mIx (bd L I R S) 130 0 x = true ↔ 0 ≤ x.toInt ∧ x.toInt < 10 := by
  show (0 == 0 && decide (0 ≤ x.toInt) && decide (x.toInt < (10 : Nat))) = true ↔ _
  simp
theorem ix131 : mIx (bd L I R S) 131 0 x = true ↔ 0 ≤ x.toInt ∧ x.toInt < 10 := by
  show (0 == 0 && decide (0 ≤ x.toInt) && decide (x.toInt < (10 : Nat))) = true ↔ _
  simp
theorem ix132 : mIx (bd L I R S) 132 0 x = true ↔ 0 ≤ x.toInt ∧ x.toInt < 10 := by
  show (0 == 0 && decide (0 ≤ x.toInt) && decide (x.toInt < (10 : Nat))) = true ↔ _
  simp
theorem ix133 : mIx (bd L I R S) 133 0 x = true ↔ 0 ≤ x.toInt ∧ x.toInt < 10 := by
  show (0 == 0 && decide (0 ≤ x.toInt) && decide (x.toInt < (10 : Nat))) = true ↔ _
  simp
theorem ix134 : mIx (bd L I R S) 134 0 x = true ↔ 0 ≤ x.toInt ∧ x.toInt < 600 := by
  show (0 == 0 && decide (0 ≤ x.toInt) && decide (x.toInt < (600 : Nat))) = true ↔ _
  simp
theorem ix135 : mIx (bd L I R S) 135 0 x = true ↔ 0 ≤ x.toInt ∧ x.toInt < 10 := by
  show (0 == 0 && decide (0 ≤ x.toInt) && decide (x.toInt < (10 : Nat))) = true ↔ _
  simp
theorem ix136 : mIx (bd L I R S) 136 0 x = true ↔ 0 ≤ x.toInt ∧ x.toInt < 40 := by
  show (0 == 0 && decide (0 ≤ x.toInt) && decide (x.toInt < (40 : Nat))) = true ↔ _
  simp
theorem ix137 : mIx (bd L I R S) 137 0 x = true ↔ 0 ≤ x.toInt ∧ x.toInt < 9 := by
  show (0 == 0 && decide (0 ≤ x.toInt) && decide (x.toInt < (9 : Nat))) = true ↔ _
  simp
theorem ix138 : mIx (bd L I R S) 138 0 x = true ↔ 0 ≤ x.toInt ∧ x.toInt < 9 := by
  show (0 == 0 && decide (0 ≤ x.toInt) && decide (x.toInt < (9 : Nat))) = true ↔ _
  simp
theorem ix139 : mIx (bd L I R S) 139 0 x = true ↔ 0 ≤ x.toInt ∧ x.toInt < 360 := by
  show (0 == 0 && decide (0 ≤ x.toInt) && decide (x.toInt < (360 : Nat))) = true ↔ _
  simp
theorem ix140 : mIx (bd L I R S) 140 0 x = true ↔ 0 ≤ x.toInt ∧ x.toInt < 360 := by
  show (0 == 0 && decide (0 ≤ x.toInt) && decide (x.toInt < (360 : Nat))) = true ↔ _
  simp
theorem ix141 : mIx (bd L I R S) 141 0 x = true ↔ 0 ≤ x.toInt ∧ x.toInt < 360 := by
  show (0 == 0 && decide (0 ≤ x.toInt) && decide (x.toInt < (360 : Nat))) = true ↔ _
  simp
theorem ix142 : mIx (bd L I R S) 142 0 x = true ↔ 0 ≤ x.toInt ∧ x.toInt < 360 := by
  show (0 == 0 && decide (0 ≤ x.toInt) && decide (x.toInt < (360 : Nat))) = true ↔ _
  simp
theorem ix143 : mIx (bd L I R S) 143 0 x = true ↔ 0 ≤ x.toInt ∧ x.toInt < 360 := by
  show (0 == 0 && decide (0 ≤ x.toInt) && decide (x.toInt < (360 : Nat))) = true ↔ _
  simp
theorem ix144 : mIx (bd L I R S) 144 0 x = true ↔ 0 ≤ x.toInt ∧ x.toInt < 7200 := by
  show (0 == 0 && decide (0 ≤ x.toInt) && decide (x.toInt < (7200 : Nat))) = true ↔ _
  simp
theorem ix145 : mIx (bd L I R S) 145 0 x = true ↔ 0 ≤ x.toInt ∧ x.toInt < 7200 := by
  show (0 == 0 && decide (0 ≤ x.toInt) && decide (x.toInt < (7200 : Nat))) = true ↔ _
  simp
theorem ix146 : mIx (bd L I R S) 146 0 x = true ↔ 0 ≤ x.toInt ∧ x.toInt < 7200 := by
  show (0 == 0 && decide (0 ≤ x.toInt) && decide (x.toInt < (7200 : Nat))) = true ↔ _
  simp
theorem ix147 : mIx (bd L I R S) 147 0 x = true ↔ 0 ≤ x.toInt ∧ x.toInt < 7200 := by
  show (0 == 0 && decide (0 ≤ x.toInt) && decide (x.toInt < (7200 : Nat))) = true ↔ _
  simp
theorem ix148 : mIx (bd L I R S) 148 0 x = true ↔ 0 ≤ x.toInt ∧ x.toInt < 7200 := by
  show (0 == 0 && decide (0 ≤ x.toInt) && decide (x.toInt < (7200 : Nat))) = true ↔ _
  simp
theorem ix149 : mIx (bd L I R S) 149 0 x = true ↔ 0 ≤ x.toInt ∧ x.toInt < 7200 := by
  show (0 == 0 && decide (0 ≤ x.toInt) && decide (x.toInt < (7200 : Nat))) = true ↔ _
  simp
theorem ix150 : mIx (bd L I R S) 150 0 x = true ↔ 0 ≤ x.toInt ∧ x.toInt < 12 := by
  show (0 == 0 && decide (0 ≤ x.toInt) && decide (x.toInt < (12 : Nat))) = true ↔ _
  simp
theorem ix151 : mIx (bd L I R S) 151 0 x = true ↔ 0 ≤ x.toInt ∧ x.toInt < 488 := by
  show (0 == 0 && decide (0 ≤ x.toInt) && decide (x.toInt < (488 : Nat))) = true ↔ _
  simp
theorem ix152 : mIx (bd L I R S) 152 1 x = true ↔ 0 ≤ x.toInt ∧ x.toInt < 800 := by
  show (1 == 1 && decide (0 ≤ x.toInt) && decide (x.toInt < (800 : Nat))) = true ↔ _
  simp
theorem ix153 : mIx (bd L I R S) 153 1 x = true ↔ 0 ≤ x.toInt ∧ x.toInt < 800 := by
  show (1 == 1 && decide (0 ≤ x.toInt) && decide (x.toInt < (800 : Nat))) = true ↔ _
  simp
theorem ix154 : mIx (bd L I R S) 154 1 x = true ↔ 0 ≤ x.toInt ∧ x.toInt < 8000 := by
  show (1 == 1 && decide (0 ≤ x.toInt) && decide (x.toInt < (8000 : Nat))) = true ↔ _
  simp
theorem rc0  : mRcv 0 (.ref 8 :: []) (bd L I R S) = true := rfl
theorem rc1 {x0 : Int32} : mRcv 1 (.ref 8 :: [.int x0]) (bd L I R S) = true := rfl
theorem rc2 {x0 : Int32} {x1 : Int32} {x2 : Int32} : mRcv 2 (.ref 8 :: [.int x0, .int x1, .int x2]) (bd L I R S) = true := rfl
theorem rc3 {σ : mM} {x0 : Int32} {x1 : Int32} {x2 : Int32} : mRcv 3 [.int x0, .int x1, .int x2] σ = true := rfl
theorem rc4 {x0 : Int32} {x1 : Int32} {x2 : Int32} : mRcv 4 (.ref 8 :: [.int x0, .int x1, .int x2]) (bd L I R S) = true := rfl
theorem rc5 {x0 : Int32} {x1 : Int32} {x2 : Int32} : mRcv 5 (.ref 8 :: [.int x0, .int x1, .int x2]) (bd L I R S) = true := rfl
theorem rc6 {x0 : Int32} {x1 : Int32} : mRcv 6 (.ref 8 :: [.int x0, .int x1]) (bd L I R S) = true := rfl
theorem rc7 {x0 : Int32} : mRcv 7 (.ref 8 :: [.int x0]) (bd L I R S) = true := rfl
theorem rc8 {x0 : Int32} {x1 : Int32} {x2 : Int32} : mRcv 8 (.ref 8 :: [.int x0, .int x1, .int x2]) (bd L I R S) = true := rfl
theorem rc9 {x0 : Int32} : mRcv 9 (.ref 8 :: [.int x0]) (bd L I R S) = true := rfl
theorem rc10 {x0 : Int32} {x1 : Int32} {x2 : Int32} : mRcv 10 (.ref 8 :: [.int x0, .int x1, .int x2]) (bd L I R S) = true := rfl
theorem rc11 {x0 : Int32} {x1 : Int32} {x2 : Int32} : mRcv 11 (.ref 8 :: [.int x0, .int x1, .int x2]) (bd L I R S) = true := rfl
theorem rc12 {σ : mM} {x0 : Int32} {x1 : Int32} : mRcv 12 [.int x0, .int x1] σ = true := rfl
theorem rc13 {σ : mM} {x0 : Int32} : mRcv 13 [.int x0] σ = true := rfl
theorem rc14 {x0 : Int32} {x1 : Int32} {x2 : Int32} {x3 : Int32} {x4 : Int32} {x5 : Int32} : mRcv 14 (.ref 8 :: [.int x0, .int x1, .int x2, .int x3, .int x4, .int x5]) (bd L I R S) = true := rfl
theorem rc15 {x0 : Int32} {x1 : Int32} {x2 : Int32} {x3 : Int32} {x4 : Int32} : mRcv 15 (.ref 8 :: [.int x0, .int x1, .int x2, .int x3, .int x4]) (bd L I R S) = true := rfl
theorem rc16 {x0 : Int32} {x1 : Int32} {x2 : Int32} {x3 : Int32} : mRcv 16 (.ref 8 :: [.int x0, .int x1, .int x2, .int x3]) (bd L I R S) = true := rfl
theorem rc17 {x0 : Int32} : mRcv 17 (.ref 8 :: [.int x0]) (bd L I R S) = true := rfl
theorem rc18 {x0 : Int32} {x1 : Int32} : mRcv 18 (.ref 8 :: [.int x0, .int x1]) (bd L I R S) = true := rfl
theorem rc19 {x0 : Int32} {x1 : Int32} {x2 : Int32} : mRcv 19 (.ref 8 :: [.int x0, .int x1, .int x2]) (bd L I R S) = true := rfl
theorem rc20 {x0 : Int32} {x1 : Int32} {x2 : Int32} {x3 : Int32} : mRcv 20 (.ref 8 :: [.int x0, .int x1, .int x2, .int x3]) (bd L I R S) = true := rfl
theorem rc21 {x0 : Int32} {x1 : Int32} {x2 : Int32} {x3 : Int32} {x4 : Int32} : mRcv 21 (.ref 8 :: [.int x0, .int x1, .int x2, .int x3, .int x4]) (bd L I R S) = true := rfl
theorem rc22 {σ : mM} {x0 : Int32} : mRcv 22 [.int x0] σ = true := rfl
theorem rc23 {x0 : Int32} {x1 : Int32} {x2 : Int32} {x3 : Int32} : mRcv 23 (.ref 8 :: [.int x0, .int x1, .int x2, .int x3]) (bd L I R S) = true := rfl
theorem rc24 {x0 : Int32} {x1 : Int32} {x2 : Int32} : mRcv 24 (.ref 8 :: [.int x0, .int x1, .int x2]) (bd L I R S) = true := rfl
theorem rc25 {x0 : Int32} {x1 : Int32} {x2 : Int32} {x3 : Int32} : mRcv 25 (.ref 8 :: [.int x0, .int x1, .int x2, .int x3]) (bd L I R S) = true := rfl
theorem rc26 {x0 : Int32} {x1 : Int32} {x2 : Int32} {x3 : Int32} {x4 : Int32} : mRcv 26 (.ref 8 :: [.int x0, .int x1, .int x2, .int x3, .int x4]) (bd L I R S) = true := rfl
theorem rc27 {x0 : Int32} {x1 : Int32} {x2 : Int32} {x3 : Int32} : mRcv 27 (.ref 8 :: [.int x0, .int x1, .int x2, .int x3]) (bd L I R S) = true := rfl
theorem rc28 {x0 : Int32} {x1 : Int32} {x2 : Int32} {x3 : Int32} {x4 : Int32} {x5 : Int32} : mRcv 28 (.ref 8 :: [.int x0, .int x1, .int x2, .int x3, .int x4, .int x5]) (bd L I R S) = true := rfl
theorem rc29 {x0 : Int32} {x1 : Int32} {x2 : Int32} : mRcv 29 (.ref 8 :: [.int x0, .int x1, .int x2]) (bd L I R S) = true := rfl
theorem rc30 {x0 : Int32} {x1 : Int32} : mRcv 30 (.ref 8 :: [.int x0, .int x1]) (bd L I R S) = true := rfl
theorem rc31 {x0 : Int32} {x1 : Int32} : mRcv 31 (.ref 8 :: [.int x0, .int x1]) (bd L I R S) = true := rfl
theorem rc32 {x0 : Int32} : mRcv 32 (.ref 8 :: [.int x0]) (bd L I R S) = true := rfl
theorem rc33 {x0 : Int32} {x1 : Int32} {x2 : Int32} : mRcv 33 (.ref 8 :: [.int x0, .int x1, .int x2]) (bd L I R S) = true := rfl
theorem rc34 {x0 : Int32} : mRcv 34 (.ref 8 :: [.int x0]) (bd L I R S) = true := rfl
theorem rc35 {x0 : Int32} {x1 : Int32} {x2 : Int32} : mRcv 35 (.ref 8 :: [.int x0, .int x1, .int x2]) (bd L I R S) = true := rfl
theorem rc36 {x0 : Int32} {x1 : Int32} : mRcv 36 (.ref 8 :: [.int x0, .int x1]) (bd L I R S) = true := rfl
theorem rc37 {x0 : Int32} {x1 : Int32} {x2 : Int32} {x3 : Int32} {x4 : Int32} : mRcv 37 (.ref 8 :: [.int x0, .int x1, .int x2, .int x3, .int x4]) (bd L I R S) = true := rfl
theorem rc38 {x0 : Int32} {x1 : Int32} : mRcv 38 (.ref 8 :: [.int x0, .int x1]) (bd L I R S) = true := rfl
theorem rc39 {σ : mM} {x0 : Int32} : mRcv 39 [.int x0] σ = true := rfl
theorem rc40 {σ : mM} {x0 : Int32} : mRcv 40 [.int x0] σ = true := rfl
theorem rc41 {σ : mM} {p0 : Nat} {x1 : Int32} : mRcv 41 [.ref p0, .int x1] σ = true := rfl
theorem rc42 {σ : mM} {p0 : Nat} : mRcv 42 [.ref p0] σ = true := rfl
theorem rc43 {σ : mM} {p0 : Nat} {x1 : Int32} : mRcv 43 [.ref p0, .int x1] σ = true := rfl
theorem rc44  : mRcv 44 (.ref 8 :: []) (bd L I R S) = true := rfl
theorem rc45 {x0 : Int32} {x1 : Int32} : mRcv 45 (.ref 8 :: [.int x0, .int x1]) (bd L I R S) = true := rfl
theorem rc46 {x0 : Int32} {x1 : Int32} {x2 : Int32} : mRcv 46 (.ref 8 :: [.int x0, .int x1, .int x2]) (bd L I R S) = true := rfl
theorem rc47 {x0 : Int32} {x1 : Int32} {x2 : Int32} : mRcv 47 (.ref 8 :: [.int x0, .int x1, .int x2]) (bd L I R S) = true := rfl
theorem rc48 {x0 : Int32} {x1 : Int32} {x2 : Int32} : mRcv 48 (.ref 8 :: [.int x0, .int x1, .int x2]) (bd L I R S) = true := rfl
theorem rc49 {x0 : Int32} {x1 : Int32} : mRcv 49 (.ref 8 :: [.int x0, .int x1]) (bd L I R S) = true := rfl
theorem rc50 {x0 : Int32} {x1 : Int32} : mRcv 50 (.ref 8 :: [.int x0, .int x1]) (bd L I R S) = true := rfl
theorem rc51 {x0 : Int32} {x1 : Int32} : mRcv 51 (.ref 8 :: [.int x0, .int x1]) (bd L I R S) = true := rfl
theorem rc52 {x0 : Int32} : mRcv 52 (.ref 8 :: [.int x0]) (bd L I R S) = true := rfl
theorem rc53 {x0 : Int32} : mRcv 53 (.ref 8 :: [.int x0]) (bd L I R S) = true := rfl
theorem rc54  : mRcv 54 (.ref 8 :: []) (bd L I R S) = true := rfl
theorem rc55 {x0 : Int32} {x1 : Int32} {x2 : Int32} : mRcv 55 (.ref 8 :: [.int x0, .int x1, .int x2]) (bd L I R S) = true := rfl
theorem rc56 {x0 : Int32} {x1 : Int32} : mRcv 56 (.ref 8 :: [.int x0, .int x1]) (bd L I R S) = true := rfl
theorem rc57 {x0 : Int32} : mRcv 57 (.ref 8 :: [.int x0]) (bd L I R S) = true := rfl
theorem rc58 {x0 : Int32} : mRcv 58 (.ref 8 :: [.int x0]) (bd L I R S) = true := rfl
theorem rc59 {x0 : Int32} {x1 : Int32} : mRcv 59 (.ref 8 :: [.int x0, .int x1]) (bd L I R S) = true := rfl
theorem rc60 {x0 : Int32} : mRcv 60 (.ref 8 :: [.int x0]) (bd L I R S) = true := rfl
theorem rc61  : mRcv 61 (.ref 9 :: []) (bd L I R S) = true := rfl
theorem rc62 {x0 : Int32} {x1 : Int32} : mRcv 62 (.ref 9 :: [.int x0, .int x1]) (bd L I R S) = true := rfl
theorem rc63 {x0 : Int32} {x1 : Int32} {x2 : Int32} : mRcv 63 (.ref 9 :: [.int x0, .int x1, .int x2]) (bd L I R S) = true := rfl
theorem rc64 {x0 : Int32} {x1 : Int32} {x2 : Int32} : mRcv 64 (.ref 9 :: [.int x0, .int x1, .int x2]) (bd L I R S) = true := rfl
theorem rc65 {x0 : Int32} {x1 : Int32} : mRcv 65 (.ref 9 :: [.int x0, .int x1]) (bd L I R S) = true := rfl
theorem rc66  : mRcv 66 (.ref 9 :: []) (bd L I R S) = true := rfl
theorem rc67 {x0 : Int32} {x1 : Int32} : mRcv 67 (.ref 9 :: [.int x0, .int x1]) (bd L I R S) = true := rfl
theorem rc68 {x0 : Int32} : mRcv 68 (.ref 9 :: [.int x0]) (bd L I R S) = true := rfl
theorem rc69 {x0 : Int32} {x1 : Int32} : mRcv 69 (.ref 9 :: [.int x0, .int x1]) (bd L I R S) = true := rfl
theorem rc70 {x0 : Int32} : mRcv 70 (.ref 9 :: [.int x0]) (bd L I R S) = true := rfl
theorem rc71 {x0 : Int32} {x1 : Int32} : mRcv 71 (.ref 9 :: [.int x0, .int x1]) (bd L I R S) = true := rfl
theorem rc72 {x0 : Int32} {x1 : Int32} : mRcv 72 (.ref 9 :: [.int x0, .int x1]) (bd L I R S) = true := rfl
theorem rc73 {x0 : Int32} {x1 : Int32} {x2 : Int32} : mRcv 73 (.ref 9 :: [.int x0, .int x1, .int x2]) (bd L I R S) = true := rfl
theorem rc74 {x0 : Int32} : mRcv 74 (.ref 9 :: [.int x0]) (bd L I R S) = true := rfl
theorem rc75 {x0 : Int32} : mRcv 75 (.ref 9 :: [.int x0]) (bd L I R S) = true := rfl
theorem rc76 {x0 : Int32} {x1 : Int32} : mRcv 76 (.ref 9 :: [.int x0, .int x1]) (bd L I R S) = true := rfl
theorem rc77 {x0 : Int32} {x1 : Int32} : mRcv 77 (.ref 9 :: [.int x0, .int x1]) (bd L I R S) = true := rfl
theorem rc78 {x0 : Int32} {x1 : Int32} {x2 : Int32} : mRcv 78 (.ref 9 :: [.int x0, .int x1, .int x2]) (bd L I R S) = true := rfl
theorem rc79  : mRcv 79 (.ref 21 :: []) (bd L I R S) = true := rfl
theorem rc80 {x0 : Int32} {x1 : Int32} {x2 : Int32} {x3 : Int32} : mRcv 80 (.ref 21 :: [.int x0, .int x1, .int x2, .int x3]) (bd L I R S) = true := rfl
theorem rc81 {x0 : Int32} {x1 : Int32} : mRcv 81 (.ref 21 :: [.int x0, .int x1]) (bd L I R S) = true := rfl
theorem rc82 {x0 : Int32} {x1 : Int32} : mRcv 82 (.ref 21 :: [.int x0, .int x1]) (bd L I R S) = true := rfl
theorem rc83 {x0 : Int32} {x1 : Int32} : mRcv 83 (.ref 21 :: [.int x0, .int x1]) (bd L I R S) = true := rfl
theorem rc84 {x0 : Int32} {x1 : Int32} {x2 : Int32} : mRcv 84 (.ref 21 :: [.int x0, .int x1, .int x2]) (bd L I R S) = true := rfl
theorem rc85  : mRcv 85 (.ref 31 :: []) (bd L I R S) = true := rfl
theorem rc86 {x0 : Int32} : mRcv 86 (.ref 31 :: [.int x0]) (bd L I R S) = true := rfl
theorem rc87 {x0 : Int32} : mRcv 87 (.ref 31 :: [.int x0]) (bd L I R S) = true := rfl
theorem rc88 {x0 : Int32} {x1 : Int32} : mRcv 88 (.ref 31 :: [.int x0, .int x1]) (bd L I R S) = true := rfl
theorem rc89 {x0 : Int32} : mRcv 89 (.ref 31 :: [.int x0]) (bd L I R S) = true := rfl
theorem rc90 {x0 : Int32} : mRcv 90 (.ref 31 :: [.int x0]) (bd L I R S) = true := rfl
theorem rc91 {x0 : Int32} {x1 : Int32} {x2 : Int32} {x3 : Int32} {x4 : Int32} {x5 : Int32} : mRcv 91 (.ref 31 :: [.int x0, .int x1, .int x2, .int x3, .int x4, .int x5]) (bd L I R S) = true := rfl
theorem rc92 {x0 : Int32} {x1 : Int32} : mRcv 92 (.ref 31 :: [.int x0, .int x1]) (bd L I R S) = true := rfl
theorem rc93 {x0 : Int32} {x1 : Int32} : mRcv 93 (.ref 31 :: [.int x0, .int x1]) (bd L I R S) = true := rfl
theorem rc94 {x0 : Int32} {x1 : Int32} : mRcv 94 (.ref 31 :: [.int x0, .int x1]) (bd L I R S) = true := rfl
theorem rc95  : mRcv 95 (.ref 43 :: []) (bd L I R S) = true := rfl
theorem rc96 {x0 : Int32} {x1 : Int32} {x2 : Int32} {x3 : Int32} : mRcv 96 (.ref 43 :: [.int x0, .int x1, .int x2, .int x3]) (bd L I R S) = true := rfl
theorem rc97 {x0 : Int32} {x1 : Int32} {x2 : Int32} {p3 : Nat} {x4 : Int32} : mRcv 97 (.ref 43 :: [.int x0, .int x1, .int x2, .ref p3, .int x4]) (bd L I R S) = true := rfl
theorem rc98 {x0 : Int32} {x1 : Int32} : mRcv 98 (.ref 43 :: [.int x0, .int x1]) (bd L I R S) = true := rfl
theorem rc99 {x0 : Int32} {x1 : Int32} : mRcv 99 (.ref 43 :: [.int x0, .int x1]) (bd L I R S) = true := rfl
theorem rc100 {x0 : Int32} : mRcv 100 (.ref 43 :: [.int x0]) (bd L I R S) = true := rfl
theorem rc101 {x0 : Int32} {x1 : Int32} : mRcv 101 (.ref 43 :: [.int x0, .int x1]) (bd L I R S) = true := rfl
theorem rc102 {x0 : Int32} : mRcv 102 (.ref 43 :: [.int x0]) (bd L I R S) = true := rfl
theorem rc103 {x0 : Int32} : mRcv 103 (.ref 43 :: [.int x0]) (bd L I R S) = true := rfl
theorem rc104 {x0 : Int32} : mRcv 104 (.ref 43 :: [.int x0]) (bd L I R S) = true := rfl
theorem rc105 {x0 : Int32} {x1 : Int32} : mRcv 105 (.ref 43 :: [.int x0, .int x1]) (bd L I R S) = true := rfl
theorem rc106 {x0 : Int32} {x1 : Int32} {x2 : Int32} : mRcv 106 (.ref 43 :: [.int x0, .int x1, .int x2]) (bd L I R S) = true := rfl
theorem rc107  : mRcv 107 (.ref 46 :: []) (bd L I R S) = true := rfl
theorem rc108 {p0 : Nat} {x1 : Int32} {x2 : Int32} : mRcv 108 (.ref 46 :: [.ref p0, .int x1, .int x2]) (bd L I R S) = true := rfl
theorem rc109 {p0 : Nat} {x1 : Int32} : mRcv 109 (.ref 46 :: [.ref p0, .int x1]) (bd L I R S) = true := rfl
theorem rc110 {σ : mM} {p0 : Nat} {x1 : Int32} {x2 : Int32} : mRcv 110 [.ref p0, .int x1, .int x2] σ = true := rfl
theorem rc111 {x0 : Int32} {x1 : Int32} {x2 : Int32} : mRcv 111 (.ref 46 :: [.int x0, .int x1, .int x2]) (bd L I R S) = true := rfl
theorem rc112 {p0 : Nat} {x1 : Int32} {x2 : Int32} : mRcv 112 (.ref 46 :: [.ref p0, .int x1, .int x2]) (bd L I R S) = true := rfl
theorem rc113 {σ : mM} {x0 : Int32} : mRcv 113 [.int x0] σ = true := rfl
theorem rc114  : mRcv 114 (.ref 46 :: []) (bd L I R S) = true := rfl
theorem rc115 {x0 : Int32} : mRcv 115 (.ref 46 :: [.int x0]) (bd L I R S) = true := rfl
theorem rc116 {x0 : Int32} {x1 : Int32} : mRcv 116 (.ref 46 :: [.int x0, .int x1]) (bd L I R S) = true := rfl
theorem rc117  : mRcv 117 (.ref 46 :: []) (bd L I R S) = true := rfl
theorem rc118 {x0 : Int32} : mRcv 118 (.ref 46 :: [.int x0]) (bd L I R S) = true := rfl
theorem rc119 {p0 : Nat} : mRcv 119 (.ref 46 :: [.ref p0]) (bd L I R S) = true := rfl
theorem rc120  : mRcv 120 (.ref 46 :: []) (bd L I R S) = true := rfl
theorem rc121 {p0 : Nat} : mRcv 121 (.ref 46 :: [.ref p0]) (bd L I R S) = true := rfl
theorem rc122 {σ : mM} {x0 : Int32} : mRcv 122 [.int x0] σ = true := rfl
theorem rc123 {x0 : Int32} {x1 : Int32} : mRcv 123 (.ref 46 :: [.int x0, .int x1]) (bd L I R S) = true := rfl
theorem rc124 {x0 : Int32} : mRcv 124 (.ref 46 :: [.int x0]) (bd L I R S) = true := rfl
theorem rc125  : mRcv 125 (.ref 46 :: []) (bd L I R S) = true := rfl
theorem rc126  : mRcv 126 (.ref 53 :: []) (bd L I R S) = true := rfl
theorem rc127 {x0 : Int32} : mRcv 127 (.ref 53 :: [.int x0]) (bd L I R S) = true := rfl
theorem rc128  : mRcv 128 (.ref 53 :: []) (bd L I R S) = true := rfl
theorem rc129 {x0 : Int32} : mRcv 129 (.ref 53 :: [.int x0]) (bd L I R S) = true := rfl
theorem rc130 {x0 : Int32} : mRcv 130 (.ref 53 :: [.int x0]) (bd L I R S) = true := rfl
theorem rc131 {x0 : Int32} : mRcv 131 (.ref 53 :: [.int x0]) (bd L I R S) = true := rfl
theorem rc132  : mRcv 132 (.ref 53 :: []) (bd L I R S) = true := rfl
theorem rc133 {p0 : Nat} {p1 : Nat} {p2 : Nat} : mRcv 133 (.ref 59 :: [.ref p0, .ref p1, .ref p2]) (bd L I R S) = true := rfl
theorem rc134 {x0 : Int32} {x1 : Int32} {x2 : Int32} : mRcv 134 (.ref 59 :: [.int x0, .int x1, .int x2]) (bd L I R S) = true := rfl
theorem rc135 {p0 : Nat} {x1 : Int32} {x2 : Int32} : mRcv 135 (.ref 59 :: [.ref p0, .int x1, .int x2]) (bd L I R S) = true := rfl
theorem rc136 {x0 : Int32} : mRcv 136 (.ref 59 :: [.int x0]) (bd L I R S) = true := rfl
theorem rc137 {x0 : Int32} : mRcv 137 (.ref 59 :: [.int x0]) (bd L I R S) = true := rfl
theorem rc138 {x0 : Int32} : mRcv 138 (.ref 59 :: [.int x0]) (bd L I R S) = true := rfl
theorem rc139 {x0 : Int32} : mRcv 139 (.ref 59 :: [.int x0]) (bd L I R S) = true := rfl
theorem rc140 {x0 : Int32} : mRcv 140 (.ref 59 :: [.int x0]) (bd L I R S) = true := rfl
theorem rc141 {x0 : Int32} {x1 : Int32} {x2 : Int32} : mRcv 141 (.ref 59 :: [.int x0, .int x1, .int x2]) (bd L I R S) = true := rfl
theorem rc142 {x0 : Int32} {x1 : Int32} : mRcv 142 (.ref 59 :: [.int x0, .int x1]) (bd L I R S) = true := rfl
theorem rc143 {x0 : Int32} {x1 : Int32} {x2 : Int32} {x3 : Int32} : mRcv 143 (.ref 59 :: [.int x0, .int x1, .int x2, .int x3]) (bd L I R S) = true := rfl
theorem rc144 {x0 : Int32} {x1 : Int32} {x2 : Int32} : mRcv 144 (.ref 59 :: [.int x0, .int x1, .int x2]) (bd L I R S) = true := rfl
theorem rc145 {x0 : Int32} {x1 : Int32} {x2 : Int32} : mRcv 145 (.ref 59 :: [.int x0, .int x1, .int x2]) (bd L I R S) = true := rfl
theorem rc146 {x0 : Int32} {x1 : Int32} {x2 : Int32} : mRcv 146 (.ref 59 :: [.int x0, .int x1, .int x2]) (bd L I R S) = true := rfl
theorem rc147 {x0 : Int32} {x1 : Int32} : mRcv 147 (.ref 59 :: [.int x0, .int x1]) (bd L I R S) = true := rfl
theorem rc148 {x0 : Int32} {x1 : Int32} : mRcv 148 (.ref 59 :: [.int x0, .int x1]) (bd L I R S) = true := rfl
theorem rc149 {x0 : Int32} {x1 : Int32} {x2 : Int32} : mRcv 149 (.ref 59 :: [.int x0, .int x1, .int x2]) (bd L I R S) = true := rfl
theorem rc150 {x0 : Int32} : mRcv 150 (.ref 59 :: [.int x0]) (bd L I R S) = true := rfl
theorem rc151 {x0 : Int32} {x1 : Int32} : mRcv 151 (.ref 59 :: [.int x0, .int x1]) (bd L I R S) = true := rfl
theorem rc152 {x0 : Int32} : mRcv 152 (.ref 59 :: [.int x0]) (bd L I R S) = true := rfl
theorem rc153 {x0 : Int32} {x1 : Int32} : mRcv 153 (.ref 59 :: [.int x0, .int x1]) (bd L I R S) = true := rfl
theorem rc154 {x0 : Int32} : mRcv 154 (.ref 59 :: [.int x0]) (bd L I R S) = true := rfl
theorem rc155 {x0 : Int32} : mRcv 155 (.ref 59 :: [.int x0]) (bd L I R S) = true := rfl
theorem rc156 {x0 : Int32} {x1 : Int32} : mRcv 156 (.ref 59 :: [.int x0, .int x1]) (bd L I R S) = true := rfl
theorem rc157 {x0 : Int32} {x1 : Int32} {x2 : Int32} : mRcv 157 (.ref 59 :: [.int x0, .int x1, .int x2]) (bd L I R S) = true := rfl
theorem rc158 {x0 : Int32} : mRcv 158 (.ref 59 :: [.int x0]) (bd L I R S) = true := rfl
theorem rc159  : mRcv 159 (.ref 59 :: []) (bd L I R S) = true := rfl
theorem rc160 {p0 : Nat} {p1 : Nat} {p2 : Nat} : mRcv 160 (.ref 70 :: [.ref p0, .ref p1, .ref p2]) (bd L I R S) = true := rfl
theorem rc161 {x0 : Int32} {x1 : Int32} {x2 : Int32} {x3 : Int32} {x4 : Int32} : mRcv 161 (.ref 70 :: [.int x0, .int x1, .int x2, .int x3, .int x4]) (bd L I R S) = true := rfl
theorem rc162  : mRcv 162 (.ref 70 :: []) (bd L I R S) = true := rfl
theorem rc163  : mRcv 163 (.ref 70 :: []) (bd L I R S) = true := rfl
theorem rc164 {x0 : Int32} {x1 : Int32} {x2 : Int32} : mRcv 164 (.ref 70 :: [.int x0, .int x1, .int x2]) (bd L I R S) = true := rfl
theorem rc165 {x0 : Int32} : mRcv 165 (.ref 70 :: [.int x0]) (bd L I R S) = true := rfl
theorem rc166  : mRcv 166 (.ref 70 :: []) (bd L I R S) = true := rfl
theorem rc167 {x0 : Int32} : mRcv 167 (.ref 70 :: [.int x0]) (bd L I R S) = true := rfl
theorem rc168 {x0 : Int32} {x1 : Int32} : mRcv 168 (.ref 70 :: [.int x0, .int x1]) (bd L I R S) = true := rfl
theorem rc169 {p0 : Nat} {p1 : Nat} {p2 : Nat} : mRcv 169 (.ref 77 :: [.ref p0, .ref p1, .ref p2]) (bd L I R S) = true := rfl
theorem rc170 {x0 : Int32} {x1 : Int32} {x2 : Int32} {x3 : Int32} : mRcv 170 (.ref 77 :: [.int x0, .int x1, .int x2, .int x3]) (bd L I R S) = true := rfl
theorem rc171 {x0 : Int32} : mRcv 171 (.ref 77 :: [.int x0]) (bd L I R S) = true := rfl
theorem rc172 {x0 : Int32} : mRcv 172 (.ref 77 :: [.int x0]) (bd L I R S) = true := rfl
theorem rc173 {x0 : Int32} {x1 : Int32} : mRcv 173 (.ref 77 :: [.int x0, .int x1]) (bd L I R S) = true := rfl
theorem rc174 {x0 : Int32} : mRcv 174 (.ref 77 :: [.int x0]) (bd L I R S) = true := rfl
theorem rc175  : mRcv 175 (.ref 77 :: []) (bd L I R S) = true := rfl
theorem rc176 {x0 : Int32} {x1 : Int32} : mRcv 176 (.ref 77 :: [.int x0, .int x1]) (bd L I R S) = true := rfl
theorem rc177  : mRcv 177 (.ref 77 :: []) (bd L I R S) = true := rfl
theorem rc178 {x0 : Int32} {x1 : Int32} : mRcv 178 (.ref 77 :: [.int x0, .int x1]) (bd L I R S) = true := rfl
theorem rc179 {x0 : Int32} : mRcv 179 (.ref 77 :: [.int x0]) (bd L I R S) = true := rfl
theorem rc180  : mRcv 180 (.ref 85 :: []) (bd L I R S) = true := rfl
theorem rc181 {x0 : Int32} : mRcv 181 (.ref 85 :: [.int x0]) (bd L I R S) = true := rfl
theorem rc182 {x0 : Int32} : mRcv 182 (.ref 85 :: [.int x0]) (bd L I R S) = true := rfl
theorem rc183  : mRcv 183 (.ref 85 :: []) (bd L I R S) = true := rfl
theorem rc184 {x0 : Int32} {x1 : Int32} {x2 : Int32} : mRcv 184 (.ref 85 :: [.int x0, .int x1, .int x2]) (bd L I R S) = true := rfl
theorem rc185 {x0 : Int32} {x1 : Int32} : mRcv 185 (.ref 85 :: [.int x0, .int x1]) (bd L I R S) = true := rfl
theorem rc186 {x0 : Int32} {p1 : Nat} : mRcv 186 (.ref 85 :: [.int x0, .ref p1]) (bd L I R S) = true := rfl
theorem rc187 {x0 : Int32} : mRcv 187 (.ref 85 :: [.int x0]) (bd L I R S) = true := rfl
theorem rc188 {x0 : Int32} {x1 : Int32} {x2 : Int32} : mRcv 188 (.ref 85 :: [.int x0, .int x1, .int x2]) (bd L I R S) = true := rfl
theorem rc195 {σ : mM} {p0 : Nat} {p1 : Nat} {x2 : Int32} : mRcv 195 [.ref p0, .ref p1, .int x2] σ = true := rfl
theorem rc204 {σ : mM} {x0 : Int32} {x1 : Int32} : mRcv 204 [.int x0, .int x1] σ = true := rfl
theorem rc207  : mRcv 207 (.ref 91 :: []) (bd L I R S) = true := rfl
theorem rc208 {x0 : Int32} : mRcv 208 (.ref 91 :: [.int x0]) (bd L I R S) = true := rfl
theorem rc209 {x0 : Int32} {x1 : Int32} {x2 : Int32} : mRcv 209 (.ref 91 :: [.int x0, .int x1, .int x2]) (bd L I R S) = true := rfl
theorem rc210 {σ : mM} {x0 : Int32} {x1 : Int32} {x2 : Int32} : mRcv 210 [.int x0, .int x1, .int x2] σ = true := rfl
theorem rc211 {x0 : Int32} {x1 : Int32} {x2 : Int32} : mRcv 211 (.ref 91 :: [.int x0, .int x1, .int x2]) (bd L I R S) = true := rfl
theorem rc212 {σ : mM} {x0 : Int32} {x1 : Int32} : mRcv 212 [.int x0, .int x1] σ = true := rfl
theorem rc213 {x0 : Int32} {x1 : Int32} {x2 : Int32} : mRcv 213 (.ref 91 :: [.int x0, .int x1, .int x2]) (bd L I R S) = true := rfl
theorem rc214 {x0 : Int32} {x1 : Int32} : mRcv 214 (.ref 91 :: [.int x0, .int x1]) (bd L I R S) = true := rfl
theorem rc215 {x0 : Int32} : mRcv 215 (.ref 91 :: [.int x0]) (bd L I R S) = true := rfl
theorem rc216 {x0 : Int32} {x1 : Int32} {x2 : Int32} : mRcv 216 (.ref 91 :: [.int x0, .int x1, .int x2]) (bd L I R S) = true := rfl
theorem rc217 {x0 : Int32} : mRcv 217 (.ref 91 :: [.int x0]) (bd L I R S) = true := rfl
theorem rc218 {x0 : Int32} {x1 : Int32} : mRcv 218 (.ref 91 :: [.int x0, .int x1]) (bd L I R S) = true := rfl
theorem rc219 {x0 : Int32} {x1 : Int32} : mRcv 219 (.ref 91 :: [.int x0, .int x1]) (bd L I R S) = true := rfl
theorem rc220 {x0 : Int32} {x1 : Int32} {x2 : Int32} : mRcv 220 (.ref 91 :: [.int x0, .int x1, .int x2]) (bd L I R S) = true := rfl
theorem rc221 {x0 : Int32} {x1 : Int32} : mRcv 221 (.ref 91 :: [.int x0, .int x1]) (bd L I R S) = true := rfl
theorem rc222  : mRcv 222 (.ref 91 :: []) (bd L I R S) = true := rfl
theorem rc223 {x0 : Int32} : mRcv 223 (.ref 91 :: [.int x0]) (bd L I R S) = true := rfl
theorem rc224 {x0 : Int32} : mRcv 224 (.ref 91 :: [.int x0]) (bd L I R S) = true := rfl
theorem rc225 {x0 : Int32} {x1 : Int32} {x2 : Int32} : mRcv 225 (.ref 91 :: [.int x0, .int x1, .int x2]) (bd L I R S) = true := rfl
theorem rc226 {x0 : Int32} {x1 : Int32} : mRcv 226 (.ref 91 :: [.int x0, .int x1]) (bd L I R S) = true := rfl
theorem rc227 {σ : mM} {x0 : Int32} : mRcv 227 [.int x0] σ = true := rfl
theorem rc228 {x0 : Int32} {x1 : Int32} {x2 : Int32} {x3 : Int32} {x4 : Int32} : mRcv 228 (.ref 91 :: [.int x0, .int x1, .int x2, .int x3, .int x4]) (bd L I R S) = true := rfl
theorem rc229 {x0 : Int32} {x1 : Int32} {x2 : Int32} : mRcv 229 (.ref 91 :: [.int x0, .int x1, .int x2]) (bd L I R S) = true := rfl
theorem rc230 {σ : mM} {x0 : Int32} : mRcv 230 [.int x0] σ = true := rfl
theorem rc231 {x0 : Int32} {x1 : Int32} {x2 : Int32} {x3 : Int32} {x4 : Int32} {x5 : Int32} : mRcv 231 (.ref 91 :: [.int x0, .int x1, .int x2, .int x3, .int x4, .int x5]) (bd L I R S) = true := rfl
theorem rc232 {x0 : Int32} {x1 : Int32} {x2 : Int32} {x3 : Int32} {x4 : Int32} : mRcv 232 (.ref 91 :: [.int x0, .int x1, .int x2, .int x3, .int x4]) (bd L I R S) = true := rfl
theorem rc233 {x0 : Int32} {x1 : Int32} {x2 : Int32} : mRcv 233 (.ref 91 :: [.int x0, .int x1, .int x2]) (bd L I R S) = true := rfl
theorem rc234 {x0 : Int32} {x1 : Int32} {x2 : Int32} {x3 : Int32} {x4 : Int32} : mRcv 234 (.ref 91 :: [.int x0, .int x1, .int x2, .int x3, .int x4]) (bd L I R S) = true := rfl
theorem rc235 {x0 : Int32} {x1 : Int32} {x2 : Int32} {x3 : Int32} : mRcv 235 (.ref 91 :: [.int x0, .int x1, .int x2, .int x3]) (bd L I R S) = true := rfl
theorem rc236  : mRcv 236 (.ref 91 :: []) (bd L I R S) = true := rfl
theorem rc237 {x0 : Int32} {x1 : Int32} : mRcv 237 (.ref 91 :: [.int x0, .int x1]) (bd L I R S) = true := rfl
theorem rc238 {x0 : Int32} {x1 : Int32} {x2 : Int32} {x3 : Int32} : mRcv 238 (.ref 91 :: [.int x0, .int x1, .int x2, .int x3]) (bd L I R S) = true := rfl
theorem rc239 {x0 : Int32} {x1 : Int32} {x2 : Int32} {x3 : Int32} : mRcv 239 (.ref 91 :: [.int x0, .int x1, .int x2, .int x3]) (bd L I R S) = true := rfl
theorem rc240 {x0 : Int32} {x1 : Int32} {x2 : Int32} : mRcv 240 (.ref 91 :: [.int x0, .int x1, .int x2]) (bd L I R S) = true := rfl
theorem rc241 {σ : mM} {x0 : Int32} : mRcv 241 [.int x0] σ = true := rfl
theorem rc242 {x0 : Int32} {x1 : Int32} {x2 : Int32} {x3 : Int32} : mRcv 242 (.ref 91 :: [.int x0, .int x1, .int x2, .int x3]) (bd L I R S) = true := rfl
theorem rc243 {x0 : Int32} : mRcv 243 (.ref 91 :: [.int x0]) (bd L I R S) = true := rfl
theorem rc244 {x0 : Int32} {x1 : Int32} : mRcv 244 (.ref 91 :: [.int x0, .int x1]) (bd L I R S) = true := rfl
theorem rc245 {x0 : Int32} {x1 : Int32} {x2 : Int32} : mRcv 245 (.ref 91 :: [.int x0, .int x1, .int x2]) (bd L I R S) = true := rfl
theorem rc246 {x0 : Int32} {x1 : Int32} {x2 : Int32} {x3 : Int32} : mRcv 246 (.ref 91 :: [.int x0, .int x1, .int x2, .int x3]) (bd L I R S) = true := rfl
theorem rc247 {x0 : Int32} {x1 : Int32} {x2 : Int32} : mRcv 247 (.ref 91 :: [.int x0, .int x1, .int x2]) (bd L I R S) = true := rfl
theorem rc248 {x0 : Int32} {x1 : Int32} {x2 : Int32} {x3 : Int32} {x4 : Int32} : mRcv 248 (.ref 91 :: [.int x0, .int x1, .int x2, .int x3, .int x4]) (bd L I R S) = true := rfl
theorem rc249 {σ : mM} {x0 : Int32} {x1 : Int32} {x2 : Int32} : mRcv 249 [.int x0, .int x1, .int x2] σ = true := rfl
theorem rc250 {σ : mM} {x0 : Int32} : mRcv 250 [.int x0] σ = true := rfl
theorem rc251 {x0 : Int32} {x1 : Int32} : mRcv 251 (.ref 91 :: [.int x0, .int x1]) (bd L I R S) = true := rfl
theorem rc252 {x0 : Int32} {x1 : Int32} {x2 : Int32} : mRcv 252 (.ref 91 :: [.int x0, .int x1, .int x2]) (bd L I R S) = true := rfl
theorem rc253 {x0 : Int32} {x1 : Int32} {x2 : Int32} {x3 : Int32} {x4 : Int32} {x5 : Int32} : mRcv 253 (.ref 91 :: [.int x0, .int x1, .int x2, .int x3, .int x4, .int x5]) (bd L I R S) = true := rfl
theorem rc254 {x0 : Int32} {x1 : Int32} : mRcv 254 (.ref 91 :: [.int x0, .int x1]) (bd L I R S) = true := rfl
theorem rc255 {x0 : Int32} {x1 : Int32} {x2 : Int32} {x3 : Int32} : mRcv 255 (.ref 91 :: [.int x0, .int x1, .int x2, .int x3]) (bd L I R S) = true := rfl
theorem rc256 {x0 : Int32} {x1 : Int32} {x2 : Int32} {x3 : Int32} : mRcv 256 (.ref 91 :: [.int x0, .int x1, .int x2, .int x3]) (bd L I R S) = true := rfl
theorem rc257 {x0 : Int32} {x1 : Int32} {x2 : Int32} : mRcv 257 (.ref 91 :: [.int x0, .int x1, .int x2]) (bd L I R S) = true := rfl
theorem rc258 {x0 : Int32} {x1 : Int32} {x2 : Int32} {x3 : Int32} : mRcv 258 (.ref 91 :: [.int x0, .int x1, .int x2, .int x3]) (bd L I R S) = true := rfl
theorem rc259 {x0 : Int32} {x1 : Int32} {x2 : Int32} {x3 : Int32} {x4 : Int32} : mRcv 259 (.ref 91 :: [.int x0, .int x1, .int x2, .int x3, .int x4]) (bd L I R S) = true := rfl
theorem rc260 {x0 : Int32} {x1 : Int32} {x2 : Int32} {x3 : Int32} : mRcv 260 (.ref 91 :: [.int x0, .int x1, .int x2, .int x3]) (bd L I R S) = true := rfl
theorem rc261 {x0 : Int32} {x1 : Int32} {x2 : Int32} : mRcv 261 (.ref 91 :: [.int x0, .int x1, .int x2]) (bd L I R S) = true := rfl
theorem rc262 {x0 : Int32} {x1 : Int32} {x2 : Int32} : mRcv 262 (.ref 91 :: [.int x0, .int x1, .int x2]) (bd L I R S) = true := rfl
theorem rc263 {x0 : Int32} {x1 : Int32} {x2 : Int32} : mRcv 263 (.ref 91 :: [.int x0, .int x1, .int x2]) (bd L I R S) = true := rfl
theorem rc264 {x0 : Int32} {x1 : Int32} {x2 : Int32} {x3 : Int32} : mRcv 264 (.ref 91 :: [.int x0, .int x1, .int x2, .int x3]) (bd L I R S) = true := rfl
theorem rc265 {x0 : Int32} {x1 : Int32} {x2 : Int32} {x3 : Int32} {x4 : Int32} {x5 : Int32} : mRcv 265 (.ref 91 :: [.int x0, .int x1, .int x2, .int x3, .int x4, .int x5]) (bd L I R S) = true := rfl
theorem rc266 {x0 : Int32} {x1 : Int32} {x2 : Int32} : mRcv 266 (.ref 91 :: [.int x0, .int x1, .int x2]) (bd L I R S) = true := rfl
theorem rc267 {x0 : Int32} {x1 : Int32} : mRcv 267 (.ref 91 :: [.int x0, .int x1]) (bd L I R S) = true := rfl
theorem rc268 {x0 : Int32} {x1 : Int32} {x2 : Int32} : mRcv 268 (.ref 91 :: [.int x0, .int x1, .int x2]) (bd L I R S) = true := rfl
theorem rc269 {x0 : Int32} {x1 : Int32} : mRcv 269 (.ref 91 :: [.int x0, .int x1]) (bd L I R S) = true := rfl
theorem rc270 {x0 : Int32} {x1 : Int32} : mRcv 270 (.ref 91 :: [.int x0, .int x1]) (bd L I R S) = true := rfl
theorem rc271 {x0 : Int32} : mRcv 271 (.ref 91 :: [.int x0]) (bd L I R S) = true := rfl
theorem rc272 {x0 : Int32} {x1 : Int32} {x2 : Int32} : mRcv 272 (.ref 91 :: [.int x0, .int x1, .int x2]) (bd L I R S) = true := rfl
theorem rc273 {x0 : Int32} {x1 : Int32} {x2 : Int32} : mRcv 273 (.ref 91 :: [.int x0, .int x1, .int x2]) (bd L I R S) = true := rfl
theorem rc274 {x0 : Int32} {x1 : Int32} : mRcv 274 (.ref 91 :: [.int x0, .int x1]) (bd L I R S) = true := rfl
theorem rc275 {x0 : Int32} {x1 : Int32} {x2 : Int32} : mRcv 275 (.ref 91 :: [.int x0, .int x1, .int x2]) (bd L I R S) = true := rfl
theorem rc276 {x0 : Int32} {x1 : Int32} {x2 : Int32} : mRcv 276 (.ref 91 :: [.int x0, .int x1, .int x2]) (bd L I R S) = true := rfl
theorem rc277 {x0 : Int32} {x1 : Int32} : mRcv 277 (.ref 91 :: [.int x0, .int x1]) (bd L I R S) = true := rfl
theorem rc278 {x0 : Int32} {x1 : Int32} : mRcv 278 (.ref 91 :: [.int x0, .int x1]) (bd L I R S) = true := rfl
theorem rc279 {x0 : Int32} {x1 : Int32} {x2 : Int32} : mRcv 279 (.ref 91 :: [.int x0, .int x1, .int x2]) (bd L I R S) = true := rfl
theorem rc280 {x0 : Int32} {x1 : Int32} {x2 : Int32} : mRcv 280 (.ref 91 :: [.int x0, .int x1, .int x2]) (bd L I R S) = true := rfl
theorem rc281 {x0 : Int32} {x1 : Int32} : mRcv 281 (.ref 91 :: [.int x0, .int x1]) (bd L I R S) = true := rfl
theorem rc282  : mRcv 282 (.ref 91 :: []) (bd L I R S) = true := rfl
theorem rc283 {x0 : Int32} {x1 : Int32} : mRcv 283 (.ref 91 :: [.int x0, .int x1]) (bd L I R S) = true := rfl
theorem rc284 {x0 : Int32} {x1 : Int32} : mRcv 284 (.ref 91 :: [.int x0, .int x1]) (bd L I R S) = true := rfl
theorem rc285 {x0 : Int32} {x1 : Int32} : mRcv 285 (.ref 91 :: [.int x0, .int x1]) (bd L I R S) = true := rfl
theorem rc286 {x0 : Int32} : mRcv 286 (.ref 91 :: [.int x0]) (bd L I R S) = true := rfl
theorem rc287 {x0 : Int32} : mRcv 287 (.ref 91 :: [.int x0]) (bd L I R S) = true := rfl
theorem rc288  : mRcv 288 (.ref 91 :: []) (bd L I R S) = true := rfl
theorem rc289 {x0 : Int32} {x1 : Int32} {x2 : Int32} : mRcv 289 (.ref 91 :: [.int x0, .int x1, .int x2]) (bd L I R S) = true := rfl
theorem rc290 {x0 : Int32} {x1 : Int32} : mRcv 290 (.ref 91 :: [.int x0, .int x1]) (bd L I R S) = true := rfl
theorem rc291  : mRcv 291 (.ref 91 :: []) (bd L I R S) = true := rfl
theorem rc292 {x0 : Int32} : mRcv 292 (.ref 91 :: [.int x0]) (bd L I R S) = true := rfl
theorem rc293 {x0 : Int32} : mRcv 293 (.ref 91 :: [.int x0]) (bd L I R S) = true := rfl
theorem rc294 {x0 : Int32} {x1 : Int32} : mRcv 294 (.ref 91 :: [.int x0, .int x1]) (bd L I R S) = true := rfl
theorem rc295 {x0 : Int32} : mRcv 295 (.ref 91 :: [.int x0]) (bd L I R S) = true := rfl
theorem rc296 {x0 : Int32} {x1 : Int32} : mRcv 296 (.ref 91 :: [.int x0, .int x1]) (bd L I R S) = true := rfl
theorem rc297 {x0 : Int32} : mRcv 297 (.ref 91 :: [.int x0]) (bd L I R S) = true := rfl
theorem rc298 {x0 : Int32} {x1 : Int32} : mRcv 298 (.ref 91 :: [.int x0, .int x1]) (bd L I R S) = true := rfl
theorem rc299 {x0 : Int32} {x1 : Int32} {x2 : Int32} {x3 : Int32} {x4 : Int32} : mRcv 299 (.ref 91 :: [.int x0, .int x1, .int x2, .int x3, .int x4]) (bd L I R S) = true := rfl
theorem rc300 {x0 : Int32} : mRcv 300 (.ref 91 :: [.int x0]) (bd L I R S) = true := rfl
theorem rc301 {x0 : Int32} {x1 : Int32} : mRcv 301 (.ref 91 :: [.int x0, .int x1]) (bd L I R S) = true := rfl
theorem rc302  : mRcv 302 (.ref 91 :: []) (bd L I R S) = true := rfl
theorem rc303 {x0 : Int32} : mRcv 303 (.ref 91 :: [.int x0]) (bd L I R S) = true := rfl
theorem rc304 {X0 : Int64} : mRcv 304 (.ref 91 :: [.long X0]) (bd L I R S) = true := rfl
theorem rc305 {x0 : Int32} {x1 : Int32} : mRcv 305 (.ref 91 :: [.int x0, .int x1]) (bd L I R S) = true := rfl
theorem rc306 {x0 : Int32} : mRcv 306 (.ref 91 :: [.int x0]) (bd L I R S) = true := rfl
theorem rc307 {x0 : Int32} : mRcv 307 (.ref 91 :: [.int x0]) (bd L I R S) = true := rfl
theorem rc308 {x0 : Int32} {x1 : Int32} : mRcv 308 (.ref 91 :: [.int x0, .int x1]) (bd L I R S) = true := rfl
theorem rc309  : mRcv 309 (.ref 91 :: []) (bd L I R S) = true := rfl
theorem rc310 {x0 : Int32} {x1 : Int32} {x2 : Int32} {X3 : Int64} {x4 : Int32} : mRcv 310 (.ref 91 :: [.int x0, .int x1, .int x2, .long X3, .int x4]) (bd L I R S) = true := rfl
theorem rc311 {x0 : Int32} : mRcv 311 (.ref 91 :: [.int x0]) (bd L I R S) = true := rfl
theorem rc312 {x0 : Int32} : mRcv 312 (.ref 91 :: [.int x0]) (bd L I R S) = true := rfl
theorem rc313 {x0 : Int32} : mRcv 313 (.ref 91 :: [.int x0]) (bd L I R S) = true := rfl
theorem rc314  : mRcv 314 (.ref 91 :: []) (bd L I R S) = true := rfl
theorem rc315 {x0 : Int32} : mRcv 315 (.ref 91 :: [.int x0]) (bd L I R S) = true := rfl
theorem rc316  : mRcv 316 (.ref 91 :: []) (bd L I R S) = true := rfl
theorem rc317  : mRcv 317 (.ref 91 :: []) (bd L I R S) = true := rfl
theorem rc318  : mRcv 318 (.ref 91 :: []) (bd L I R S) = true := rfl
theorem rc319  : mRcv 319 (.ref 91 :: []) (bd L I R S) = true := rfl
theorem rc320 {x0 : Int32} {x1 : Int32} {x2 : Int32} : mRcv 320 (.ref 91 :: [.int x0, .int x1, .int x2]) (bd L I R S) = true := rfl
theorem rc321 {x0 : Int32} {x1 : Int32} : mRcv 321 (.ref 91 :: [.int x0, .int x1]) (bd L I R S) = true := rfl
theorem rc322 {X0 : Int64} : mRcv 322 (.ref 91 :: [.long X0]) (bd L I R S) = true := rfl
theorem rc323 {x0 : Int32} : mRcv 323 (.ref 91 :: [.int x0]) (bd L I R S) = true := rfl
theorem rc324 {x0 : Int32} : mRcv 324 (.ref 91 :: [.int x0]) (bd L I R S) = true := rfl
theorem rc325 {x0 : Int32} : mRcv 325 (.ref 91 :: [.int x0]) (bd L I R S) = true := rfl
theorem rc326 {σ : mM} {x0 : Int32} : mRcv 326 [.int x0] σ = true := rfl
theorem rc327 {x0 : Int32} {x1 : Int32} : mRcv 327 (.ref 91 :: [.int x0, .int x1]) (bd L I R S) = true := rfl
theorem rc328 {x0 : Int32} : mRcv 328 (.ref 91 :: [.int x0]) (bd L I R S) = true := rfl
theorem rc329 {σ : mM} {x0 : Int32} : mRcv 329 [.int x0] σ = true := rfl
theorem rc330 {x0 : Int32} : mRcv 330 (.ref 91 :: [.int x0]) (bd L I R S) = true := rfl
theorem rc331 {x0 : Int32} : mRcv 331 (.ref 53 :: [.int x0]) (bd L I R S) = true := rfl
theorem rc332 {x0 : Int32} : mRcv 332 (.ref 53 :: [.int x0]) (bd L I R S) = true := rfl
theorem rc333 {x0 : Int32} : mRcv 333 (.ref 53 :: [.int x0]) (bd L I R S) = true := rfl
theorem rc334 {x0 : Int32} : mRcv 334 (.ref 53 :: [.int x0]) (bd L I R S) = true := rfl
theorem rc335  : mRcv 335 (.ref 53 :: []) (bd L I R S) = true := rfl
theorem rc336  : mRcv 336 (.ref 53 :: []) (bd L I R S) = true := rfl
theorem rc337 {x0 : Int32} : mRcv 337 (.ref 53 :: [.int x0]) (bd L I R S) = true := rfl
theorem rc338 {x0 : Int32} : mRcv 338 (.ref 53 :: [.int x0]) (bd L I R S) = true := rfl
theorem rc339 {x0 : Int32} : mRcv 339 (.ref 53 :: [.int x0]) (bd L I R S) = true := rfl
theorem rc340  : mRcv 340 (.ref 53 :: []) (bd L I R S) = true := rfl
theorem rc342 {σ : mM} {x0 : Int32} : mRcv 342 [.int x0] σ = true := rfl
theorem rc343 {σ : mM} {x0 : Int32} : mRcv 343 [.int x0] σ = true := rfl
theorem rc344 {σ : mM} {x0 : Int32} {x1 : Int32} {p2 : Nat} : mRcv 344 [.int x0, .int x1, .ref p2] σ = true := rfl
theorem rc345 {σ : mM} {x0 : Int32} {x1 : Int32} : mRcv 345 [.int x0, .int x1] σ = true := rfl
theorem rc346 {σ : mM} {x0 : Int32} {x1 : Int32} : mRcv 346 [.int x0, .int x1] σ = true := rfl
theorem rc347 {σ : mM} {x0 : Int32} : mRcv 347 [.int x0] σ = true := rfl
theorem rc348 {σ : mM} {p0 : Nat} {x1 : Int32} : mRcv 348 [.ref p0, .int x1] σ = true := rfl
theorem rc349 {σ : mM} {x0 : Int32} : mRcv 349 [.int x0] σ = true := rfl
theorem rc350 {σ : mM} {p0 : Nat} {x1 : Int32} : mRcv 350 [.ref p0, .int x1] σ = true := rfl
theorem rc351 {σ : mM} {p0 : Nat} {x1 : Int32} : mRcv 351 [.ref p0, .int x1] σ = true := rfl
theorem rc352 {σ : mM} {p0 : Nat} {x1 : Int32} {x2 : Int32} : mRcv 352 [.ref p0, .int x1, .int x2] σ = true := rfl
theorem rc353 {σ : mM} {p0 : Nat} {x1 : Int32} {x2 : Int32} : mRcv 353 [.ref p0, .int x1, .int x2] σ = true := rfl
theorem rc354 {σ : mM} {x0 : Int32} {x1 : Int32} : mRcv 354 [.int x0, .int x1] σ = true := rfl
theorem rc355 {σ : mM} {x0 : Int32} {x1 : Int32} {x2 : Int32} : mRcv 355 [.int x0, .int x1, .int x2] σ = true := rfl
theorem rc356 {σ : mM} {x0 : Int32} {x1 : Int32} {p2 : Nat} : mRcv 356 [.int x0, .int x1, .ref p2] σ = true := rfl
theorem bd_len : (bd L I R S).2.2.length = 155 + S.length := by show (zSh L ++ S).length = _; rw [List.length_append]; rfl
end
