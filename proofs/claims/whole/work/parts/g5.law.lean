section
variable {d L a b : Nat} {c z v : Int} {is : List mIns} {ls st : List Value} {Q : Option Value → mM → Prop} {I : mI} {R : mR} {S : mSh}
theorem sh0 : (bd L I R S).2.2[0]? = some (0, L) := rfl
theorem s40s (hz : 0 ≤ z ∧ z < (L : Int)) (hn : L ≤ 1000000) (hv : I 0 z.toNat = oI v) (h : Wp d is ls (.int (oI v) :: st) (bd L I R S) Q) : Wp d ((40, a, b, c) :: is) ls (.int (oI z) :: .ref 0 :: st) (bd L I R S) Q := by
  refine r_40.mpr ⟨mIx_a sh0 hz hn, ?_⟩
  rw [ix_a hz hn, bd_I, hv]; exact h
end
def h341_1 (d L : Nat) (I : Nat → Nat → Int32) (R : Nat → Nat → Option Nat) (S : List (Nat × Nat)) (Q : Option Value → mM → Prop) (x3 : Int) : Prop := Wp d (gb 341 1) [.ref 0, .ref 8, .ref 91, .int (oI x3)] [] (bd L I R S) Q
set_option maxRecDepth 4000 in
theorem e341_1 {d L : Nat} {I : Nat → Nat → Int32} {R : Nat → Nat → Option Nat} {S : List (Nat × Nat)} {Q : Option Value → mM → Prop}  {x3 : Int} (hE : inR x3 ∧ (inR ((L : Int) - 7) ∧ ((((L : Int) - 7 < x3) → Q (some (.int (oI 1))) (bd L I R S)) ∧ (¬ ((L : Int) - 7 < x3) → L ≤ 1000000 ∧ ((0 ≤ x3 ∧ x3 < (L : Int)) ∧ ((iAnd (ld I 0 x3.toNat) 63 = 0 → (0 ≤ x3 + 1 ∧ x3 + 1 < (L : Int)) ∧ (CallI d 1 [.ref 8, .int (oI (ld I 0 (x3 + 1).toNat))] (bd L I R S) (fun y s => ∃ (y11 : Int) (I8 : mI) (R9 : mR) (S10 : mSh), y = oI y11 ∧ s = bd L I8 R9 S10 ∧ inR y11 ∧ ((0 ≤ x3 + 1 ∧ x3 + 1 < (L : Int)) ∧ (CallI d 208 [.ref 91, .int (oI (ld I8 0 (x3 + 1).toNat))] (bd L I8 R9 S10) (fun y s => ∃ (y16 : Int) (I13 : mI) (R14 : mR) (S15 : mSh), y = oI y16 ∧ s = bd L I13 R14 S15 ∧ inR y16 ∧ (((y11 = y16) → h341_1 (d + 1) L I13 R14 S15 Q (x3 + 7)) ∧ (¬ (y11 = y16) → Q (some (.int (oI 0))) (bd L I13 R14 S15))))))))) ∧ (iAnd (ld I 0 x3.toNat) 63 = 1 → (0 ≤ x3 + 1 ∧ x3 + 1 < (L : Int)) ∧ ((0 ≤ x3 + 2 ∧ x3 + 2 < (L : Int)) ∧ ((0 ≤ x3 + 3 ∧ x3 + 3 < (L : Int)) ∧ (CallI d 2 [.ref 8, .int (oI (ld I 0 (x3 + 1).toNat)), .int (oI (ld I 0 (x3 + 2).toNat)), .int (oI (ld I 0 (x3 + 3).toNat))] (bd L I R S) (fun y s => ∃ (y25 : Int) (I22 : mI) (R23 : mR) (S24 : mSh), y = oI y25 ∧ s = bd L I22 R23 S24 ∧ inR y25 ∧ ((0 ≤ x3 + 1 ∧ x3 + 1 < (L : Int)) ∧ ((0 ≤ x3 + 2 ∧ x3 + 2 < (L : Int)) ∧ ((0 ≤ x3 + 3 ∧ x3 + 3 < (L : Int)) ∧ (CallI d 209 [.ref 91, .int (oI (ld I22 0 (x3 + 1).toNat)), .int (oI (ld I22 0 (x3 + 2).toNat)), .int (oI (ld I22 0 (x3 + 3).toNat))] (bd L I22 R23 S24) (fun y s => ∃ (y32 : Int) (I29 : mI) (R30 : mR) (S31 : mSh), y = oI y32 ∧ s = bd L I29 R30 S31 ∧ inR y32 ∧ (((y25 = y32) → h341_1 (d + 1) L I29 R30 S31 Q (x3 + 7)) ∧ (¬ (y25 = y32) → Q (some (.int (oI 0))) (bd L I29 R30 S31))))))))))))) ∧ (iAnd (ld I 0 x3.toNat) 63 = 2 → (0 ≤ x3 + 1 ∧ x3 + 1 < (L : Int)) ∧ ((0 ≤ x3 + 2 ∧ x3 + 2 < (L : Int)) ∧ ((0 ≤ x3 + 3 ∧ x3 + 3 < (L : Int)) ∧ (CallI d 4 [.ref 8, .int (oI (ld I 0 (x3 + 1).toNat)), .int (oI (ld I 0 (x3 + 2).toNat)), .int (oI (ld I 0 (x3 + 3).toNat))] (bd L I R S) (fun y s => ∃ (y41 : Int) (I38 : mI) (R39 : mR) (S40 : mSh), y = oI y41 ∧ s = bd L I38 R39 S40 ∧ inR y41 ∧ ((0 ≤ x3 + 1 ∧ x3 + 1 < (L : Int)) ∧ ((0 ≤ x3 + 2 ∧ x3 + 2 < (L : Int)) ∧ ((0 ≤ x3 + 3 ∧ x3 + 3 < (L : Int)) ∧ (CallI d 211 [.ref 91, .int (oI (ld I38 0 (x3 + 1).toNat)), .int (oI (ld I38 0 (x3 + 2).toNat)), .int (oI (ld I38 0 (x3 + 3).toNat))] (bd L I38 R39 S40) (fun y s => ∃ (y48 : Int) (I45 : mI) (R46 : mR) (S47 : mSh), y = oI y48 ∧ s = bd L I45 R46 S47 ∧ inR y48 ∧ (((y41 = y48) → h341_1 (d + 1) L I45 R46 S47 Q (x3 + 7)) ∧ (¬ (y41 = y48) → Q (some (.int (oI 0))) (bd L I45 R46 S47))))))))))))) ∧ (iAnd (ld I 0 x3.toNat) 63 = 3 → (0 ≤ x3 + 1 ∧ x3 + 1 < (L : Int)) ∧ ((0 ≤ x3 + 2 ∧ x3 + 2 < (L : Int)) ∧ ((0 ≤ x3 + 3 ∧ x3 + 3 < (L : Int)) ∧ (CallI d 5 [.ref 8, .int (oI (ld I 0 (x3 + 1).toNat)), .int (oI (ld I 0 (x3 + 2).toNat)), .int (oI (ld I 0 (x3 + 3).toNat))] (bd L I R S) (fun y s => ∃ (y57 : Int) (I54 : mI) (R55 : mR) (S56 : mSh), y = oI y57 ∧ s = bd L I54 R55 S56 ∧ inR y57 ∧ ((0 ≤ x3 + 1 ∧ x3 + 1 < (L : Int)) ∧ ((0 ≤ x3 + 2 ∧ x3 + 2 < (L : Int)) ∧ ((0 ≤ x3 + 3 ∧ x3 + 3 < (L : Int)) ∧ (CallI d 213 [.ref 91, .int (oI (ld I54 0 (x3 + 1).toNat)), .int (oI (ld I54 0 (x3 + 2).toNat)), .int (oI (ld I54 0 (x3 + 3).toNat))] (bd L I54 R55 S56) (fun y s => ∃ (y64 : Int) (I61 : mI) (R62 : mR) (S63 : mSh), y = oI y64 ∧ s = bd L I61 R62 S63 ∧ inR y64 ∧ (((y57 = y64) → h341_1 (d + 1) L I61 R62 S63 Q (x3 + 7)) ∧ (¬ (y57 = y64) → Q (some (.int (oI 0))) (bd L I61 R62 S63))))))))))))) ∧ (iAnd (ld I 0 x3.toNat) 63 = 4 → (0 ≤ x3 + 1 ∧ x3 + 1 < (L : Int)) ∧ ((0 ≤ x3 + 2 ∧ x3 + 2 < (L : Int)) ∧ (CallI d 6 [.ref 8, .int (oI (ld I 0 (x3 + 1).toNat)), .int (oI (ld I 0 (x3 + 2).toNat))] (bd L I R S) (fun y s => ∃ (y72 : Int) (I69 : mI) (R70 : mR) (S71 : mSh), y = oI y72 ∧ s = bd L I69 R70 S71 ∧ inR y72 ∧ ((0 ≤ x3 + 1 ∧ x3 + 1 < (L : Int)) ∧ ((0 ≤ x3 + 2 ∧ x3 + 2 < (L : Int)) ∧ (CallI d 214 [.ref 91, .int (oI (ld I69 0 (x3 + 1).toNat)), .int (oI (ld I69 0 (x3 + 2).toNat))] (bd L I69 R70 S71) (fun y s => ∃ (y78 : Int) (I75 : mI) (R76 : mR) (S77 : mSh), y = oI y78 ∧ s = bd L I75 R76 S77 ∧ inR y78 ∧ (((y72 = y78) → h341_1 (d + 1) L I75 R76 S77 Q (x3 + 7)) ∧ (¬ (y72 = y78) → Q (some (.int (oI 0))) (bd L I75 R76 S77))))))))))) ∧ (iAnd (ld I 0 x3.toNat) 63 = 5 → (0 ≤ x3 + 1 ∧ x3 + 1 < (L : Int)) ∧ ((0 ≤ x3 + 2 ∧ x3 + 2 < (L : Int)) ∧ ((0 ≤ x3 + 3 ∧ x3 + 3 < (L : Int)) ∧ (CallI d 8 [.ref 8, .int (oI (ld I 0 (x3 + 1).toNat)), .int (oI (ld I 0 (x3 + 2).toNat)), .int (oI (ld I 0 (x3 + 3).toNat))] (bd L I R S) (fun y s => ∃ (y87 : Int) (I84 : mI) (R85 : mR) (S86 : mSh), y = oI y87 ∧ s = bd L I84 R85 S86 ∧ inR y87 ∧ ((0 ≤ x3 + 1 ∧ x3 + 1 < (L : Int)) ∧ ((0 ≤ x3 + 2 ∧ x3 + 2 < (L : Int)) ∧ ((0 ≤ x3 + 3 ∧ x3 + 3 < (L : Int)) ∧ (CallI d 216 [.ref 91, .int (oI (ld I84 0 (x3 + 1).toNat)), .int (oI (ld I84 0 (x3 + 2).toNat)), .int (oI (ld I84 0 (x3 + 3).toNat))] (bd L I84 R85 S86) (fun y s => ∃ (y94 : Int) (I91 : mI) (R92 : mR) (S93 : mSh), y = oI y94 ∧ s = bd L I91 R92 S93 ∧ inR y94 ∧ (((y87 = y94) → h341_1 (d + 1) L I91 R92 S93 Q (x3 + 7)) ∧ (¬ (y87 = y94) → Q (some (.int (oI 0))) (bd L I91 R92 S93))))))))))))) ∧ (iAnd (ld I 0 x3.toNat) 63 = 6 → (0 ≤ x3 + 1 ∧ x3 + 1 < (L : Int)) ∧ ((0 ≤ x3 + 2 ∧ x3 + 2 < (L : Int)) ∧ ((0 ≤ x3 + 3 ∧ x3 + 3 < (L : Int)) ∧ (CallI d 11 [.ref 8, .int (oI (ld I 0 (x3 + 1).toNat)), .int (oI (ld I 0 (x3 + 2).toNat)), .int (oI (ld I 0 (x3 + 3).toNat))] (bd L I R S) (fun y s => ∃ (y103 : Int) (I100 : mI) (R101 : mR) (S102 : mSh), y = oI y103 ∧ s = bd L I100 R101 S102 ∧ inR y103 ∧ ((0 ≤ x3 + 1 ∧ x3 + 1 < (L : Int)) ∧ ((0 ≤ x3 + 2 ∧ x3 + 2 < (L : Int)) ∧ ((0 ≤ x3 + 3 ∧ x3 + 3 < (L : Int)) ∧ (CallI d 229 [.ref 91, .int (oI (ld I100 0 (x3 + 1).toNat)), .int (oI (ld I100 0 (x3 + 2).toNat)), .int (oI (ld I100 0 (x3 + 3).toNat))] (bd L I100 R101 S102) (fun y s => ∃ (y110 : Int) (I107 : mI) (R108 : mR) (S109 : mSh), y = oI y110 ∧ s = bd L I107 R108 S109 ∧ inR y110 ∧ (((y103 = y110) → h341_1 (d + 1) L I107 R108 S109 Q (x3 + 7)) ∧ (¬ (y103 = y110) → Q (some (.int (oI 0))) (bd L I107 R108 S109))))))))))))) ∧ (iAnd (ld I 0 x3.toNat) 63 = 7 → (0 ≤ x3 + 1 ∧ x3 + 1 < (L : Int)) ∧ ((0 ≤ x3 + 2 ∧ x3 + 2 < (L : Int)) ∧ ((0 ≤ x3 + 3 ∧ x3 + 3 < (L : Int)) ∧ ((0 ≤ x3 + 4 ∧ x3 + 4 < (L : Int)) ∧ ((0 ≤ x3 + 5 ∧ x3 + 5 < (L : Int)) ∧ ((0 ≤ x3 + 6 ∧ x3 + 6 < (L : Int)) ∧ (CallI d 14 [.ref 8, .int (oI (ld I 0 (x3 + 1).toNat)), .int (oI (ld I 0 (x3 + 2).toNat)), .int (oI (ld I 0 (x3 + 3).toNat)), .int (oI (ld I 0 (x3 + 4).toNat)), .int (oI (ld I 0 (x3 + 5).toNat)), .int (oI (ld I 0 (x3 + 6).toNat))] (bd L I R S) (fun y s => ∃ (y122 : Int) (I119 : mI) (R120 : mR) (S121 : mSh), y = oI y122 ∧ s = bd L I119 R120 S121 ∧ inR y122 ∧ ((0 ≤ x3 + 1 ∧ x3 + 1 < (L : Int)) ∧ ((0 ≤ x3 + 2 ∧ x3 + 2 < (L : Int)) ∧ ((0 ≤ x3 + 3 ∧ x3 + 3 < (L : Int)) ∧ ((0 ≤ x3 + 4 ∧ x3 + 4 < (L : Int)) ∧ ((0 ≤ x3 + 5 ∧ x3 + 5 < (L : Int)) ∧ ((0 ≤ x3 + 6 ∧ x3 + 6 < (L : Int)) ∧ (CallI d 231 [.ref 91, .int (oI (ld I119 0 (x3 + 1).toNat)), .int (oI (ld I119 0 (x3 + 2).toNat)), .int (oI (ld I119 0 (x3 + 3).toNat)), .int (oI (ld I119 0 (x3 + 4).toNat)), .int (oI (ld I119 0 (x3 + 5).toNat)), .int (oI (ld I119 0 (x3 + 6).toNat))] (bd L I119 R120 S121) (fun y s => ∃ (y132 : Int) (I129 : mI) (R130 : mR) (S131 : mSh), y = oI y132 ∧ s = bd L I129 R130 S131 ∧ inR y132 ∧ (((y122 = y132) → h341_1 (d + 1) L I129 R130 S131 Q (x3 + 7)) ∧ (¬ (y122 = y132) → Q (some (.int (oI 0))) (bd L I129 R130 S131))))))))))))))))))) ∧ (iAnd (ld I 0 x3.toNat) 63 = 8 → (0 ≤ x3 + 1 ∧ x3 + 1 < (L : Int)) ∧ ((0 ≤ x3 + 2 ∧ x3 + 2 < (L : Int)) ∧ ((0 ≤ x3 + 3 ∧ x3 + 3 < (L : Int)) ∧ ((0 ≤ x3 + 4 ∧ x3 + 4 < (L : Int)) ∧ ((0 ≤ x3 + 5 ∧ x3 + 5 < (L : Int)) ∧ (CallI d 15 [.ref 8, .int (oI (ld I 0 (x3 + 1).toNat)), .int (oI (ld I 0 (x3 + 2).toNat)), .int (oI (ld I 0 (x3 + 3).toNat)), .int (oI (ld I 0 (x3 + 4).toNat)), .int (oI (ld I 0 (x3 + 5).toNat))] (bd L I R S) (fun y s => ∃ (y143 : Int) (I140 : mI) (R141 : mR) (S142 : mSh), y = oI y143 ∧ s = bd L I140 R141 S142 ∧ inR y143 ∧ ((0 ≤ x3 + 1 ∧ x3 + 1 < (L : Int)) ∧ ((0 ≤ x3 + 2 ∧ x3 + 2 < (L : Int)) ∧ ((0 ≤ x3 + 3 ∧ x3 + 3 < (L : Int)) ∧ ((0 ≤ x3 + 4 ∧ x3 + 4 < (L : Int)) ∧ ((0 ≤ x3 + 5 ∧ x3 + 5 < (L : Int)) ∧ (CallI d 232 [.ref 91, .int (oI (ld I140 0 (x3 + 1).toNat)), .int (oI (ld I140 0 (x3 + 2).toNat)), .int (oI (ld I140 0 (x3 + 3).toNat)), .int (oI (ld I140 0 (x3 + 4).toNat)), .int (oI (ld I140 0 (x3 + 5).toNat))] (bd L I140 R141 S142) (fun y s => ∃ (y152 : Int) (I149 : mI) (R150 : mR) (S151 : mSh), y = oI y152 ∧ s = bd L I149 R150 S151 ∧ inR y152 ∧ (((y143 = y152) → h341_1 (d + 1) L I149 R150 S151 Q (x3 + 7)) ∧ (¬ (y143 = y152) → Q (some (.int (oI 0))) (bd L I149 R150 S151))))))))))))))))) ∧ (iAnd (ld I 0 x3.toNat) 63 = 9 → (0 ≤ x3 + 1 ∧ x3 + 1 < (L : Int)) ∧ ((0 ≤ x3 + 2 ∧ x3 + 2 < (L : Int)) ∧ ((0 ≤ x3 + 3 ∧ x3 + 3 < (L : Int)) ∧ ((0 ≤ x3 + 4 ∧ x3 + 4 < (L : Int)) ∧ (CallI d 16 [.ref 8, .int (oI (ld I 0 (x3 + 1).toNat)), .int (oI (ld I 0 (x3 + 2).toNat)), .int (oI (ld I 0 (x3 + 3).toNat)), .int (oI (ld I 0 (x3 + 4).toNat))] (bd L I R S) (fun y s => ∃ (y162 : Int) (I159 : mI) (R160 : mR) (S161 : mSh), y = oI y162 ∧ s = bd L I159 R160 S161 ∧ inR y162 ∧ ((0 ≤ x3 + 1 ∧ x3 + 1 < (L : Int)) ∧ ((0 ≤ x3 + 2 ∧ x3 + 2 < (L : Int)) ∧ ((0 ≤ x3 + 3 ∧ x3 + 3 < (L : Int)) ∧ ((0 ≤ x3 + 4 ∧ x3 + 4 < (L : Int)) ∧ (CallI d 242 [.ref 91, .int (oI (ld I159 0 (x3 + 1).toNat)), .int (oI (ld I159 0 (x3 + 2).toNat)), .int (oI (ld I159 0 (x3 + 3).toNat)), .int (oI (ld I159 0 (x3 + 4).toNat))] (bd L I159 R160 S161) (fun y s => ∃ (y170 : Int) (I167 : mI) (R168 : mR) (S169 : mSh), y = oI y170 ∧ s = bd L I167 R168 S169 ∧ inR y170 ∧ (((y162 = y170) → h341_1 (d + 1) L I167 R168 S169 Q (x3 + 7)) ∧ (¬ (y162 = y170) → Q (some (.int (oI 0))) (bd L I167 R168 S169))))))))))))))) ∧ (iAnd (ld I 0 x3.toNat) 63 = 10 → (0 ≤ x3 + 1 ∧ x3 + 1 < (L : Int)) ∧ (CallI d 17 [.ref 8, .int (oI (ld I 0 (x3 + 1).toNat))] (bd L I R S) (fun y s => ∃ (y177 : Int) (I174 : mI) (R175 : mR) (S176 : mSh), y = oI y177 ∧ s = bd L I174 R175 S176 ∧ inR y177 ∧ ((0 ≤ x3 + 1 ∧ x3 + 1 < (L : Int)) ∧ (CallI d 243 [.ref 91, .int (oI (ld I174 0 (x3 + 1).toNat))] (bd L I174 R175 S176) (fun y s => ∃ (y182 : Int) (I179 : mI) (R180 : mR) (S181 : mSh), y = oI y182 ∧ s = bd L I179 R180 S181 ∧ inR y182 ∧ (((y177 = y182) → h341_1 (d + 1) L I179 R180 S181 Q (x3 + 7)) ∧ (¬ (y177 = y182) → Q (some (.int (oI 0))) (bd L I179 R180 S181))))))))) ∧ (iAnd (ld I 0 x3.toNat) 63 = 11 → (0 ≤ x3 + 1 ∧ x3 + 1 < (L : Int)) ∧ ((0 ≤ x3 + 2 ∧ x3 + 2 < (L : Int)) ∧ (CallI d 18 [.ref 8, .int (oI (ld I 0 (x3 + 1).toNat)), .int (oI (ld I 0 (x3 + 2).toNat))] (bd L I R S) (fun y s => ∃ (y190 : Int) (I187 : mI) (R188 : mR) (S189 : mSh), y = oI y190 ∧ s = bd L I187 R188 S189 ∧ inR y190 ∧ ((0 ≤ x3 + 1 ∧ x3 + 1 < (L : Int)) ∧ ((0 ≤ x3 + 2 ∧ x3 + 2 < (L : Int)) ∧ (CallI d 244 [.ref 91, .int (oI (ld I187 0 (x3 + 1).toNat)), .int (oI (ld I187 0 (x3 + 2).toNat))] (bd L I187 R188 S189) (fun y s => ∃ (y196 : Int) (I193 : mI) (R194 : mR) (S195 : mSh), y = oI y196 ∧ s = bd L I193 R194 S195 ∧ inR y196 ∧ (((y190 = y196) → h341_1 (d + 1) L I193 R194 S195 Q (x3 + 7)) ∧ (¬ (y190 = y196) → Q (some (.int (oI 0))) (bd L I193 R194 S195))))))))))) ∧ (iAnd (ld I 0 x3.toNat) 63 = 12 → (0 ≤ x3 + 1 ∧ x3 + 1 < (L : Int)) ∧ ((0 ≤ x3 + 2 ∧ x3 + 2 < (L : Int)) ∧ ((0 ≤ x3 + 3 ∧ x3 + 3 < (L : Int)) ∧ (CallI d 19 [.ref 8, .int (oI (ld I 0 (x3 + 1).toNat)), .int (oI (ld I 0 (x3 + 2).toNat)), .int (oI (ld I 0 (x3 + 3).toNat))] (bd L I R S) (fun y s => ∃ (y205 : Int) (I202 : mI) (R203 : mR) (S204 : mSh), y = oI y205 ∧ s = bd L I202 R203 S204 ∧ inR y205 ∧ ((0 ≤ x3 + 1 ∧ x3 + 1 < (L : Int)) ∧ ((0 ≤ x3 + 2 ∧ x3 + 2 < (L : Int)) ∧ ((0 ≤ x3 + 3 ∧ x3 + 3 < (L : Int)) ∧ (CallI d 245 [.ref 91, .int (oI (ld I202 0 (x3 + 1).toNat)), .int (oI (ld I202 0 (x3 + 2).toNat)), .int (oI (ld I202 0 (x3 + 3).toNat))] (bd L I202 R203 S204) (fun y s => ∃ (y212 : Int) (I209 : mI) (R210 : mR) (S211 : mSh), y = oI y212 ∧ s = bd L I209 R210 S211 ∧ inR y212 ∧ (((y205 = y212) → h341_1 (d + 1) L I209 R210 S211 Q (x3 + 7)) ∧ (¬ (y205 = y212) → Q (some (.int (oI 0))) (bd L I209 R210 S211))))))))))))) ∧ (iAnd (ld I 0 x3.toNat) 63 = 13 → (0 ≤ x3 + 1 ∧ x3 + 1 < (L : Int)) ∧ ((0 ≤ x3 + 2 ∧ x3 + 2 < (L : Int)) ∧ ((0 ≤ x3 + 3 ∧ x3 + 3 < (L : Int)) ∧ ((0 ≤ x3 + 4 ∧ x3 + 4 < (L : Int)) ∧ (CallI d 20 [.ref 8, .int (oI (ld I 0 (x3 + 1).toNat)), .int (oI (ld I 0 (x3 + 2).toNat)), .int (oI (ld I 0 (x3 + 3).toNat)), .int (oI (ld I 0 (x3 + 4).toNat))] (bd L I R S) (fun y s => ∃ (y222 : Int) (I219 : mI) (R220 : mR) (S221 : mSh), y = oI y222 ∧ s = bd L I219 R220 S221 ∧ inR y222 ∧ ((0 ≤ x3 + 1 ∧ x3 + 1 < (L : Int)) ∧ ((0 ≤ x3 + 2 ∧ x3 + 2 < (L : Int)) ∧ ((0 ≤ x3 + 3 ∧ x3 + 3 < (L : Int)) ∧ ((0 ≤ x3 + 4 ∧ x3 + 4 < (L : Int)) ∧ (CallI d 246 [.ref 91, .int (oI (ld I219 0 (x3 + 1).toNat)), .int (oI (ld I219 0 (x3 + 2).toNat)), .int (oI (ld I219 0 (x3 + 3).toNat)), .int (oI (ld I219 0 (x3 + 4).toNat))] (bd L I219 R220 S221) (fun y s => ∃ (y230 : Int) (I227 : mI) (R228 : mR) (S229 : mSh), y = oI y230 ∧ s = bd L I227 R228 S229 ∧ inR y230 ∧ (((y222 = y230) → h341_1 (d + 1) L I227 R228 S229 Q (x3 + 7)) ∧ (¬ (y222 = y230) → Q (some (.int (oI 0))) (bd L I227 R228 S229))))))))))))))) ∧ (iAnd (ld I 0 x3.toNat) 63 = 14 → (0 ≤ x3 + 1 ∧ x3 + 1 < (L : Int)) ∧ ((0 ≤ x3 + 2 ∧ x3 + 2 < (L : Int)) ∧ ((0 ≤ x3 + 3 ∧ x3 + 3 < (L : Int)) ∧ ((0 ≤ x3 + 4 ∧ x3 + 4 < (L : Int)) ∧ ((0 ≤ x3 + 5 ∧ x3 + 5 < (L : Int)) ∧ (CallI d 21 [.ref 8, .int (oI (ld I 0 (x3 + 1).toNat)), .int (oI (ld I 0 (x3 + 2).toNat)), .int (oI (ld I 0 (x3 + 3).toNat)), .int (oI (ld I 0 (x3 + 4).toNat)), .int (oI (ld I 0 (x3 + 5).toNat))] (bd L I R S) (fun y s => ∃ (y241 : Int) (I238 : mI) (R239 : mR) (S240 : mSh), y = oI y241 ∧ s = bd L I238 R239 S240 ∧ inR y241 ∧ ((0 ≤ x3 + 1 ∧ x3 + 1 < (L : Int)) ∧ ((0 ≤ x3 + 2 ∧ x3 + 2 < (L : Int)) ∧ ((0 ≤ x3 + 3 ∧ x3 + 3 < (L : Int)) ∧ ((0 ≤ x3 + 4 ∧ x3 + 4 < (L : Int)) ∧ ((0 ≤ x3 + 5 ∧ x3 + 5 < (L : Int)) ∧ (CallI d 248 [.ref 91, .int (oI (ld I238 0 (x3 + 1).toNat)), .int (oI (ld I238 0 (x3 + 2).toNat)), .int (oI (ld I238 0 (x3 + 3).toNat)), .int (oI (ld I238 0 (x3 + 4).toNat)), .int (oI (ld I238 0 (x3 + 5).toNat))] (bd L I238 R239 S240) (fun y s => ∃ (y250 : Int) (I247 : mI) (R248 : mR) (S249 : mSh), y = oI y250 ∧ s = bd L I247 R248 S249 ∧ inR y250 ∧ (((y241 = y250) → h341_1 (d + 1) L I247 R248 S249 Q (x3 + 7)) ∧ (¬ (y241 = y250) → Q (some (.int (oI 0))) (bd L I247 R248 S249))))))))))))))))) ∧ (iAnd (ld I 0 x3.toNat) 63 = 15 → (0 ≤ x3 + 1 ∧ x3 + 1 < (L : Int)) ∧ ((0 ≤ x3 + 2 ∧ x3 + 2 < (L : Int)) ∧ ((0 ≤ x3 + 3 ∧ x3 + 3 < (L : Int)) ∧ ((0 ≤ x3 + 4 ∧ x3 + 4 < (L : Int)) ∧ (CallI d 23 [.ref 8, .int (oI (ld I 0 (x3 + 1).toNat)), .int (oI (ld I 0 (x3 + 2).toNat)), .int (oI (ld I 0 (x3 + 3).toNat)), .int (oI (ld I 0 (x3 + 4).toNat))] (bd L I R S) (fun y s => ∃ (y260 : Int) (I257 : mI) (R258 : mR) (S259 : mSh), y = oI y260 ∧ s = bd L I257 R258 S259 ∧ inR y260 ∧ ((0 ≤ x3 + 1 ∧ x3 + 1 < (L : Int)) ∧ ((0 ≤ x3 + 2 ∧ x3 + 2 < (L : Int)) ∧ ((0 ≤ x3 + 3 ∧ x3 + 3 < (L : Int)) ∧ ((0 ≤ x3 + 4 ∧ x3 + 4 < (L : Int)) ∧ (CallI d 255 [.ref 91, .int (oI (ld I257 0 (x3 + 1).toNat)), .int (oI (ld I257 0 (x3 + 2).toNat)), .int (oI (ld I257 0 (x3 + 3).toNat)), .int (oI (ld I257 0 (x3 + 4).toNat))] (bd L I257 R258 S259) (fun y s => ∃ (y268 : Int) (I265 : mI) (R266 : mR) (S267 : mSh), y = oI y268 ∧ s = bd L I265 R266 S267 ∧ inR y268 ∧ (((y260 = y268) → h341_1 (d + 1) L I265 R266 S267 Q (x3 + 7)) ∧ (¬ (y260 = y268) → Q (some (.int (oI 0))) (bd L I265 R266 S267))))))))))))))) ∧ (iAnd (ld I 0 x3.toNat) 63 = 16 → (0 ≤ x3 + 1 ∧ x3 + 1 < (L : Int)) ∧ ((0 ≤ x3 + 2 ∧ x3 + 2 < (L : Int)) ∧ ((0 ≤ x3 + 3 ∧ x3 + 3 < (L : Int)) ∧ (CallI d 24 [.ref 8, .int (oI (ld I 0 (x3 + 1).toNat)), .int (oI (ld I 0 (x3 + 2).toNat)), .int (oI (ld I 0 (x3 + 3).toNat))] (bd L I R S) (fun y s => ∃ (y277 : Int) (I274 : mI) (R275 : mR) (S276 : mSh), y = oI y277 ∧ s = bd L I274 R275 S276 ∧ inR y277 ∧ ((0 ≤ x3 + 1 ∧ x3 + 1 < (L : Int)) ∧ ((0 ≤ x3 + 2 ∧ x3 + 2 < (L : Int)) ∧ ((0 ≤ x3 + 3 ∧ x3 + 3 < (L : Int)) ∧ (CallI d 257 [.ref 91, .int (oI (ld I274 0 (x3 + 1).toNat)), .int (oI (ld I274 0 (x3 + 2).toNat)), .int (oI (ld I274 0 (x3 + 3).toNat))] (bd L I274 R275 S276) (fun y s => ∃ (y284 : Int) (I281 : mI) (R282 : mR) (S283 : mSh), y = oI y284 ∧ s = bd L I281 R282 S283 ∧ inR y284 ∧ (((y277 = y284) → h341_1 (d + 1) L I281 R282 S283 Q (x3 + 7)) ∧ (¬ (y277 = y284) → Q (some (.int (oI 0))) (bd L I281 R282 S283))))))))))))) ∧ (iAnd (ld I 0 x3.toNat) 63 = 17 → (0 ≤ x3 + 1 ∧ x3 + 1 < (L : Int)) ∧ ((0 ≤ x3 + 2 ∧ x3 + 2 < (L : Int)) ∧ ((0 ≤ x3 + 3 ∧ x3 + 3 < (L : Int)) ∧ ((0 ≤ x3 + 4 ∧ x3 + 4 < (L : Int)) ∧ (CallI d 25 [.ref 8, .int (oI (ld I 0 (x3 + 1).toNat)), .int (oI (ld I 0 (x3 + 2).toNat)), .int (oI (ld I 0 (x3 + 3).toNat)), .int (oI (ld I 0 (x3 + 4).toNat))] (bd L I R S) (fun y s => ∃ (y294 : Int) (I291 : mI) (R292 : mR) (S293 : mSh), y = oI y294 ∧ s = bd L I291 R292 S293 ∧ inR y294 ∧ ((0 ≤ x3 + 1 ∧ x3 + 1 < (L : Int)) ∧ ((0 ≤ x3 + 2 ∧ x3 + 2 < (L : Int)) ∧ ((0 ≤ x3 + 3 ∧ x3 + 3 < (L : Int)) ∧ ((0 ≤ x3 + 4 ∧ x3 + 4 < (L : Int)) ∧ (CallI d 258 [.ref 91, .int (oI (ld I291 0 (x3 + 1).toNat)), .int (oI (ld I291 0 (x3 + 2).toNat)), .int (oI (ld I291 0 (x3 + 3).toNat)), .int (oI (ld I291 0 (x3 + 4).toNat))] (bd L I291 R292 S293) (fun y s => ∃ (y302 : Int) (I299 : mI) (R300 : mR) (S301 : mSh), y = oI y302 ∧ s = bd L I299 R300 S301 ∧ inR y302 ∧ (((y294 = y302) → h341_1 (d + 1) L I299 R300 S301 Q (x3 + 7)) ∧ (¬ (y294 = y302) → Q (some (.int (oI 0))) (bd L I299 R300 S301))))))))))))))) ∧ (iAnd (ld I 0 x3.toNat) 63 = 18 → (0 ≤ x3 + 1 ∧ x3 + 1 < (L : Int)) ∧ ((0 ≤ x3 + 2 ∧ x3 + 2 < (L : Int)) ∧ ((0 ≤ x3 + 3 ∧ x3 + 3 < (L : Int)) ∧ ((0 ≤ x3 + 4 ∧ x3 + 4 < (L : Int)) ∧ ((0 ≤ x3 + 5 ∧ x3 + 5 < (L : Int)) ∧ (CallI d 26 [.ref 8, .int (oI (ld I 0 (x3 + 1).toNat)), .int (oI (ld I 0 (x3 + 2).toNat)), .int (oI (ld I 0 (x3 + 3).toNat)), .int (oI (ld I 0 (x3 + 4).toNat)), .int (oI (ld I 0 (x3 + 5).toNat))] (bd L I R S) (fun y s => ∃ (y313 : Int) (I310 : mI) (R311 : mR) (S312 : mSh), y = oI y313 ∧ s = bd L I310 R311 S312 ∧ inR y313 ∧ ((0 ≤ x3 + 1 ∧ x3 + 1 < (L : Int)) ∧ ((0 ≤ x3 + 2 ∧ x3 + 2 < (L : Int)) ∧ ((0 ≤ x3 + 3 ∧ x3 + 3 < (L : Int)) ∧ ((0 ≤ x3 + 4 ∧ x3 + 4 < (L : Int)) ∧ ((0 ≤ x3 + 5 ∧ x3 + 5 < (L : Int)) ∧ (CallI d 259 [.ref 91, .int (oI (ld I310 0 (x3 + 1).toNat)), .int (oI (ld I310 0 (x3 + 2).toNat)), .int (oI (ld I310 0 (x3 + 3).toNat)), .int (oI (ld I310 0 (x3 + 4).toNat)), .int (oI (ld I310 0 (x3 + 5).toNat))] (bd L I310 R311 S312) (fun y s => ∃ (y322 : Int) (I319 : mI) (R320 : mR) (S321 : mSh), y = oI y322 ∧ s = bd L I319 R320 S321 ∧ inR y322 ∧ (((y313 = y322) → h341_1 (d + 1) L I319 R320 S321 Q (x3 + 7)) ∧ (¬ (y313 = y322) → Q (some (.int (oI 0))) (bd L I319 R320 S321))))))))))))))))) ∧ (iAnd (ld I 0 x3.toNat) 63 = 19 → (0 ≤ x3 + 1 ∧ x3 + 1 < (L : Int)) ∧ ((0 ≤ x3 + 2 ∧ x3 + 2 < (L : Int)) ∧ ((0 ≤ x3 + 3 ∧ x3 + 3 < (L : Int)) ∧ ((0 ≤ x3 + 4 ∧ x3 + 4 < (L : Int)) ∧ ((0 ≤ x3 + 5 ∧ x3 + 5 < (L : Int)) ∧ ((0 ≤ x3 + 6 ∧ x3 + 6 < (L : Int)) ∧ (CallI d 28 [.ref 8, .int (oI (ld I 0 (x3 + 1).toNat)), .int (oI (ld I 0 (x3 + 2).toNat)), .int (oI (ld I 0 (x3 + 3).toNat)), .int (oI (ld I 0 (x3 + 4).toNat)), .int (oI (ld I 0 (x3 + 5).toNat)), .int (oI (ld I 0 (x3 + 6).toNat))] (bd L I R S) (fun y s => ∃ (y334 : Int) (I331 : mI) (R332 : mR) (S333 : mSh), y = oI y334 ∧ s = bd L I331 R332 S333 ∧ inR y334 ∧ ((0 ≤ x3 + 1 ∧ x3 + 1 < (L : Int)) ∧ ((0 ≤ x3 + 2 ∧ x3 + 2 < (L : Int)) ∧ ((0 ≤ x3 + 3 ∧ x3 + 3 < (L : Int)) ∧ ((0 ≤ x3 + 4 ∧ x3 + 4 < (L : Int)) ∧ ((0 ≤ x3 + 5 ∧ x3 + 5 < (L : Int)) ∧ ((0 ≤ x3 + 6 ∧ x3 + 6 < (L : Int)) ∧ (CallI d 265 [.ref 91, .int (oI (ld I331 0 (x3 + 1).toNat)), .int (oI (ld I331 0 (x3 + 2).toNat)), .int (oI (ld I331 0 (x3 + 3).toNat)), .int (oI (ld I331 0 (x3 + 4).toNat)), .int (oI (ld I331 0 (x3 + 5).toNat)), .int (oI (ld I331 0 (x3 + 6).toNat))] (bd L I331 R332 S333) (fun y s => ∃ (y344 : Int) (I341 : mI) (R342 : mR) (S343 : mSh), y = oI y344 ∧ s = bd L I341 R342 S343 ∧ inR y344 ∧ (((y334 = y344) → h341_1 (d + 1) L I341 R342 S343 Q (x3 + 7)) ∧ (¬ (y334 = y344) → Q (some (.int (oI 0))) (bd L I341 R342 S343))))))))))))))))))) ∧ (iAnd (ld I 0 x3.toNat) 63 = 20 → (0 ≤ x3 + 1 ∧ x3 + 1 < (L : Int)) ∧ ((0 ≤ x3 + 2 ∧ x3 + 2 < (L : Int)) ∧ ((0 ≤ x3 + 3 ∧ x3 + 3 < (L : Int)) ∧ (CallI d 29 [.ref 8, .int (oI (ld I 0 (x3 + 1).toNat)), .int (oI (ld I 0 (x3 + 2).toNat)), .int (oI (ld I 0 (x3 + 3).toNat))] (bd L I R S) (fun y s => ∃ (y353 : Int) (I350 : mI) (R351 : mR) (S352 : mSh), y = oI y353 ∧ s = bd L I350 R351 S352 ∧ inR y353 ∧ ((0 ≤ x3 + 1 ∧ x3 + 1 < (L : Int)) ∧ ((0 ≤ x3 + 2 ∧ x3 + 2 < (L : Int)) ∧ ((0 ≤ x3 + 3 ∧ x3 + 3 < (L : Int)) ∧ (CallI d 266 [.ref 91, .int (oI (ld I350 0 (x3 + 1).toNat)), .int (oI (ld I350 0 (x3 + 2).toNat)), .int (oI (ld I350 0 (x3 + 3).toNat))] (bd L I350 R351 S352) (fun y s => ∃ (y360 : Int) (I357 : mI) (R358 : mR) (S359 : mSh), y = oI y360 ∧ s = bd L I357 R358 S359 ∧ inR y360 ∧ (((y353 = y360) → h341_1 (d + 1) L I357 R358 S359 Q (x3 + 7)) ∧ (¬ (y353 = y360) → Q (some (.int (oI 0))) (bd L I357 R358 S359))))))))))))) ∧ (iAnd (ld I 0 x3.toNat) 63 = 21 → (0 ≤ x3 + 1 ∧ x3 + 1 < (L : Int)) ∧ ((0 ≤ x3 + 2 ∧ x3 + 2 < (L : Int)) ∧ (CallI d 30 [.ref 8, .int (oI (ld I 0 (x3 + 1).toNat)), .int (oI (ld I 0 (x3 + 2).toNat))] (bd L I R S) (fun y s => ∃ (y368 : Int) (I365 : mI) (R366 : mR) (S367 : mSh), y = oI y368 ∧ s = bd L I365 R366 S367 ∧ inR y368 ∧ ((0 ≤ x3 + 1 ∧ x3 + 1 < (L : Int)) ∧ ((0 ≤ x3 + 2 ∧ x3 + 2 < (L : Int)) ∧ (CallI d 269 [.ref 91, .int (oI (ld I365 0 (x3 + 1).toNat)), .int (oI (ld I365 0 (x3 + 2).toNat))] (bd L I365 R366 S367) (fun y s => ∃ (y374 : Int) (I371 : mI) (R372 : mR) (S373 : mSh), y = oI y374 ∧ s = bd L I371 R372 S373 ∧ inR y374 ∧ (((y368 = y374) → h341_1 (d + 1) L I371 R372 S373 Q (x3 + 7)) ∧ (¬ (y368 = y374) → Q (some (.int (oI 0))) (bd L I371 R372 S373))))))))))) ∧ (iAnd (ld I 0 x3.toNat) 63 = 22 → (0 ≤ x3 + 1 ∧ x3 + 1 < (L : Int)) ∧ ((0 ≤ x3 + 2 ∧ x3 + 2 < (L : Int)) ∧ (CallI d 31 [.ref 8, .int (oI (ld I 0 (x3 + 1).toNat)), .int (oI (ld I 0 (x3 + 2).toNat))] (bd L I R S) (fun y s => ∃ (y382 : Int) (I379 : mI) (R380 : mR) (S381 : mSh), y = oI y382 ∧ s = bd L I379 R380 S381 ∧ inR y382 ∧ ((0 ≤ x3 + 1 ∧ x3 + 1 < (L : Int)) ∧ ((0 ≤ x3 + 2 ∧ x3 + 2 < (L : Int)) ∧ (CallI d 270 [.ref 91, .int (oI (ld I379 0 (x3 + 1).toNat)), .int (oI (ld I379 0 (x3 + 2).toNat))] (bd L I379 R380 S381) (fun y s => ∃ (y388 : Int) (I385 : mI) (R386 : mR) (S387 : mSh), y = oI y388 ∧ s = bd L I385 R386 S387 ∧ inR y388 ∧ (((y382 = y388) → h341_1 (d + 1) L I385 R386 S387 Q (x3 + 7)) ∧ (¬ (y382 = y388) → Q (some (.int (oI 0))) (bd L I385 R386 S387))))))))))) ∧ (iAnd (ld I 0 x3.toNat) 63 = 23 → (0 ≤ x3 + 1 ∧ x3 + 1 < (L : Int)) ∧ (CallI d 32 [.ref 8, .int (oI (ld I 0 (x3 + 1).toNat))] (bd L I R S) (fun y s => ∃ (y395 : Int) (I392 : mI) (R393 : mR) (S394 : mSh), y = oI y395 ∧ s = bd L I392 R393 S394 ∧ inR y395 ∧ ((0 ≤ x3 + 1 ∧ x3 + 1 < (L : Int)) ∧ (CallI d 271 [.ref 91, .int (oI (ld I392 0 (x3 + 1).toNat))] (bd L I392 R393 S394) (fun y s => ∃ (y400 : Int) (I397 : mI) (R398 : mR) (S399 : mSh), y = oI y400 ∧ s = bd L I397 R398 S399 ∧ inR y400 ∧ (((y395 = y400) → h341_1 (d + 1) L I397 R398 S399 Q (x3 + 7)) ∧ (¬ (y395 = y400) → Q (some (.int (oI 0))) (bd L I397 R398 S399))))))))) ∧ (iAnd (ld I 0 x3.toNat) 63 = 24 → (0 ≤ x3 + 1 ∧ x3 + 1 < (L : Int)) ∧ ((0 ≤ x3 + 2 ∧ x3 + 2 < (L : Int)) ∧ ((0 ≤ x3 + 3 ∧ x3 + 3 < (L : Int)) ∧ (CallI d 33 [.ref 8, .int (oI (ld I 0 (x3 + 1).toNat)), .int (oI (ld I 0 (x3 + 2).toNat)), .int (oI (ld I 0 (x3 + 3).toNat))] (bd L I R S) (fun y s => ∃ (y409 : Int) (I406 : mI) (R407 : mR) (S408 : mSh), y = oI y409 ∧ s = bd L I406 R407 S408 ∧ inR y409 ∧ ((0 ≤ x3 + 1 ∧ x3 + 1 < (L : Int)) ∧ ((0 ≤ x3 + 2 ∧ x3 + 2 < (L : Int)) ∧ ((0 ≤ x3 + 3 ∧ x3 + 3 < (L : Int)) ∧ (CallI d 272 [.ref 91, .int (oI (ld I406 0 (x3 + 1).toNat)), .int (oI (ld I406 0 (x3 + 2).toNat)), .int (oI (ld I406 0 (x3 + 3).toNat))] (bd L I406 R407 S408) (fun y s => ∃ (y416 : Int) (I413 : mI) (R414 : mR) (S415 : mSh), y = oI y416 ∧ s = bd L I413 R414 S415 ∧ inR y416 ∧ (((y409 = y416) → h341_1 (d + 1) L I413 R414 S415 Q (x3 + 7)) ∧ (¬ (y409 = y416) → Q (some (.int (oI 0))) (bd L I413 R414 S415))))))))))))) ∧ (iAnd (ld I 0 x3.toNat) 63 = 25 → (0 ≤ x3 + 1 ∧ x3 + 1 < (L : Int)) ∧ ((0 ≤ x3 + 2 ∧ x3 + 2 < (L : Int)) ∧ ((0 ≤ x3 + 3 ∧ x3 + 3 < (L : Int)) ∧ (CallI d 35 [.ref 8, .int (oI (ld I 0 (x3 + 1).toNat)), .int (oI (ld I 0 (x3 + 2).toNat)), .int (oI (ld I 0 (x3 + 3).toNat))] (bd L I R S) (fun y s => ∃ (y425 : Int) (I422 : mI) (R423 : mR) (S424 : mSh), y = oI y425 ∧ s = bd L I422 R423 S424 ∧ inR y425 ∧ ((0 ≤ x3 + 1 ∧ x3 + 1 < (L : Int)) ∧ ((0 ≤ x3 + 2 ∧ x3 + 2 < (L : Int)) ∧ ((0 ≤ x3 + 3 ∧ x3 + 3 < (L : Int)) ∧ (CallI d 273 [.ref 91, .int (oI (ld I422 0 (x3 + 1).toNat)), .int (oI (ld I422 0 (x3 + 2).toNat)), .int (oI (ld I422 0 (x3 + 3).toNat))] (bd L I422 R423 S424) (fun y s => ∃ (y432 : Int) (I429 : mI) (R430 : mR) (S431 : mSh), y = oI y432 ∧ s = bd L I429 R430 S431 ∧ inR y432 ∧ (((y425 = y432) → h341_1 (d + 1) L I429 R430 S431 Q (x3 + 7)) ∧ (¬ (y425 = y432) → Q (some (.int (oI 0))) (bd L I429 R430 S431))))))))))))) ∧ (iAnd (ld I 0 x3.toNat) 63 = 26 → (0 ≤ x3 + 1 ∧ x3 + 1 < (L : Int)) ∧ ((0 ≤ x3 + 2 ∧ x3 + 2 < (L : Int)) ∧ ((0 ≤ x3 + 3 ∧ x3 + 3 < (L : Int)) ∧ ((0 ≤ x3 + 4 ∧ x3 + 4 < (L : Int)) ∧ ((0 ≤ x3 + 5 ∧ x3 + 5 < (L : Int)) ∧ (CallI d 37 [.ref 8, .int (oI (ld I 0 (x3 + 1).toNat)), .int (oI (ld I 0 (x3 + 2).toNat)), .int (oI (ld I 0 (x3 + 3).toNat)), .int (oI (ld I 0 (x3 + 4).toNat)), .int (oI (ld I 0 (x3 + 5).toNat))] (bd L I R S) (fun y s => ∃ (y443 : Int) (I440 : mI) (R441 : mR) (S442 : mSh), y = oI y443 ∧ s = bd L I440 R441 S442 ∧ inR y443 ∧ ((0 ≤ x3 + 1 ∧ x3 + 1 < (L : Int)) ∧ ((0 ≤ x3 + 2 ∧ x3 + 2 < (L : Int)) ∧ ((0 ≤ x3 + 3 ∧ x3 + 3 < (L : Int)) ∧ ((0 ≤ x3 + 4 ∧ x3 + 4 < (L : Int)) ∧ ((0 ≤ x3 + 5 ∧ x3 + 5 < (L : Int)) ∧ (CallI d 299 [.ref 91, .int (oI (ld I440 0 (x3 + 1).toNat)), .int (oI (ld I440 0 (x3 + 2).toNat)), .int (oI (ld I440 0 (x3 + 3).toNat)), .int (oI (ld I440 0 (x3 + 4).toNat)), .int (oI (ld I440 0 (x3 + 5).toNat))] (bd L I440 R441 S442) (fun y s => ∃ (y452 : Int) (I449 : mI) (R450 : mR) (S451 : mSh), y = oI y452 ∧ s = bd L I449 R450 S451 ∧ inR y452 ∧ (((y443 = y452) → h341_1 (d + 1) L I449 R450 S451 Q (x3 + 7)) ∧ (¬ (y443 = y452) → Q (some (.int (oI 0))) (bd L I449 R450 S451))))))))))))))))) ∧ (iAnd (ld I 0 x3.toNat) 63 = 27 → (0 ≤ x3 + 1 ∧ x3 + 1 < (L : Int)) ∧ ((0 ≤ x3 + 2 ∧ x3 + 2 < (L : Int)) ∧ (CallI d 38 [.ref 8, .int (oI (ld I 0 (x3 + 1).toNat)), .int (oI (ld I 0 (x3 + 2).toNat))] (bd L I R S) (fun y s => ∃ (y460 : Int) (I457 : mI) (R458 : mR) (S459 : mSh), y = oI y460 ∧ s = bd L I457 R458 S459 ∧ inR y460 ∧ ((0 ≤ x3 + 1 ∧ x3 + 1 < (L : Int)) ∧ ((0 ≤ x3 + 2 ∧ x3 + 2 < (L : Int)) ∧ (CallI d 301 [.ref 91, .int (oI (ld I457 0 (x3 + 1).toNat)), .int (oI (ld I457 0 (x3 + 2).toNat))] (bd L I457 R458 S459) (fun y s => ∃ (y466 : Int) (I463 : mI) (R464 : mR) (S465 : mSh), y = oI y466 ∧ s = bd L I463 R464 S465 ∧ inR y466 ∧ (((y460 = y466) → h341_1 (d + 1) L I463 R464 S465 Q (x3 + 7)) ∧ (¬ (y460 = y466) → Q (some (.int (oI 0))) (bd L I463 R464 S465))))))))))) ∧ (iAnd (ld I 0 x3.toNat) 63 = 28 → CallI d 44 [.ref 8] (bd L I R S) (fun y s => ∃ (y472 : Int) (I469 : mI) (R470 : mR) (S471 : mSh), y = oI y472 ∧ s = bd L I469 R470 S471 ∧ inR y472 ∧ (CallI d 319 [.ref 91] (bd L I469 R470 S471) (fun y s => ∃ (y476 : Int) (I473 : mI) (R474 : mR) (S475 : mSh), y = oI y476 ∧ s = bd L I473 R474 S475 ∧ inR y476 ∧ (((y472 = y476) → h341_1 (d + 1) L I473 R474 S475 Q (x3 + 7)) ∧ (¬ (y472 = y476) → Q (some (.int (oI 0))) (bd L I473 R474 S475))))))) ∧ (iAnd (ld I 0 x3.toNat) 63 = 29 → (0 ≤ x3 + 1 ∧ x3 + 1 < (L : Int)) ∧ ((0 ≤ x3 + 2 ∧ x3 + 2 < (L : Int)) ∧ (CallI d 45 [.ref 8, .int (oI (ld I 0 (x3 + 1).toNat)), .int (oI (ld I 0 (x3 + 2).toNat))] (bd L I R S) (fun y s => ∃ (y484 : Int) (I481 : mI) (R482 : mR) (S483 : mSh), y = oI y484 ∧ s = bd L I481 R482 S483 ∧ inR y484 ∧ ((0 ≤ x3 + 1 ∧ x3 + 1 < (L : Int)) ∧ ((0 ≤ x3 + 2 ∧ x3 + 2 < (L : Int)) ∧ (CallI d 321 [.ref 91, .int (oI (ld I481 0 (x3 + 1).toNat)), .int (oI (ld I481 0 (x3 + 2).toNat))] (bd L I481 R482 S483) (fun y s => ∃ (y490 : Int) (I487 : mI) (R488 : mR) (S489 : mSh), y = oI y490 ∧ s = bd L I487 R488 S489 ∧ inR y490 ∧ (((y484 = y490) → h341_1 (d + 1) L I487 R488 S489 Q (x3 + 7)) ∧ (¬ (y484 = y490) → Q (some (.int (oI 0))) (bd L I487 R488 S489))))))))))) ∧ (iAnd (ld I 0 x3.toNat) 63 = 30 → (0 ≤ x3 + 1 ∧ x3 + 1 < (L : Int)) ∧ ((0 ≤ x3 + 2 ∧ x3 + 2 < (L : Int)) ∧ ((0 ≤ x3 + 3 ∧ x3 + 3 < (L : Int)) ∧ (CallI d 46 [.ref 8, .int (oI (ld I 0 (x3 + 1).toNat)), .int (oI (ld I 0 (x3 + 2).toNat)), .int (oI (ld I 0 (x3 + 3).toNat))] (bd L I R S) (fun y s => ∃ (y499 : Int) (I496 : mI) (R497 : mR) (S498 : mSh), y = oI y499 ∧ s = bd L I496 R497 S498 ∧ inR y499 ∧ ((0 ≤ x3 + 1 ∧ x3 + 1 < (L : Int)) ∧ ((0 ≤ x3 + 2 ∧ x3 + 2 < (L : Int)) ∧ ((0 ≤ x3 + 3 ∧ x3 + 3 < (L : Int)) ∧ (CallI d 320 [.ref 91, .int (oI (ld I496 0 (x3 + 1).toNat)), .int (oI (ld I496 0 (x3 + 2).toNat)), .int (oI (ld I496 0 (x3 + 3).toNat))] (bd L I496 R497 S498) (fun y s => ∃ (y506 : Int) (I503 : mI) (R504 : mR) (S505 : mSh), y = oI y506 ∧ s = bd L I503 R504 S505 ∧ inR y506 ∧ (((y499 = y506) → h341_1 (d + 1) L I503 R504 S505 Q (x3 + 7)) ∧ (¬ (y499 = y506) → Q (some (.int (oI 0))) (bd L I503 R504 S505))))))))))))) ∧ (iAnd (ld I 0 x3.toNat) 63 = 31 → (0 ≤ x3 + 1 ∧ x3 + 1 < (L : Int)) ∧ ((0 ≤ x3 + 2 ∧ x3 + 2 < (L : Int)) ∧ ((0 ≤ x3 + 3 ∧ x3 + 3 < (L : Int)) ∧ (CallI d 47 [.ref 8, .int (oI (ld I 0 (x3 + 1).toNat)), .int (oI (ld I 0 (x3 + 2).toNat)), .int (oI (ld I 0 (x3 + 3).toNat))] (bd L I R S) (fun y s => ∃ (y515 : Int) (I512 : mI) (R513 : mR) (S514 : mSh), y = oI y515 ∧ s = bd L I512 R513 S514 ∧ inR y515 ∧ ((0 ≤ x3 + 1 ∧ x3 + 1 < (L : Int)) ∧ ((0 ≤ x3 + 2 ∧ x3 + 2 < (L : Int)) ∧ ((0 ≤ x3 + 3 ∧ x3 + 3 < (L : Int)) ∧ (CallI d 275 [.ref 91, .int (oI (ld I512 0 (x3 + 1).toNat)), .int (oI (ld I512 0 (x3 + 2).toNat)), .int (oI (ld I512 0 (x3 + 3).toNat))] (bd L I512 R513 S514) (fun y s => ∃ (y522 : Int) (I519 : mI) (R520 : mR) (S521 : mSh), y = oI y522 ∧ s = bd L I519 R520 S521 ∧ inR y522 ∧ (((y515 = y522) → h341_1 (d + 1) L I519 R520 S521 Q (x3 + 7)) ∧ (¬ (y515 = y522) → Q (some (.int (oI 0))) (bd L I519 R520 S521))))))))))))) ∧ (iAnd (ld I 0 x3.toNat) 63 = 32 → (0 ≤ x3 + 1 ∧ x3 + 1 < (L : Int)) ∧ ((0 ≤ x3 + 2 ∧ x3 + 2 < (L : Int)) ∧ ((0 ≤ x3 + 3 ∧ x3 + 3 < (L : Int)) ∧ (CallI d 48 [.ref 8, .int (oI (ld I 0 (x3 + 1).toNat)), .int (oI (ld I 0 (x3 + 2).toNat)), .int (oI (ld I 0 (x3 + 3).toNat))] (bd L I R S) (fun y s => ∃ (y531 : Int) (I528 : mI) (R529 : mR) (S530 : mSh), y = oI y531 ∧ s = bd L I528 R529 S530 ∧ inR y531 ∧ ((0 ≤ x3 + 1 ∧ x3 + 1 < (L : Int)) ∧ ((0 ≤ x3 + 2 ∧ x3 + 2 < (L : Int)) ∧ ((0 ≤ x3 + 3 ∧ x3 + 3 < (L : Int)) ∧ (CallI d 276 [.ref 91, .int (oI (ld I528 0 (x3 + 1).toNat)), .int (oI (ld I528 0 (x3 + 2).toNat)), .int (oI (ld I528 0 (x3 + 3).toNat))] (bd L I528 R529 S530) (fun y s => ∃ (y538 : Int) (I535 : mI) (R536 : mR) (S537 : mSh), y = oI y538 ∧ s = bd L I535 R536 S537 ∧ inR y538 ∧ (((y531 = y538) → h341_1 (d + 1) L I535 R536 S537 Q (x3 + 7)) ∧ (¬ (y531 = y538) → Q (some (.int (oI 0))) (bd L I535 R536 S537))))))))))))) ∧ (iAnd (ld I 0 x3.toNat) 63 = 33 → (0 ≤ x3 + 1 ∧ x3 + 1 < (L : Int)) ∧ ((0 ≤ x3 + 2 ∧ x3 + 2 < (L : Int)) ∧ (CallI d 49 [.ref 8, .int (oI (ld I 0 (x3 + 1).toNat)), .int (oI (ld I 0 (x3 + 2).toNat))] (bd L I R S) (fun y s => ∃ (y546 : Int) (I543 : mI) (R544 : mR) (S545 : mSh), y = oI y546 ∧ s = bd L I543 R544 S545 ∧ inR y546 ∧ ((0 ≤ x3 + 1 ∧ x3 + 1 < (L : Int)) ∧ ((0 ≤ x3 + 2 ∧ x3 + 2 < (L : Int)) ∧ (CallI d 281 [.ref 91, .int (oI (ld I543 0 (x3 + 1).toNat)), .int (oI (ld I543 0 (x3 + 2).toNat))] (bd L I543 R544 S545) (fun y s => ∃ (y552 : Int) (I549 : mI) (R550 : mR) (S551 : mSh), y = oI y552 ∧ s = bd L I549 R550 S551 ∧ inR y552 ∧ (((y546 = y552) → h341_1 (d + 1) L I549 R550 S551 Q (x3 + 7)) ∧ (¬ (y546 = y552) → Q (some (.int (oI 0))) (bd L I549 R550 S551))))))))))) ∧ (iAnd (ld I 0 x3.toNat) 63 = 34 → (0 ≤ x3 + 1 ∧ x3 + 1 < (L : Int)) ∧ ((0 ≤ x3 + 2 ∧ x3 + 2 < (L : Int)) ∧ (CallI d 50 [.ref 8, .int (oI (ld I 0 (x3 + 1).toNat)), .int (oI (ld I 0 (x3 + 2).toNat))] (bd L I R S) (fun y s => ∃ (y560 : Int) (I557 : mI) (R558 : mR) (S559 : mSh), y = oI y560 ∧ s = bd L I557 R558 S559 ∧ inR y560 ∧ ((0 ≤ x3 + 1 ∧ x3 + 1 < (L : Int)) ∧ ((0 ≤ x3 + 2 ∧ x3 + 2 < (L : Int)) ∧ (CallI d 283 [.ref 91, .int (oI (ld I557 0 (x3 + 1).toNat)), .int (oI (ld I557 0 (x3 + 2).toNat))] (bd L I557 R558 S559) (fun y s => ∃ (y566 : Int) (I563 : mI) (R564 : mR) (S565 : mSh), y = oI y566 ∧ s = bd L I563 R564 S565 ∧ inR y566 ∧ (((y560 = y566) → h341_1 (d + 1) L I563 R564 S565 Q (x3 + 7)) ∧ (¬ (y560 = y566) → Q (some (.int (oI 0))) (bd L I563 R564 S565))))))))))) ∧ (iAnd (ld I 0 x3.toNat) 63 = 35 → (0 ≤ x3 + 1 ∧ x3 + 1 < (L : Int)) ∧ ((0 ≤ x3 + 2 ∧ x3 + 2 < (L : Int)) ∧ (CallI d 51 [.ref 8, .int (oI (ld I 0 (x3 + 1).toNat)), .int (oI (ld I 0 (x3 + 2).toNat))] (bd L I R S) (fun y s => ∃ (y574 : Int) (I571 : mI) (R572 : mR) (S573 : mSh), y = oI y574 ∧ s = bd L I571 R572 S573 ∧ inR y574 ∧ ((0 ≤ x3 + 1 ∧ x3 + 1 < (L : Int)) ∧ ((0 ≤ x3 + 2 ∧ x3 + 2 < (L : Int)) ∧ (CallI d 284 [.ref 91, .int (oI (ld I571 0 (x3 + 1).toNat)), .int (oI (ld I571 0 (x3 + 2).toNat))] (bd L I571 R572 S573) (fun y s => ∃ (y580 : Int) (I577 : mI) (R578 : mR) (S579 : mSh), y = oI y580 ∧ s = bd L I577 R578 S579 ∧ inR y580 ∧ (((y574 = y580) → h341_1 (d + 1) L I577 R578 S579 Q (x3 + 7)) ∧ (¬ (y574 = y580) → Q (some (.int (oI 0))) (bd L I577 R578 S579))))))))))) ∧ (iAnd (ld I 0 x3.toNat) 63 = 36 → (0 ≤ x3 + 1 ∧ x3 + 1 < (L : Int)) ∧ (CallI d 52 [.ref 8, .int (oI (ld I 0 (x3 + 1).toNat))] (bd L I R S) (fun y s => ∃ (y587 : Int) (I584 : mI) (R585 : mR) (S586 : mSh), y = oI y587 ∧ s = bd L I584 R585 S586 ∧ inR y587 ∧ ((0 ≤ x3 + 1 ∧ x3 + 1 < (L : Int)) ∧ (CallI d 286 [.ref 91, .int (oI (ld I584 0 (x3 + 1).toNat))] (bd L I584 R585 S586) (fun y s => ∃ (y592 : Int) (I589 : mI) (R590 : mR) (S591 : mSh), y = oI y592 ∧ s = bd L I589 R590 S591 ∧ inR y592 ∧ (((y587 = y592) → h341_1 (d + 1) L I589 R590 S591 Q (x3 + 7)) ∧ (¬ (y587 = y592) → Q (some (.int (oI 0))) (bd L I589 R590 S591))))))))) ∧ (iAnd (ld I 0 x3.toNat) 63 = 37 → (0 ≤ x3 + 1 ∧ x3 + 1 < (L : Int)) ∧ (CallI d 53 [.ref 8, .int (oI (ld I 0 (x3 + 1).toNat))] (bd L I R S) (fun y s => ∃ (y599 : Int) (I596 : mI) (R597 : mR) (S598 : mSh), y = oI y599 ∧ s = bd L I596 R597 S598 ∧ inR y599 ∧ ((0 ≤ x3 + 1 ∧ x3 + 1 < (L : Int)) ∧ (CallI d 287 [.ref 91, .int (oI (ld I596 0 (x3 + 1).toNat))] (bd L I596 R597 S598) (fun y s => ∃ (y604 : Int) (I601 : mI) (R602 : mR) (S603 : mSh), y = oI y604 ∧ s = bd L I601 R602 S603 ∧ inR y604 ∧ (((y599 = y604) → h341_1 (d + 1) L I601 R602 S603 Q (x3 + 7)) ∧ (¬ (y599 = y604) → Q (some (.int (oI 0))) (bd L I601 R602 S603))))))))) ∧ (iAnd (ld I 0 x3.toNat) 63 = 38 → CallI d 54 [.ref 8] (bd L I R S) (fun y s => ∃ (y610 : Int) (I607 : mI) (R608 : mR) (S609 : mSh), y = oI y610 ∧ s = bd L I607 R608 S609 ∧ inR y610 ∧ (CallI d 288 [.ref 91] (bd L I607 R608 S609) (fun y s => ∃ (y614 : Int) (I611 : mI) (R612 : mR) (S613 : mSh), y = oI y614 ∧ s = bd L I611 R612 S613 ∧ inR y614 ∧ (((y610 = y614) → h341_1 (d + 1) L I611 R612 S613 Q (x3 + 7)) ∧ (¬ (y610 = y614) → Q (some (.int (oI 0))) (bd L I611 R612 S613))))))) ∧ (iAnd (ld I 0 x3.toNat) 63 = 39 → (0 ≤ x3 + 1 ∧ x3 + 1 < (L : Int)) ∧ ((0 ≤ x3 + 2 ∧ x3 + 2 < (L : Int)) ∧ ((0 ≤ x3 + 3 ∧ x3 + 3 < (L : Int)) ∧ (CallI d 55 [.ref 8, .int (oI (ld I 0 (x3 + 1).toNat)), .int (oI (ld I 0 (x3 + 2).toNat)), .int (oI (ld I 0 (x3 + 3).toNat))] (bd L I R S) (fun y s => ∃ (y623 : Int) (I620 : mI) (R621 : mR) (S622 : mSh), y = oI y623 ∧ s = bd L I620 R621 S622 ∧ inR y623 ∧ ((0 ≤ x3 + 1 ∧ x3 + 1 < (L : Int)) ∧ ((0 ≤ x3 + 2 ∧ x3 + 2 < (L : Int)) ∧ ((0 ≤ x3 + 3 ∧ x3 + 3 < (L : Int)) ∧ (CallI d 289 [.ref 91, .int (oI (ld I620 0 (x3 + 1).toNat)), .int (oI (ld I620 0 (x3 + 2).toNat)), .int (oI (ld I620 0 (x3 + 3).toNat))] (bd L I620 R621 S622) (fun y s => ∃ (y630 : Int) (I627 : mI) (R628 : mR) (S629 : mSh), y = oI y630 ∧ s = bd L I627 R628 S629 ∧ inR y630 ∧ (((y623 = y630) → h341_1 (d + 1) L I627 R628 S629 Q (x3 + 7)) ∧ (¬ (y623 = y630) → Q (some (.int (oI 0))) (bd L I627 R628 S629))))))))))))) ∧ (iAnd (ld I 0 x3.toNat) 63 = 40 → (0 ≤ x3 + 1 ∧ x3 + 1 < (L : Int)) ∧ ((0 ≤ x3 + 2 ∧ x3 + 2 < (L : Int)) ∧ (CallI d 56 [.ref 8, .int (oI (ld I 0 (x3 + 1).toNat)), .int (oI (ld I 0 (x3 + 2).toNat))] (bd L I R S) (fun y s => ∃ (y638 : Int) (I635 : mI) (R636 : mR) (S637 : mSh), y = oI y638 ∧ s = bd L I635 R636 S637 ∧ inR y638 ∧ ((0 ≤ x3 + 1 ∧ x3 + 1 < (L : Int)) ∧ ((0 ≤ x3 + 2 ∧ x3 + 2 < (L : Int)) ∧ (CallI d 290 [.ref 91, .int (oI (ld I635 0 (x3 + 1).toNat)), .int (oI (ld I635 0 (x3 + 2).toNat))] (bd L I635 R636 S637) (fun y s => ∃ (y644 : Int) (I641 : mI) (R642 : mR) (S643 : mSh), y = oI y644 ∧ s = bd L I641 R642 S643 ∧ inR y644 ∧ (((y638 = y644) → h341_1 (d + 1) L I641 R642 S643 Q (x3 + 7)) ∧ (¬ (y638 = y644) → Q (some (.int (oI 0))) (bd L I641 R642 S643))))))))))) ∧ (iAnd (ld I 0 x3.toNat) 63 = 41 → (0 ≤ x3 + 1 ∧ x3 + 1 < (L : Int)) ∧ (CallI d 57 [.ref 8, .int (oI (ld I 0 (x3 + 1).toNat))] (bd L I R S) (fun y s => ∃ (y651 : Int) (I648 : mI) (R649 : mR) (S650 : mSh), y = oI y651 ∧ s = bd L I648 R649 S650 ∧ inR y651 ∧ ((0 ≤ x3 + 1 ∧ x3 + 1 < (L : Int)) ∧ (CallI d 293 [.ref 91, .int (oI (ld I648 0 (x3 + 1).toNat))] (bd L I648 R649 S650) (fun y s => ∃ (y656 : Int) (I653 : mI) (R654 : mR) (S655 : mSh), y = oI y656 ∧ s = bd L I653 R654 S655 ∧ inR y656 ∧ (((y651 = y656) → h341_1 (d + 1) L I653 R654 S655 Q (x3 + 7)) ∧ (¬ (y651 = y656) → Q (some (.int (oI 0))) (bd L I653 R654 S655))))))))) ∧ (iAnd (ld I 0 x3.toNat) 63 = 42 → (0 ≤ x3 + 1 ∧ x3 + 1 < (L : Int)) ∧ (CallI d 58 [.ref 8, .int (oI (ld I 0 (x3 + 1).toNat))] (bd L I R S) (fun y s => ∃ (y663 : Int) (I660 : mI) (R661 : mR) (S662 : mSh), y = oI y663 ∧ s = bd L I660 R661 S662 ∧ inR y663 ∧ ((0 ≤ x3 + 1 ∧ x3 + 1 < (L : Int)) ∧ (CallI d 295 [.ref 91, .int (oI (ld I660 0 (x3 + 1).toNat))] (bd L I660 R661 S662) (fun y s => ∃ (y668 : Int) (I665 : mI) (R666 : mR) (S667 : mSh), y = oI y668 ∧ s = bd L I665 R666 S667 ∧ inR y668 ∧ (((y663 = y668) → h341_1 (d + 1) L I665 R666 S667 Q (x3 + 7)) ∧ (¬ (y663 = y668) → Q (some (.int (oI 0))) (bd L I665 R666 S667))))))))) ∧ (iAnd (ld I 0 x3.toNat) 63 = 43 → (0 ≤ x3 + 1 ∧ x3 + 1 < (L : Int)) ∧ ((0 ≤ x3 + 2 ∧ x3 + 2 < (L : Int)) ∧ (CallI d 59 [.ref 8, .int (oI (ld I 0 (x3 + 1).toNat)), .int (oI (ld I 0 (x3 + 2).toNat))] (bd L I R S) (fun y s => ∃ (y676 : Int) (I673 : mI) (R674 : mR) (S675 : mSh), y = oI y676 ∧ s = bd L I673 R674 S675 ∧ inR y676 ∧ ((0 ≤ x3 + 1 ∧ x3 + 1 < (L : Int)) ∧ ((0 ≤ x3 + 2 ∧ x3 + 2 < (L : Int)) ∧ (CallI d 296 [.ref 91, .int (oI (ld I673 0 (x3 + 1).toNat)), .int (oI (ld I673 0 (x3 + 2).toNat))] (bd L I673 R674 S675) (fun y s => ∃ (y682 : Int) (I679 : mI) (R680 : mR) (S681 : mSh), y = oI y682 ∧ s = bd L I679 R680 S681 ∧ inR y682 ∧ (((y676 = y682) → h341_1 (d + 1) L I679 R680 S681 Q (x3 + 7)) ∧ (¬ (y676 = y682) → Q (some (.int (oI 0))) (bd L I679 R680 S681))))))))))) ∧ (iAnd (ld I 0 x3.toNat) 63 = 44 → (0 ≤ x3 + 1 ∧ x3 + 1 < (L : Int)) ∧ (CallI d 60 [.ref 8, .int (oI (ld I 0 (x3 + 1).toNat))] (bd L I R S) (fun y s => ∃ (y689 : Int) (I686 : mI) (R687 : mR) (S688 : mSh), y = oI y689 ∧ s = bd L I686 R687 S688 ∧ inR y689 ∧ ((0 ≤ x3 + 1 ∧ x3 + 1 < (L : Int)) ∧ (CallI d 330 [.ref 91, .int (oI (ld I686 0 (x3 + 1).toNat))] (bd L I686 R687 S688) (fun y s => ∃ (y694 : Int) (I691 : mI) (R692 : mR) (S693 : mSh), y = oI y694 ∧ s = bd L I691 R692 S693 ∧ inR y694 ∧ (((y689 = y694) → h341_1 (d + 1) L I691 R692 S693 Q (x3 + 7)) ∧ (¬ (y689 = y694) → Q (some (.int (oI 0))) (bd L I691 R692 S693))))))))) ∧ (¬ iAnd (ld I 0 x3.toNat) 63 = 0 ∧ ¬ iAnd (ld I 0 x3.toNat) 63 = 1 ∧ ¬ iAnd (ld I 0 x3.toNat) 63 = 2 ∧ ¬ iAnd (ld I 0 x3.toNat) 63 = 3 ∧ ¬ iAnd (ld I 0 x3.toNat) 63 = 4 ∧ ¬ iAnd (ld I 0 x3.toNat) 63 = 5 ∧ ¬ iAnd (ld I 0 x3.toNat) 63 = 6 ∧ ¬ iAnd (ld I 0 x3.toNat) 63 = 7 ∧ ¬ iAnd (ld I 0 x3.toNat) 63 = 8 ∧ ¬ iAnd (ld I 0 x3.toNat) 63 = 9 ∧ ¬ iAnd (ld I 0 x3.toNat) 63 = 10 ∧ ¬ iAnd (ld I 0 x3.toNat) 63 = 11 ∧ ¬ iAnd (ld I 0 x3.toNat) 63 = 12 ∧ ¬ iAnd (ld I 0 x3.toNat) 63 = 13 ∧ ¬ iAnd (ld I 0 x3.toNat) 63 = 14 ∧ ¬ iAnd (ld I 0 x3.toNat) 63 = 15 ∧ ¬ iAnd (ld I 0 x3.toNat) 63 = 16 ∧ ¬ iAnd (ld I 0 x3.toNat) 63 = 17 ∧ ¬ iAnd (ld I 0 x3.toNat) 63 = 18 ∧ ¬ iAnd (ld I 0 x3.toNat) 63 = 19 ∧ ¬ iAnd (ld I 0 x3.toNat) 63 = 20 ∧ ¬ iAnd (ld I 0 x3.toNat) 63 = 21 ∧ ¬ iAnd (ld I 0 x3.toNat) 63 = 22 ∧ ¬ iAnd (ld I 0 x3.toNat) 63 = 23 ∧ ¬ iAnd (ld I 0 x3.toNat) 63 = 24 ∧ ¬ iAnd (ld I 0 x3.toNat) 63 = 25 ∧ ¬ iAnd (ld I 0 x3.toNat) 63 = 26 ∧ ¬ iAnd (ld I 0 x3.toNat) 63 = 27 ∧ ¬ iAnd (ld I 0 x3.toNat) 63 = 28 ∧ ¬ iAnd (ld I 0 x3.toNat) 63 = 29 ∧ ¬ iAnd (ld I 0 x3.toNat) 63 = 30 ∧ ¬ iAnd (ld I 0 x3.toNat) 63 = 31 ∧ ¬ iAnd (ld I 0 x3.toNat) 63 = 32 ∧ ¬ iAnd (ld I 0 x3.toNat) 63 = 33 ∧ ¬ iAnd (ld I 0 x3.toNat) 63 = 34 ∧ ¬ iAnd (ld I 0 x3.toNat) 63 = 35 ∧ ¬ iAnd (ld I 0 x3.toNat) 63 = 36 ∧ ¬ iAnd (ld I 0 x3.toNat) 63 = 37 ∧ ¬ iAnd (ld I 0 x3.toNat) 63 = 38 ∧ ¬ iAnd (ld I 0 x3.toNat) 63 = 39 ∧ ¬ iAnd (ld I 0 x3.toNat) 63 = 40 ∧ ¬ iAnd (ld I 0 x3.toNat) 63 = 41 ∧ ¬ iAnd (ld I 0 x3.toNat) 63 = 42 ∧ ¬ iAnd (ld I 0 x3.toNat) 63 = 43 ∧ ¬ iAnd (ld I 0 x3.toNat) 63 = 44 → h341_1 (d + 1) L I R S Q (x3 + 7)))))))) : h341_1 (d + 1) L I R S Q x3 := by
  unfold h341_1
  refine xG gb341.2.1 ?_
  refine s4 (x := x3) rfl ?_
  refine s6 (p := 0) rfl ?_
  refine s48 sh0 (by decide) ?_
  refine s0 ?_
  refine s17 ?_
  obtain ⟨g1, hE⟩ := hE
  obtain ⟨g2, hE⟩ := hE
  refine s65 g1 g2 (fun c3 => ?_) (fun c3 => ?_)
  · replace hE := hE.1 c3
    refine xG gb341.2.2.2.2.2.2.2.2.2.2.2.2.2.2.2.2.2.2.2.2.2.2.2.2.2.2.2.2.2.2.2.2.2.2.2.2.2.2.2.2.2.2.2.2.2.2.2.2 ?_
    refine s0 ?_
    refine s84 (by decide) ?_
    exact hE
  · replace hE := hE.2 c3
    refine s6 (p := 0) rfl ?_
    refine s4 (x := x3) rfl ?_
    obtain ⟨g4, hE⟩ := hE
    obtain ⟨g5, hE⟩ := hE
    refine s40s (v := ld I 0 x3.toNat) g5 g4 (oI_ld _ _ _) ?_
    refine s0 ?_
    refine s25 ?_
    refine s76 (inR_toInt _) ?_
    by_cases c6 : iAnd (ld I 0 x3.toNat) 63 = 0
    · replace hE := hE.1 c6
      rw [show mSel ((jSW.getD 341 []).getD 0 []) (iAnd (ld I 0 x3.toNat) 63 - 0) = 2 by rw [c6]; rfl]
      refine xG gb341.2.2.1 ?_
      refine s6 (p := 8) rfl ?_
      refine s6 (p := 0) rfl ?_
      refine s4 (x := x3) rfl ?_
      refine s0 ?_
      refine s16 ?_
      obtain ⟨g7, hE⟩ := hE
      refine s40s (v := ld I 0 (x3 + 1).toNat) g7 g4 (oI_ld _ _ _) ?_
      refine sI rc1 rfl (Nat.le_of_ble_eq_true rfl) ?_
      refine CallI.mono hE ?_
      rintro _ _ ⟨y11, I8, R9, S10, rfl, rfl, gy11, hE⟩
      refine s6 (p := 91) rfl ?_
      refine s6 (p := 0) rfl ?_
      refine s4 (x := x3) rfl ?_
      refine s0 ?_
      refine s16 ?_
      obtain ⟨g12, hE⟩ := hE
      refine s40s (v := ld I8 0 (x3 + 1).toNat) g12 g4 (oI_ld _ _ _) ?_
      refine sI rc208 rfl (Nat.le_of_ble_eq_true rfl) ?_
      refine CallI.mono hE ?_
      rintro _ _ ⟨y16, I13, R14, S15, rfl, rfl, gy16, hE⟩
      refine s61 gy11 gy16 (fun c17 => ?_) (fun c17 => ?_)
      · replace hE := hE.1 c17
        refine xG gb341.2.2.2.2.2.2.2.2.2.2.2.2.2.2.2.2.2.2.2.2.2.2.2.2.2.2.2.2.2.2.2.2.2.2.2.2.2.2.2.2.2.2.2.2.2.2.2.1 ?_
        refine s10 (x := x3) (ls' := [.ref 0, .ref 8, .ref 91, .int (oI (x3 + 7))]) rfl rfl ?_
        refine s60 ?_
        exact hE
      · replace hE := hE.2 c17
        refine s0 ?_
        refine s84 (by decide) ?_
        exact hE
    replace hE := hE.2
    by_cases c18 : iAnd (ld I 0 x3.toNat) 63 = 1
    · replace hE := hE.1 c18
      rw [show mSel ((jSW.getD 341 []).getD 0 []) (iAnd (ld I 0 x3.toNat) 63 - 0) = 3 by rw [c18]; rfl]
      refine xG gb341.2.2.2.1 ?_
      refine s6 (p := 8) rfl ?_
      refine s6 (p := 0) rfl ?_
      refine s4 (x := x3) rfl ?_
      refine s0 ?_
      refine s16 ?_
      obtain ⟨g19, hE⟩ := hE
      refine s40s (v := ld I 0 (x3 + 1).toNat) g19 g4 (oI_ld _ _ _) ?_
      refine s6 (p := 0) rfl ?_
      refine s4 (x := x3) rfl ?_
      refine s0 ?_
      refine s16 ?_
      obtain ⟨g20, hE⟩ := hE
      refine s40s (v := ld I 0 (x3 + 2).toNat) g20 g4 (oI_ld _ _ _) ?_
      refine s6 (p := 0) rfl ?_
      refine s4 (x := x3) rfl ?_
      refine s0 ?_
      refine s16 ?_
      obtain ⟨g21, hE⟩ := hE
      refine s40s (v := ld I 0 (x3 + 3).toNat) g21 g4 (oI_ld _ _ _) ?_
      refine sI rc2 rfl (Nat.le_of_ble_eq_true rfl) ?_
      refine CallI.mono hE ?_
      rintro _ _ ⟨y25, I22, R23, S24, rfl, rfl, gy25, hE⟩
      refine s6 (p := 91) rfl ?_
      refine s6 (p := 0) rfl ?_
      refine s4 (x := x3) rfl ?_
      refine s0 ?_
      refine s16 ?_
      obtain ⟨g26, hE⟩ := hE
      refine s40s (v := ld I22 0 (x3 + 1).toNat) g26 g4 (oI_ld _ _ _) ?_
      refine s6 (p := 0) rfl ?_
      refine s4 (x := x3) rfl ?_
      refine s0 ?_
      refine s16 ?_
      obtain ⟨g27, hE⟩ := hE
      refine s40s (v := ld I22 0 (x3 + 2).toNat) g27 g4 (oI_ld _ _ _) ?_
      refine s6 (p := 0) rfl ?_
      refine s4 (x := x3) rfl ?_
      refine s0 ?_
      refine s16 ?_
      obtain ⟨g28, hE⟩ := hE
      refine s40s (v := ld I22 0 (x3 + 3).toNat) g28 g4 (oI_ld _ _ _) ?_
      refine sI rc209 rfl (Nat.le_of_ble_eq_true rfl) ?_
      refine CallI.mono hE ?_
      rintro _ _ ⟨y32, I29, R30, S31, rfl, rfl, gy32, hE⟩
      refine s61 gy25 gy32 (fun c33 => ?_) (fun c33 => ?_)
      · replace hE := hE.1 c33
        refine xG gb341.2.2.2.2.2.2.2.2.2.2.2.2.2.2.2.2.2.2.2.2.2.2.2.2.2.2.2.2.2.2.2.2.2.2.2.2.2.2.2.2.2.2.2.2.2.2.2.1 ?_
        refine s10 (x := x3) (ls' := [.ref 0, .ref 8, .ref 91, .int (oI (x3 + 7))]) rfl rfl ?_
        refine s60 ?_
        exact hE
      · replace hE := hE.2 c33
        refine s0 ?_
        refine s84 (by decide) ?_
        exact hE
    replace hE := hE.2
    by_cases c34 : iAnd (ld I 0 x3.toNat) 63 = 2
    · replace hE := hE.1 c34
      rw [show mSel ((jSW.getD 341 []).getD 0 []) (iAnd (ld I 0 x3.toNat) 63 - 0) = 4 by rw [c34]; rfl]
      refine xG gb341.2.2.2.2.1 ?_
      refine s6 (p := 8) rfl ?_
      refine s6 (p := 0) rfl ?_
      refine s4 (x := x3) rfl ?_
      refine s0 ?_
      refine s16 ?_
      obtain ⟨g35, hE⟩ := hE
      refine s40s (v := ld I 0 (x3 + 1).toNat) g35 g4 (oI_ld _ _ _) ?_
      refine s6 (p := 0) rfl ?_
      refine s4 (x := x3) rfl ?_
      refine s0 ?_
      refine s16 ?_
      obtain ⟨g36, hE⟩ := hE
      refine s40s (v := ld I 0 (x3 + 2).toNat) g36 g4 (oI_ld _ _ _) ?_
      refine s6 (p := 0) rfl ?_
      refine s4 (x := x3) rfl ?_
      refine s0 ?_
      refine s16 ?_
      obtain ⟨g37, hE⟩ := hE
      refine s40s (v := ld I 0 (x3 + 3).toNat) g37 g4 (oI_ld _ _ _) ?_
      refine sI rc4 rfl (Nat.le_of_ble_eq_true rfl) ?_
      refine CallI.mono hE ?_
      rintro _ _ ⟨y41, I38, R39, S40, rfl, rfl, gy41, hE⟩
      refine s6 (p := 91) rfl ?_
      refine s6 (p := 0) rfl ?_
      refine s4 (x := x3) rfl ?_
      refine s0 ?_
      refine s16 ?_
      obtain ⟨g42, hE⟩ := hE
      refine s40s (v := ld I38 0 (x3 + 1).toNat) g42 g4 (oI_ld _ _ _) ?_
      refine s6 (p := 0) rfl ?_
      refine s4 (x := x3) rfl ?_
      refine s0 ?_
      refine s16 ?_
      obtain ⟨g43, hE⟩ := hE
      refine s40s (v := ld I38 0 (x3 + 2).toNat) g43 g4 (oI_ld _ _ _) ?_
      refine s6 (p := 0) rfl ?_
      refine s4 (x := x3) rfl ?_
      refine s0 ?_
      refine s16 ?_
      obtain ⟨g44, hE⟩ := hE
      refine s40s (v := ld I38 0 (x3 + 3).toNat) g44 g4 (oI_ld _ _ _) ?_
      refine sI rc211 rfl (Nat.le_of_ble_eq_true rfl) ?_
      refine CallI.mono hE ?_
      rintro _ _ ⟨y48, I45, R46, S47, rfl, rfl, gy48, hE⟩
      refine s61 gy41 gy48 (fun c49 => ?_) (fun c49 => ?_)
      · replace hE := hE.1 c49
        refine xG gb341.2.2.2.2.2.2.2.2.2.2.2.2.2.2.2.2.2.2.2.2.2.2.2.2.2.2.2.2.2.2.2.2.2.2.2.2.2.2.2.2.2.2.2.2.2.2.2.1 ?_
        refine s10 (x := x3) (ls' := [.ref 0, .ref 8, .ref 91, .int (oI (x3 + 7))]) rfl rfl ?_
        refine s60 ?_
        exact hE
      · replace hE := hE.2 c49
        refine s0 ?_
        refine s84 (by decide) ?_
        exact hE
    replace hE := hE.2
    by_cases c50 : iAnd (ld I 0 x3.toNat) 63 = 3
    · replace hE := hE.1 c50
      rw [show mSel ((jSW.getD 341 []).getD 0 []) (iAnd (ld I 0 x3.toNat) 63 - 0) = 5 by rw [c50]; rfl]
      refine xG gb341.2.2.2.2.2.1 ?_
      refine s6 (p := 8) rfl ?_
      refine s6 (p := 0) rfl ?_
      refine s4 (x := x3) rfl ?_
      refine s0 ?_
      refine s16 ?_
      obtain ⟨g51, hE⟩ := hE
      refine s40s (v := ld I 0 (x3 + 1).toNat) g51 g4 (oI_ld _ _ _) ?_
      refine s6 (p := 0) rfl ?_
      refine s4 (x := x3) rfl ?_
      refine s0 ?_
      refine s16 ?_
      obtain ⟨g52, hE⟩ := hE
      refine s40s (v := ld I 0 (x3 + 2).toNat) g52 g4 (oI_ld _ _ _) ?_
      refine s6 (p := 0) rfl ?_
      refine s4 (x := x3) rfl ?_
      refine s0 ?_
      refine s16 ?_
      obtain ⟨g53, hE⟩ := hE
      refine s40s (v := ld I 0 (x3 + 3).toNat) g53 g4 (oI_ld _ _ _) ?_
      refine sI rc5 rfl (Nat.le_of_ble_eq_true rfl) ?_
      refine CallI.mono hE ?_
      rintro _ _ ⟨y57, I54, R55, S56, rfl, rfl, gy57, hE⟩
      refine s6 (p := 91) rfl ?_
      refine s6 (p := 0) rfl ?_
      refine s4 (x := x3) rfl ?_
      refine s0 ?_
      refine s16 ?_
      obtain ⟨g58, hE⟩ := hE
      refine s40s (v := ld I54 0 (x3 + 1).toNat) g58 g4 (oI_ld _ _ _) ?_
      refine s6 (p := 0) rfl ?_
      refine s4 (x := x3) rfl ?_
      refine s0 ?_
      refine s16 ?_
      obtain ⟨g59, hE⟩ := hE
      refine s40s (v := ld I54 0 (x3 + 2).toNat) g59 g4 (oI_ld _ _ _) ?_
      refine s6 (p := 0) rfl ?_
      refine s4 (x := x3) rfl ?_
      refine s0 ?_
      refine s16 ?_
      obtain ⟨g60, hE⟩ := hE
      refine s40s (v := ld I54 0 (x3 + 3).toNat) g60 g4 (oI_ld _ _ _) ?_
      refine sI rc213 rfl (Nat.le_of_ble_eq_true rfl) ?_
      refine CallI.mono hE ?_
      rintro _ _ ⟨y64, I61, R62, S63, rfl, rfl, gy64, hE⟩
      refine s61 gy57 gy64 (fun c65 => ?_) (fun c65 => ?_)
      · replace hE := hE.1 c65
        refine xG gb341.2.2.2.2.2.2.2.2.2.2.2.2.2.2.2.2.2.2.2.2.2.2.2.2.2.2.2.2.2.2.2.2.2.2.2.2.2.2.2.2.2.2.2.2.2.2.2.1 ?_
        refine s10 (x := x3) (ls' := [.ref 0, .ref 8, .ref 91, .int (oI (x3 + 7))]) rfl rfl ?_
        refine s60 ?_
        exact hE
      · replace hE := hE.2 c65
        refine s0 ?_
        refine s84 (by decide) ?_
        exact hE
    replace hE := hE.2
    by_cases c66 : iAnd (ld I 0 x3.toNat) 63 = 4
    · replace hE := hE.1 c66
      rw [show mSel ((jSW.getD 341 []).getD 0 []) (iAnd (ld I 0 x3.toNat) 63 - 0) = 6 by rw [c66]; rfl]
      refine xG gb341.2.2.2.2.2.2.1 ?_
      refine s6 (p := 8) rfl ?_
      refine s6 (p := 0) rfl ?_
      refine s4 (x := x3) rfl ?_
      refine s0 ?_
      refine s16 ?_
      obtain ⟨g67, hE⟩ := hE
      refine s40s (v := ld I 0 (x3 + 1).toNat) g67 g4 (oI_ld _ _ _) ?_
      refine s6 (p := 0) rfl ?_
      refine s4 (x := x3) rfl ?_
      refine s0 ?_
      refine s16 ?_
      obtain ⟨g68, hE⟩ := hE
      refine s40s (v := ld I 0 (x3 + 2).toNat) g68 g4 (oI_ld _ _ _) ?_
      refine sI rc6 rfl (Nat.le_of_ble_eq_true rfl) ?_
      refine CallI.mono hE ?_
      rintro _ _ ⟨y72, I69, R70, S71, rfl, rfl, gy72, hE⟩
      refine s6 (p := 91) rfl ?_
      refine s6 (p := 0) rfl ?_
      refine s4 (x := x3) rfl ?_
      refine s0 ?_
      refine s16 ?_
      obtain ⟨g73, hE⟩ := hE
      refine s40s (v := ld I69 0 (x3 + 1).toNat) g73 g4 (oI_ld _ _ _) ?_
      refine s6 (p := 0) rfl ?_
      refine s4 (x := x3) rfl ?_
      refine s0 ?_
      refine s16 ?_
      obtain ⟨g74, hE⟩ := hE
      refine s40s (v := ld I69 0 (x3 + 2).toNat) g74 g4 (oI_ld _ _ _) ?_
      refine sI rc214 rfl (Nat.le_of_ble_eq_true rfl) ?_
      refine CallI.mono hE ?_
      rintro _ _ ⟨y78, I75, R76, S77, rfl, rfl, gy78, hE⟩
      refine s61 gy72 gy78 (fun c79 => ?_) (fun c79 => ?_)
      · replace hE := hE.1 c79
        refine xG gb341.2.2.2.2.2.2.2.2.2.2.2.2.2.2.2.2.2.2.2.2.2.2.2.2.2.2.2.2.2.2.2.2.2.2.2.2.2.2.2.2.2.2.2.2.2.2.2.1 ?_
        refine s10 (x := x3) (ls' := [.ref 0, .ref 8, .ref 91, .int (oI (x3 + 7))]) rfl rfl ?_
        refine s60 ?_
        exact hE
      · replace hE := hE.2 c79
        refine s0 ?_
        refine s84 (by decide) ?_
        exact hE
    replace hE := hE.2
    by_cases c80 : iAnd (ld I 0 x3.toNat) 63 = 5
    · replace hE := hE.1 c80
      rw [show mSel ((jSW.getD 341 []).getD 0 []) (iAnd (ld I 0 x3.toNat) 63 - 0) = 7 by rw [c80]; rfl]
      refine xG gb341.2.2.2.2.2.2.2.1 ?_
      refine s6 (p := 8) rfl ?_
      refine s6 (p := 0) rfl ?_
      refine s4 (x := x3) rfl ?_
      refine s0 ?_
      refine s16 ?_
      obtain ⟨g81, hE⟩ := hE
      refine s40s (v := ld I 0 (x3 + 1).toNat) g81 g4 (oI_ld _ _ _) ?_
      refine s6 (p := 0) rfl ?_
      refine s4 (x := x3) rfl ?_
      refine s0 ?_
      refine s16 ?_
      obtain ⟨g82, hE⟩ := hE
      refine s40s (v := ld I 0 (x3 + 2).toNat) g82 g4 (oI_ld _ _ _) ?_
      refine s6 (p := 0) rfl ?_
      refine s4 (x := x3) rfl ?_
      refine s0 ?_
      refine s16 ?_
      obtain ⟨g83, hE⟩ := hE
      refine s40s (v := ld I 0 (x3 + 3).toNat) g83 g4 (oI_ld _ _ _) ?_
      refine sI rc8 rfl (Nat.le_of_ble_eq_true rfl) ?_
      refine CallI.mono hE ?_
      rintro _ _ ⟨y87, I84, R85, S86, rfl, rfl, gy87, hE⟩
      refine s6 (p := 91) rfl ?_
      refine s6 (p := 0) rfl ?_
      refine s4 (x := x3) rfl ?_
      refine s0 ?_
      refine s16 ?_
      obtain ⟨g88, hE⟩ := hE
      refine s40s (v := ld I84 0 (x3 + 1).toNat) g88 g4 (oI_ld _ _ _) ?_
      refine s6 (p := 0) rfl ?_
      refine s4 (x := x3) rfl ?_
      refine s0 ?_
      refine s16 ?_
      obtain ⟨g89, hE⟩ := hE
      refine s40s (v := ld I84 0 (x3 + 2).toNat) g89 g4 (oI_ld _ _ _) ?_
      refine s6 (p := 0) rfl ?_
      refine s4 (x := x3) rfl ?_
      refine s0 ?_
      refine s16 ?_
      obtain ⟨g90, hE⟩ := hE
      refine s40s (v := ld I84 0 (x3 + 3).toNat) g90 g4 (oI_ld _ _ _) ?_
      refine sI rc216 rfl (Nat.le_of_ble_eq_true rfl) ?_
      refine CallI.mono hE ?_
      rintro _ _ ⟨y94, I91, R92, S93, rfl, rfl, gy94, hE⟩
      refine s61 gy87 gy94 (fun c95 => ?_) (fun c95 => ?_)
      · replace hE := hE.1 c95
        refine xG gb341.2.2.2.2.2.2.2.2.2.2.2.2.2.2.2.2.2.2.2.2.2.2.2.2.2.2.2.2.2.2.2.2.2.2.2.2.2.2.2.2.2.2.2.2.2.2.2.1 ?_
        refine s10 (x := x3) (ls' := [.ref 0, .ref 8, .ref 91, .int (oI (x3 + 7))]) rfl rfl ?_
        refine s60 ?_
        exact hE
      · replace hE := hE.2 c95
        refine s0 ?_
        refine s84 (by decide) ?_
        exact hE
    replace hE := hE.2
    by_cases c96 : iAnd (ld I 0 x3.toNat) 63 = 6
    · replace hE := hE.1 c96
      rw [show mSel ((jSW.getD 341 []).getD 0 []) (iAnd (ld I 0 x3.toNat) 63 - 0) = 8 by rw [c96]; rfl]
      refine xG gb341.2.2.2.2.2.2.2.2.1 ?_
      refine s6 (p := 8) rfl ?_
      refine s6 (p := 0) rfl ?_
      refine s4 (x := x3) rfl ?_
      refine s0 ?_
      refine s16 ?_
      obtain ⟨g97, hE⟩ := hE
      refine s40s (v := ld I 0 (x3 + 1).toNat) g97 g4 (oI_ld _ _ _) ?_
      refine s6 (p := 0) rfl ?_
      refine s4 (x := x3) rfl ?_
      refine s0 ?_
      refine s16 ?_
      obtain ⟨g98, hE⟩ := hE
      refine s40s (v := ld I 0 (x3 + 2).toNat) g98 g4 (oI_ld _ _ _) ?_
      refine s6 (p := 0) rfl ?_
      refine s4 (x := x3) rfl ?_
      refine s0 ?_
      refine s16 ?_
      obtain ⟨g99, hE⟩ := hE
      refine s40s (v := ld I 0 (x3 + 3).toNat) g99 g4 (oI_ld _ _ _) ?_
      refine sI rc11 rfl (Nat.le_of_ble_eq_true rfl) ?_
      refine CallI.mono hE ?_
      rintro _ _ ⟨y103, I100, R101, S102, rfl, rfl, gy103, hE⟩
      refine s6 (p := 91) rfl ?_
      refine s6 (p := 0) rfl ?_
      refine s4 (x := x3) rfl ?_
      refine s0 ?_
      refine s16 ?_
      obtain ⟨g104, hE⟩ := hE
      refine s40s (v := ld I100 0 (x3 + 1).toNat) g104 g4 (oI_ld _ _ _) ?_
      refine s6 (p := 0) rfl ?_
      refine s4 (x := x3) rfl ?_
      refine s0 ?_
      refine s16 ?_
      obtain ⟨g105, hE⟩ := hE
      refine s40s (v := ld I100 0 (x3 + 2).toNat) g105 g4 (oI_ld _ _ _) ?_
      refine s6 (p := 0) rfl ?_
      refine s4 (x := x3) rfl ?_
      refine s0 ?_
      refine s16 ?_
      obtain ⟨g106, hE⟩ := hE
      refine s40s (v := ld I100 0 (x3 + 3).toNat) g106 g4 (oI_ld _ _ _) ?_
      refine sI rc229 rfl (Nat.le_of_ble_eq_true rfl) ?_
      refine CallI.mono hE ?_
      rintro _ _ ⟨y110, I107, R108, S109, rfl, rfl, gy110, hE⟩
      refine s61 gy103 gy110 (fun c111 => ?_) (fun c111 => ?_)
      · replace hE := hE.1 c111
        refine xG gb341.2.2.2.2.2.2.2.2.2.2.2.2.2.2.2.2.2.2.2.2.2.2.2.2.2.2.2.2.2.2.2.2.2.2.2.2.2.2.2.2.2.2.2.2.2.2.2.1 ?_
        refine s10 (x := x3) (ls' := [.ref 0, .ref 8, .ref 91, .int (oI (x3 + 7))]) rfl rfl ?_
        refine s60 ?_
        exact hE
      · replace hE := hE.2 c111
        refine s0 ?_
        refine s84 (by decide) ?_
        exact hE
    replace hE := hE.2
    by_cases c112 : iAnd (ld I 0 x3.toNat) 63 = 7
    · replace hE := hE.1 c112
      rw [show mSel ((jSW.getD 341 []).getD 0 []) (iAnd (ld I 0 x3.toNat) 63 - 0) = 9 by rw [c112]; rfl]
      refine xG gb341.2.2.2.2.2.2.2.2.2.1 ?_
      refine s6 (p := 8) rfl ?_
      refine s6 (p := 0) rfl ?_
      refine s4 (x := x3) rfl ?_
      refine s0 ?_
      refine s16 ?_
      obtain ⟨g113, hE⟩ := hE
      refine s40s (v := ld I 0 (x3 + 1).toNat) g113 g4 (oI_ld _ _ _) ?_
      refine s6 (p := 0) rfl ?_
      refine s4 (x := x3) rfl ?_
      refine s0 ?_
      refine s16 ?_
      obtain ⟨g114, hE⟩ := hE
      refine s40s (v := ld I 0 (x3 + 2).toNat) g114 g4 (oI_ld _ _ _) ?_
      refine s6 (p := 0) rfl ?_
      refine s4 (x := x3) rfl ?_
      refine s0 ?_
      refine s16 ?_
      obtain ⟨g115, hE⟩ := hE
      refine s40s (v := ld I 0 (x3 + 3).toNat) g115 g4 (oI_ld _ _ _) ?_
      refine s6 (p := 0) rfl ?_
      refine s4 (x := x3) rfl ?_
      refine s0 ?_
      refine s16 ?_
      obtain ⟨g116, hE⟩ := hE
      refine s40s (v := ld I 0 (x3 + 4).toNat) g116 g4 (oI_ld _ _ _) ?_
      refine s6 (p := 0) rfl ?_
      refine s4 (x := x3) rfl ?_
      refine s0 ?_
      refine s16 ?_
      obtain ⟨g117, hE⟩ := hE
      refine s40s (v := ld I 0 (x3 + 5).toNat) g117 g4 (oI_ld _ _ _) ?_
      refine s6 (p := 0) rfl ?_
      refine s4 (x := x3) rfl ?_
      refine s0 ?_
      refine s16 ?_
      obtain ⟨g118, hE⟩ := hE
      refine s40s (v := ld I 0 (x3 + 6).toNat) g118 g4 (oI_ld _ _ _) ?_
      refine sI rc14 rfl (Nat.le_of_ble_eq_true rfl) ?_
      refine CallI.mono hE ?_
      rintro _ _ ⟨y122, I119, R120, S121, rfl, rfl, gy122, hE⟩
      refine s6 (p := 91) rfl ?_
      refine s6 (p := 0) rfl ?_
      refine s4 (x := x3) rfl ?_
      refine s0 ?_
      refine s16 ?_
      obtain ⟨g123, hE⟩ := hE
      refine s40s (v := ld I119 0 (x3 + 1).toNat) g123 g4 (oI_ld _ _ _) ?_
      refine s6 (p := 0) rfl ?_
      refine s4 (x := x3) rfl ?_
      refine s0 ?_
      refine s16 ?_
      obtain ⟨g124, hE⟩ := hE
      refine s40s (v := ld I119 0 (x3 + 2).toNat) g124 g4 (oI_ld _ _ _) ?_
      refine s6 (p := 0) rfl ?_
      refine s4 (x := x3) rfl ?_
      refine s0 ?_
      refine s16 ?_
      obtain ⟨g125, hE⟩ := hE
      refine s40s (v := ld I119 0 (x3 + 3).toNat) g125 g4 (oI_ld _ _ _) ?_
      refine s6 (p := 0) rfl ?_
      refine s4 (x := x3) rfl ?_
      refine s0 ?_
      refine s16 ?_
      obtain ⟨g126, hE⟩ := hE
      refine s40s (v := ld I119 0 (x3 + 4).toNat) g126 g4 (oI_ld _ _ _) ?_
      refine s6 (p := 0) rfl ?_
      refine s4 (x := x3) rfl ?_
      refine s0 ?_
      refine s16 ?_
      obtain ⟨g127, hE⟩ := hE
      refine s40s (v := ld I119 0 (x3 + 5).toNat) g127 g4 (oI_ld _ _ _) ?_
      refine s6 (p := 0) rfl ?_
      refine s4 (x := x3) rfl ?_
      refine s0 ?_
      refine s16 ?_
      obtain ⟨g128, hE⟩ := hE
      refine s40s (v := ld I119 0 (x3 + 6).toNat) g128 g4 (oI_ld _ _ _) ?_
      refine sI rc231 rfl (Nat.le_of_ble_eq_true rfl) ?_
      refine CallI.mono hE ?_
      rintro _ _ ⟨y132, I129, R130, S131, rfl, rfl, gy132, hE⟩
      refine s61 gy122 gy132 (fun c133 => ?_) (fun c133 => ?_)
      · replace hE := hE.1 c133
        refine xG gb341.2.2.2.2.2.2.2.2.2.2.2.2.2.2.2.2.2.2.2.2.2.2.2.2.2.2.2.2.2.2.2.2.2.2.2.2.2.2.2.2.2.2.2.2.2.2.2.1 ?_
        refine s10 (x := x3) (ls' := [.ref 0, .ref 8, .ref 91, .int (oI (x3 + 7))]) rfl rfl ?_
        refine s60 ?_
        exact hE
      · replace hE := hE.2 c133
        refine s0 ?_
        refine s84 (by decide) ?_
        exact hE
    replace hE := hE.2
    by_cases c134 : iAnd (ld I 0 x3.toNat) 63 = 8
    · replace hE := hE.1 c134
      rw [show mSel ((jSW.getD 341 []).getD 0 []) (iAnd (ld I 0 x3.toNat) 63 - 0) = 10 by rw [c134]; rfl]
      refine xG gb341.2.2.2.2.2.2.2.2.2.2.1 ?_
      refine s6 (p := 8) rfl ?_
      refine s6 (p := 0) rfl ?_
      refine s4 (x := x3) rfl ?_
      refine s0 ?_
      refine s16 ?_
      obtain ⟨g135, hE⟩ := hE
      refine s40s (v := ld I 0 (x3 + 1).toNat) g135 g4 (oI_ld _ _ _) ?_
      refine s6 (p := 0) rfl ?_
      refine s4 (x := x3) rfl ?_
      refine s0 ?_
      refine s16 ?_
      obtain ⟨g136, hE⟩ := hE
      refine s40s (v := ld I 0 (x3 + 2).toNat) g136 g4 (oI_ld _ _ _) ?_
      refine s6 (p := 0) rfl ?_
      refine s4 (x := x3) rfl ?_
      refine s0 ?_
      refine s16 ?_
      obtain ⟨g137, hE⟩ := hE
      refine s40s (v := ld I 0 (x3 + 3).toNat) g137 g4 (oI_ld _ _ _) ?_
      refine s6 (p := 0) rfl ?_
      refine s4 (x := x3) rfl ?_
      refine s0 ?_
      refine s16 ?_
      obtain ⟨g138, hE⟩ := hE
      refine s40s (v := ld I 0 (x3 + 4).toNat) g138 g4 (oI_ld _ _ _) ?_
      refine s6 (p := 0) rfl ?_
      refine s4 (x := x3) rfl ?_
      refine s0 ?_
      refine s16 ?_
      obtain ⟨g139, hE⟩ := hE
      refine s40s (v := ld I 0 (x3 + 5).toNat) g139 g4 (oI_ld _ _ _) ?_
      refine sI rc15 rfl (Nat.le_of_ble_eq_true rfl) ?_
      refine CallI.mono hE ?_
      rintro _ _ ⟨y143, I140, R141, S142, rfl, rfl, gy143, hE⟩
      refine s6 (p := 91) rfl ?_
      refine s6 (p := 0) rfl ?_
      refine s4 (x := x3) rfl ?_
      refine s0 ?_
      refine s16 ?_
      obtain ⟨g144, hE⟩ := hE
      refine s40s (v := ld I140 0 (x3 + 1).toNat) g144 g4 (oI_ld _ _ _) ?_
      refine s6 (p := 0) rfl ?_
      refine s4 (x := x3) rfl ?_
      refine s0 ?_
      refine s16 ?_
      obtain ⟨g145, hE⟩ := hE
      refine s40s (v := ld I140 0 (x3 + 2).toNat) g145 g4 (oI_ld _ _ _) ?_
      refine s6 (p := 0) rfl ?_
      refine s4 (x := x3) rfl ?_
      refine s0 ?_
      refine s16 ?_
      obtain ⟨g146, hE⟩ := hE
      refine s40s (v := ld I140 0 (x3 + 3).toNat) g146 g4 (oI_ld _ _ _) ?_
      refine s6 (p := 0) rfl ?_
      refine s4 (x := x3) rfl ?_
      refine s0 ?_
      refine s16 ?_
      obtain ⟨g147, hE⟩ := hE
      refine s40s (v := ld I140 0 (x3 + 4).toNat) g147 g4 (oI_ld _ _ _) ?_
      refine s6 (p := 0) rfl ?_
      refine s4 (x := x3) rfl ?_
      refine s0 ?_
      refine s16 ?_
      obtain ⟨g148, hE⟩ := hE
      refine s40s (v := ld I140 0 (x3 + 5).toNat) g148 g4 (oI_ld _ _ _) ?_
      refine sI rc232 rfl (Nat.le_of_ble_eq_true rfl) ?_
      refine CallI.mono hE ?_
      rintro _ _ ⟨y152, I149, R150, S151, rfl, rfl, gy152, hE⟩
      refine s61 gy143 gy152 (fun c153 => ?_) (fun c153 => ?_)
      · replace hE := hE.1 c153
        refine xG gb341.2.2.2.2.2.2.2.2.2.2.2.2.2.2.2.2.2.2.2.2.2.2.2.2.2.2.2.2.2.2.2.2.2.2.2.2.2.2.2.2.2.2.2.2.2.2.2.1 ?_
        refine s10 (x := x3) (ls' := [.ref 0, .ref 8, .ref 91, .int (oI (x3 + 7))]) rfl rfl ?_
        refine s60 ?_
        exact hE
      · replace hE := hE.2 c153
        refine s0 ?_
        refine s84 (by decide) ?_
        exact hE
    replace hE := hE.2
    by_cases c154 : iAnd (ld I 0 x3.toNat) 63 = 9
    · replace hE := hE.1 c154
      rw [show mSel ((jSW.getD 341 []).getD 0 []) (iAnd (ld I 0 x3.toNat) 63 - 0) = 11 by rw [c154]; rfl]
      refine xG gb341.2.2.2.2.2.2.2.2.2.2.2.1 ?_
      refine s6 (p := 8) rfl ?_
      refine s6 (p := 0) rfl ?_
      refine s4 (x := x3) rfl ?_
      refine s0 ?_
      refine s16 ?_
      obtain ⟨g155, hE⟩ := hE
      refine s40s (v := ld I 0 (x3 + 1).toNat) g155 g4 (oI_ld _ _ _) ?_
      refine s6 (p := 0) rfl ?_
      refine s4 (x := x3) rfl ?_
      refine s0 ?_
      refine s16 ?_
      obtain ⟨g156, hE⟩ := hE
      refine s40s (v := ld I 0 (x3 + 2).toNat) g156 g4 (oI_ld _ _ _) ?_
      refine s6 (p := 0) rfl ?_
      refine s4 (x := x3) rfl ?_
      refine s0 ?_
      refine s16 ?_
      obtain ⟨g157, hE⟩ := hE
      refine s40s (v := ld I 0 (x3 + 3).toNat) g157 g4 (oI_ld _ _ _) ?_
      refine s6 (p := 0) rfl ?_
      refine s4 (x := x3) rfl ?_
      refine s0 ?_
      refine s16 ?_
      obtain ⟨g158, hE⟩ := hE
      refine s40s (v := ld I 0 (x3 + 4).toNat) g158 g4 (oI_ld _ _ _) ?_
      refine sI rc16 rfl (Nat.le_of_ble_eq_true rfl) ?_
      refine CallI.mono hE ?_
      rintro _ _ ⟨y162, I159, R160, S161, rfl, rfl, gy162, hE⟩
      refine s6 (p := 91) rfl ?_
      refine s6 (p := 0) rfl ?_
      refine s4 (x := x3) rfl ?_
      refine s0 ?_
      refine s16 ?_
      obtain ⟨g163, hE⟩ := hE
      refine s40s (v := ld I159 0 (x3 + 1).toNat) g163 g4 (oI_ld _ _ _) ?_
      refine s6 (p := 0) rfl ?_
      refine s4 (x := x3) rfl ?_
      refine s0 ?_
      refine s16 ?_
      obtain ⟨g164, hE⟩ := hE
      refine s40s (v := ld I159 0 (x3 + 2).toNat) g164 g4 (oI_ld _ _ _) ?_
      refine s6 (p := 0) rfl ?_
      refine s4 (x := x3) rfl ?_
      refine s0 ?_
      refine s16 ?_
      obtain ⟨g165, hE⟩ := hE
      refine s40s (v := ld I159 0 (x3 + 3).toNat) g165 g4 (oI_ld _ _ _) ?_
      refine s6 (p := 0) rfl ?_
      refine s4 (x := x3) rfl ?_
      refine s0 ?_
      refine s16 ?_
      obtain ⟨g166, hE⟩ := hE
      refine s40s (v := ld I159 0 (x3 + 4).toNat) g166 g4 (oI_ld _ _ _) ?_
      refine sI rc242 rfl (Nat.le_of_ble_eq_true rfl) ?_
      refine CallI.mono hE ?_
      rintro _ _ ⟨y170, I167, R168, S169, rfl, rfl, gy170, hE⟩
      refine s61 gy162 gy170 (fun c171 => ?_) (fun c171 => ?_)
      · replace hE := hE.1 c171
        refine xG gb341.2.2.2.2.2.2.2.2.2.2.2.2.2.2.2.2.2.2.2.2.2.2.2.2.2.2.2.2.2.2.2.2.2.2.2.2.2.2.2.2.2.2.2.2.2.2.2.1 ?_
        refine s10 (x := x3) (ls' := [.ref 0, .ref 8, .ref 91, .int (oI (x3 + 7))]) rfl rfl ?_
        refine s60 ?_
        exact hE
      · replace hE := hE.2 c171
        refine s0 ?_
        refine s84 (by decide) ?_
        exact hE
    replace hE := hE.2
    by_cases c172 : iAnd (ld I 0 x3.toNat) 63 = 10
    · replace hE := hE.1 c172
      rw [show mSel ((jSW.getD 341 []).getD 0 []) (iAnd (ld I 0 x3.toNat) 63 - 0) = 12 by rw [c172]; rfl]
      refine xG gb341.2.2.2.2.2.2.2.2.2.2.2.2.1 ?_
      refine s6 (p := 8) rfl ?_
      refine s6 (p := 0) rfl ?_
      refine s4 (x := x3) rfl ?_
      refine s0 ?_
      refine s16 ?_
      obtain ⟨g173, hE⟩ := hE
      refine s40s (v := ld I 0 (x3 + 1).toNat) g173 g4 (oI_ld _ _ _) ?_
      refine sI rc17 rfl (Nat.le_of_ble_eq_true rfl) ?_
      refine CallI.mono hE ?_
      rintro _ _ ⟨y177, I174, R175, S176, rfl, rfl, gy177, hE⟩
      refine s6 (p := 91) rfl ?_
      refine s6 (p := 0) rfl ?_
      refine s4 (x := x3) rfl ?_
      refine s0 ?_
      refine s16 ?_
      obtain ⟨g178, hE⟩ := hE
      refine s40s (v := ld I174 0 (x3 + 1).toNat) g178 g4 (oI_ld _ _ _) ?_
      refine sI rc243 rfl (Nat.le_of_ble_eq_true rfl) ?_
      refine CallI.mono hE ?_
      rintro _ _ ⟨y182, I179, R180, S181, rfl, rfl, gy182, hE⟩
      refine s61 gy177 gy182 (fun c183 => ?_) (fun c183 => ?_)
      · replace hE := hE.1 c183
        refine xG gb341.2.2.2.2.2.2.2.2.2.2.2.2.2.2.2.2.2.2.2.2.2.2.2.2.2.2.2.2.2.2.2.2.2.2.2.2.2.2.2.2.2.2.2.2.2.2.2.1 ?_
        refine s10 (x := x3) (ls' := [.ref 0, .ref 8, .ref 91, .int (oI (x3 + 7))]) rfl rfl ?_
        refine s60 ?_
        exact hE
      · replace hE := hE.2 c183
        refine s0 ?_
        refine s84 (by decide) ?_
        exact hE
    replace hE := hE.2
    by_cases c184 : iAnd (ld I 0 x3.toNat) 63 = 11
    · replace hE := hE.1 c184
      rw [show mSel ((jSW.getD 341 []).getD 0 []) (iAnd (ld I 0 x3.toNat) 63 - 0) = 13 by rw [c184]; rfl]
      refine xG gb341.2.2.2.2.2.2.2.2.2.2.2.2.2.1 ?_
      refine s6 (p := 8) rfl ?_
      refine s6 (p := 0) rfl ?_
      refine s4 (x := x3) rfl ?_
      refine s0 ?_
      refine s16 ?_
      obtain ⟨g185, hE⟩ := hE
      refine s40s (v := ld I 0 (x3 + 1).toNat) g185 g4 (oI_ld _ _ _) ?_
      refine s6 (p := 0) rfl ?_
      refine s4 (x := x3) rfl ?_
      refine s0 ?_
      refine s16 ?_
      obtain ⟨g186, hE⟩ := hE
      refine s40s (v := ld I 0 (x3 + 2).toNat) g186 g4 (oI_ld _ _ _) ?_
      refine sI rc18 rfl (Nat.le_of_ble_eq_true rfl) ?_
      refine CallI.mono hE ?_
      rintro _ _ ⟨y190, I187, R188, S189, rfl, rfl, gy190, hE⟩
      refine s6 (p := 91) rfl ?_
      refine s6 (p := 0) rfl ?_
      refine s4 (x := x3) rfl ?_
      refine s0 ?_
      refine s16 ?_
      obtain ⟨g191, hE⟩ := hE
      refine s40s (v := ld I187 0 (x3 + 1).toNat) g191 g4 (oI_ld _ _ _) ?_
      refine s6 (p := 0) rfl ?_
      refine s4 (x := x3) rfl ?_
      refine s0 ?_
      refine s16 ?_
      obtain ⟨g192, hE⟩ := hE
      refine s40s (v := ld I187 0 (x3 + 2).toNat) g192 g4 (oI_ld _ _ _) ?_
      refine sI rc244 rfl (Nat.le_of_ble_eq_true rfl) ?_
      refine CallI.mono hE ?_
      rintro _ _ ⟨y196, I193, R194, S195, rfl, rfl, gy196, hE⟩
      refine s61 gy190 gy196 (fun c197 => ?_) (fun c197 => ?_)
      · replace hE := hE.1 c197
        refine xG gb341.2.2.2.2.2.2.2.2.2.2.2.2.2.2.2.2.2.2.2.2.2.2.2.2.2.2.2.2.2.2.2.2.2.2.2.2.2.2.2.2.2.2.2.2.2.2.2.1 ?_
        refine s10 (x := x3) (ls' := [.ref 0, .ref 8, .ref 91, .int (oI (x3 + 7))]) rfl rfl ?_
        refine s60 ?_
        exact hE
      · replace hE := hE.2 c197
        refine s0 ?_
        refine s84 (by decide) ?_
        exact hE
    replace hE := hE.2
    by_cases c198 : iAnd (ld I 0 x3.toNat) 63 = 12
    · replace hE := hE.1 c198
      rw [show mSel ((jSW.getD 341 []).getD 0 []) (iAnd (ld I 0 x3.toNat) 63 - 0) = 14 by rw [c198]; rfl]
      refine xG gb341.2.2.2.2.2.2.2.2.2.2.2.2.2.2.1 ?_
      refine s6 (p := 8) rfl ?_
      refine s6 (p := 0) rfl ?_
      refine s4 (x := x3) rfl ?_
      refine s0 ?_
      refine s16 ?_
      obtain ⟨g199, hE⟩ := hE
      refine s40s (v := ld I 0 (x3 + 1).toNat) g199 g4 (oI_ld _ _ _) ?_
      refine s6 (p := 0) rfl ?_
      refine s4 (x := x3) rfl ?_
      refine s0 ?_
      refine s16 ?_
      obtain ⟨g200, hE⟩ := hE
      refine s40s (v := ld I 0 (x3 + 2).toNat) g200 g4 (oI_ld _ _ _) ?_
      refine s6 (p := 0) rfl ?_
      refine s4 (x := x3) rfl ?_
      refine s0 ?_
      refine s16 ?_
      obtain ⟨g201, hE⟩ := hE
      refine s40s (v := ld I 0 (x3 + 3).toNat) g201 g4 (oI_ld _ _ _) ?_
      refine sI rc19 rfl (Nat.le_of_ble_eq_true rfl) ?_
      refine CallI.mono hE ?_
      rintro _ _ ⟨y205, I202, R203, S204, rfl, rfl, gy205, hE⟩
      refine s6 (p := 91) rfl ?_
      refine s6 (p := 0) rfl ?_
      refine s4 (x := x3) rfl ?_
      refine s0 ?_
      refine s16 ?_
      obtain ⟨g206, hE⟩ := hE
      refine s40s (v := ld I202 0 (x3 + 1).toNat) g206 g4 (oI_ld _ _ _) ?_
      refine s6 (p := 0) rfl ?_
      refine s4 (x := x3) rfl ?_
      refine s0 ?_
      refine s16 ?_
      obtain ⟨g207, hE⟩ := hE
      refine s40s (v := ld I202 0 (x3 + 2).toNat) g207 g4 (oI_ld _ _ _) ?_
      refine s6 (p := 0) rfl ?_
      refine s4 (x := x3) rfl ?_
      refine s0 ?_
      refine s16 ?_
      obtain ⟨g208, hE⟩ := hE
      refine s40s (v := ld I202 0 (x3 + 3).toNat) g208 g4 (oI_ld _ _ _) ?_
      refine sI rc245 rfl (Nat.le_of_ble_eq_true rfl) ?_
      refine CallI.mono hE ?_
      rintro _ _ ⟨y212, I209, R210, S211, rfl, rfl, gy212, hE⟩
      refine s61 gy205 gy212 (fun c213 => ?_) (fun c213 => ?_)
      · replace hE := hE.1 c213
        refine xG gb341.2.2.2.2.2.2.2.2.2.2.2.2.2.2.2.2.2.2.2.2.2.2.2.2.2.2.2.2.2.2.2.2.2.2.2.2.2.2.2.2.2.2.2.2.2.2.2.1 ?_
        refine s10 (x := x3) (ls' := [.ref 0, .ref 8, .ref 91, .int (oI (x3 + 7))]) rfl rfl ?_
        refine s60 ?_
        exact hE
      · replace hE := hE.2 c213
        refine s0 ?_
        refine s84 (by decide) ?_
        exact hE
    replace hE := hE.2
    by_cases c214 : iAnd (ld I 0 x3.toNat) 63 = 13
    · replace hE := hE.1 c214
      rw [show mSel ((jSW.getD 341 []).getD 0 []) (iAnd (ld I 0 x3.toNat) 63 - 0) = 15 by rw [c214]; rfl]
      refine xG gb341.2.2.2.2.2.2.2.2.2.2.2.2.2.2.2.1 ?_
      refine s6 (p := 8) rfl ?_
      refine s6 (p := 0) rfl ?_
      refine s4 (x := x3) rfl ?_
      refine s0 ?_
      refine s16 ?_
      obtain ⟨g215, hE⟩ := hE
      refine s40s (v := ld I 0 (x3 + 1).toNat) g215 g4 (oI_ld _ _ _) ?_
      refine s6 (p := 0) rfl ?_
      refine s4 (x := x3) rfl ?_
      refine s0 ?_
      refine s16 ?_
      obtain ⟨g216, hE⟩ := hE
      refine s40s (v := ld I 0 (x3 + 2).toNat) g216 g4 (oI_ld _ _ _) ?_
      refine s6 (p := 0) rfl ?_
      refine s4 (x := x3) rfl ?_
      refine s0 ?_
      refine s16 ?_
      obtain ⟨g217, hE⟩ := hE
      refine s40s (v := ld I 0 (x3 + 3).toNat) g217 g4 (oI_ld _ _ _) ?_
      refine s6 (p := 0) rfl ?_
      refine s4 (x := x3) rfl ?_
      refine s0 ?_
      refine s16 ?_
      obtain ⟨g218, hE⟩ := hE
      refine s40s (v := ld I 0 (x3 + 4).toNat) g218 g4 (oI_ld _ _ _) ?_
      refine sI rc20 rfl (Nat.le_of_ble_eq_true rfl) ?_
      refine CallI.mono hE ?_
      rintro _ _ ⟨y222, I219, R220, S221, rfl, rfl, gy222, hE⟩
      refine s6 (p := 91) rfl ?_
      refine s6 (p := 0) rfl ?_
      refine s4 (x := x3) rfl ?_
      refine s0 ?_
      refine s16 ?_
      obtain ⟨g223, hE⟩ := hE
      refine s40s (v := ld I219 0 (x3 + 1).toNat) g223 g4 (oI_ld _ _ _) ?_
      refine s6 (p := 0) rfl ?_
      refine s4 (x := x3) rfl ?_
      refine s0 ?_
      refine s16 ?_
      obtain ⟨g224, hE⟩ := hE
      refine s40s (v := ld I219 0 (x3 + 2).toNat) g224 g4 (oI_ld _ _ _) ?_
      refine s6 (p := 0) rfl ?_
      refine s4 (x := x3) rfl ?_
      refine s0 ?_
      refine s16 ?_
      obtain ⟨g225, hE⟩ := hE
      refine s40s (v := ld I219 0 (x3 + 3).toNat) g225 g4 (oI_ld _ _ _) ?_
      refine s6 (p := 0) rfl ?_
      refine s4 (x := x3) rfl ?_
      refine s0 ?_
      refine s16 ?_
      obtain ⟨g226, hE⟩ := hE
      refine s40s (v := ld I219 0 (x3 + 4).toNat) g226 g4 (oI_ld _ _ _) ?_
      refine sI rc246 rfl (Nat.le_of_ble_eq_true rfl) ?_
      refine CallI.mono hE ?_
      rintro _ _ ⟨y230, I227, R228, S229, rfl, rfl, gy230, hE⟩
      refine s61 gy222 gy230 (fun c231 => ?_) (fun c231 => ?_)
      · replace hE := hE.1 c231
        refine xG gb341.2.2.2.2.2.2.2.2.2.2.2.2.2.2.2.2.2.2.2.2.2.2.2.2.2.2.2.2.2.2.2.2.2.2.2.2.2.2.2.2.2.2.2.2.2.2.2.1 ?_
        refine s10 (x := x3) (ls' := [.ref 0, .ref 8, .ref 91, .int (oI (x3 + 7))]) rfl rfl ?_
        refine s60 ?_
        exact hE
      · replace hE := hE.2 c231
        refine s0 ?_
        refine s84 (by decide) ?_
        exact hE
    replace hE := hE.2
    by_cases c232 : iAnd (ld I 0 x3.toNat) 63 = 14
    · replace hE := hE.1 c232
      rw [show mSel ((jSW.getD 341 []).getD 0 []) (iAnd (ld I 0 x3.toNat) 63 - 0) = 16 by rw [c232]; rfl]
      refine xG gb341.2.2.2.2.2.2.2.2.2.2.2.2.2.2.2.2.1 ?_
      refine s6 (p := 8) rfl ?_
      refine s6 (p := 0) rfl ?_
      refine s4 (x := x3) rfl ?_
      refine s0 ?_
      refine s16 ?_
      obtain ⟨g233, hE⟩ := hE
      refine s40s (v := ld I 0 (x3 + 1).toNat) g233 g4 (oI_ld _ _ _) ?_
      refine s6 (p := 0) rfl ?_
      refine s4 (x := x3) rfl ?_
      refine s0 ?_
      refine s16 ?_
      obtain ⟨g234, hE⟩ := hE
      refine s40s (v := ld I 0 (x3 + 2).toNat) g234 g4 (oI_ld _ _ _) ?_
      refine s6 (p := 0) rfl ?_
      refine s4 (x := x3) rfl ?_
      refine s0 ?_
      refine s16 ?_
      obtain ⟨g235, hE⟩ := hE
      refine s40s (v := ld I 0 (x3 + 3).toNat) g235 g4 (oI_ld _ _ _) ?_
      refine s6 (p := 0) rfl ?_
      refine s4 (x := x3) rfl ?_
      refine s0 ?_
      refine s16 ?_
      obtain ⟨g236, hE⟩ := hE
      refine s40s (v := ld I 0 (x3 + 4).toNat) g236 g4 (oI_ld _ _ _) ?_
      refine s6 (p := 0) rfl ?_
      refine s4 (x := x3) rfl ?_
      refine s0 ?_
      refine s16 ?_
      obtain ⟨g237, hE⟩ := hE
      refine s40s (v := ld I 0 (x3 + 5).toNat) g237 g4 (oI_ld _ _ _) ?_
      refine sI rc21 rfl (Nat.le_of_ble_eq_true rfl) ?_
      refine CallI.mono hE ?_
      rintro _ _ ⟨y241, I238, R239, S240, rfl, rfl, gy241, hE⟩
      refine s6 (p := 91) rfl ?_
      refine s6 (p := 0) rfl ?_
      refine s4 (x := x3) rfl ?_
      refine s0 ?_
      refine s16 ?_
      obtain ⟨g242, hE⟩ := hE
      refine s40s (v := ld I238 0 (x3 + 1).toNat) g242 g4 (oI_ld _ _ _) ?_
      refine s6 (p := 0) rfl ?_
      refine s4 (x := x3) rfl ?_
      refine s0 ?_
      refine s16 ?_
      obtain ⟨g243, hE⟩ := hE
      refine s40s (v := ld I238 0 (x3 + 2).toNat) g243 g4 (oI_ld _ _ _) ?_
      refine s6 (p := 0) rfl ?_
      refine s4 (x := x3) rfl ?_
      refine s0 ?_
      refine s16 ?_
      obtain ⟨g244, hE⟩ := hE
      refine s40s (v := ld I238 0 (x3 + 3).toNat) g244 g4 (oI_ld _ _ _) ?_
      refine s6 (p := 0) rfl ?_
      refine s4 (x := x3) rfl ?_
      refine s0 ?_
      refine s16 ?_
      obtain ⟨g245, hE⟩ := hE
      refine s40s (v := ld I238 0 (x3 + 4).toNat) g245 g4 (oI_ld _ _ _) ?_
      refine s6 (p := 0) rfl ?_
      refine s4 (x := x3) rfl ?_
      refine s0 ?_
      refine s16 ?_
      obtain ⟨g246, hE⟩ := hE
      refine s40s (v := ld I238 0 (x3 + 5).toNat) g246 g4 (oI_ld _ _ _) ?_
      refine sI rc248 rfl (Nat.le_of_ble_eq_true rfl) ?_
      refine CallI.mono hE ?_
      rintro _ _ ⟨y250, I247, R248, S249, rfl, rfl, gy250, hE⟩
      refine s61 gy241 gy250 (fun c251 => ?_) (fun c251 => ?_)
      · replace hE := hE.1 c251
        refine xG gb341.2.2.2.2.2.2.2.2.2.2.2.2.2.2.2.2.2.2.2.2.2.2.2.2.2.2.2.2.2.2.2.2.2.2.2.2.2.2.2.2.2.2.2.2.2.2.2.1 ?_
        refine s10 (x := x3) (ls' := [.ref 0, .ref 8, .ref 91, .int (oI (x3 + 7))]) rfl rfl ?_
        refine s60 ?_
        exact hE
      · replace hE := hE.2 c251
        refine s0 ?_
        refine s84 (by decide) ?_
        exact hE
    replace hE := hE.2
    by_cases c252 : iAnd (ld I 0 x3.toNat) 63 = 15
    · replace hE := hE.1 c252
      rw [show mSel ((jSW.getD 341 []).getD 0 []) (iAnd (ld I 0 x3.toNat) 63 - 0) = 17 by rw [c252]; rfl]
      refine xG gb341.2.2.2.2.2.2.2.2.2.2.2.2.2.2.2.2.2.1 ?_
      refine s6 (p := 8) rfl ?_
      refine s6 (p := 0) rfl ?_
      refine s4 (x := x3) rfl ?_
      refine s0 ?_
      refine s16 ?_
      obtain ⟨g253, hE⟩ := hE
      refine s40s (v := ld I 0 (x3 + 1).toNat) g253 g4 (oI_ld _ _ _) ?_
      refine s6 (p := 0) rfl ?_
      refine s4 (x := x3) rfl ?_
      refine s0 ?_
      refine s16 ?_
      obtain ⟨g254, hE⟩ := hE
      refine s40s (v := ld I 0 (x3 + 2).toNat) g254 g4 (oI_ld _ _ _) ?_
      refine s6 (p := 0) rfl ?_
      refine s4 (x := x3) rfl ?_
      refine s0 ?_
      refine s16 ?_
      obtain ⟨g255, hE⟩ := hE
      refine s40s (v := ld I 0 (x3 + 3).toNat) g255 g4 (oI_ld _ _ _) ?_
      refine s6 (p := 0) rfl ?_
      refine s4 (x := x3) rfl ?_
      refine s0 ?_
      refine s16 ?_
      obtain ⟨g256, hE⟩ := hE
      refine s40s (v := ld I 0 (x3 + 4).toNat) g256 g4 (oI_ld _ _ _) ?_
      refine sI rc23 rfl (Nat.le_of_ble_eq_true rfl) ?_
      refine CallI.mono hE ?_
      rintro _ _ ⟨y260, I257, R258, S259, rfl, rfl, gy260, hE⟩
      refine s6 (p := 91) rfl ?_
      refine s6 (p := 0) rfl ?_
      refine s4 (x := x3) rfl ?_
      refine s0 ?_
      refine s16 ?_
      obtain ⟨g261, hE⟩ := hE
      refine s40s (v := ld I257 0 (x3 + 1).toNat) g261 g4 (oI_ld _ _ _) ?_
      refine s6 (p := 0) rfl ?_
      refine s4 (x := x3) rfl ?_
      refine s0 ?_
      refine s16 ?_
      obtain ⟨g262, hE⟩ := hE
      refine s40s (v := ld I257 0 (x3 + 2).toNat) g262 g4 (oI_ld _ _ _) ?_
      refine s6 (p := 0) rfl ?_
      refine s4 (x := x3) rfl ?_
      refine s0 ?_
      refine s16 ?_
      obtain ⟨g263, hE⟩ := hE
      refine s40s (v := ld I257 0 (x3 + 3).toNat) g263 g4 (oI_ld _ _ _) ?_
      refine s6 (p := 0) rfl ?_
      refine s4 (x := x3) rfl ?_
      refine s0 ?_
      refine s16 ?_
      obtain ⟨g264, hE⟩ := hE
      refine s40s (v := ld I257 0 (x3 + 4).toNat) g264 g4 (oI_ld _ _ _) ?_
      refine sI rc255 rfl (Nat.le_of_ble_eq_true rfl) ?_
      refine CallI.mono hE ?_
      rintro _ _ ⟨y268, I265, R266, S267, rfl, rfl, gy268, hE⟩
      refine s61 gy260 gy268 (fun c269 => ?_) (fun c269 => ?_)
      · replace hE := hE.1 c269
        refine xG gb341.2.2.2.2.2.2.2.2.2.2.2.2.2.2.2.2.2.2.2.2.2.2.2.2.2.2.2.2.2.2.2.2.2.2.2.2.2.2.2.2.2.2.2.2.2.2.2.1 ?_
        refine s10 (x := x3) (ls' := [.ref 0, .ref 8, .ref 91, .int (oI (x3 + 7))]) rfl rfl ?_
        refine s60 ?_
        exact hE
      · replace hE := hE.2 c269
        refine s0 ?_
        refine s84 (by decide) ?_
        exact hE
    replace hE := hE.2
    by_cases c270 : iAnd (ld I 0 x3.toNat) 63 = 16
    · replace hE := hE.1 c270
      rw [show mSel ((jSW.getD 341 []).getD 0 []) (iAnd (ld I 0 x3.toNat) 63 - 0) = 18 by rw [c270]; rfl]
      refine xG gb341.2.2.2.2.2.2.2.2.2.2.2.2.2.2.2.2.2.2.1 ?_
      refine s6 (p := 8) rfl ?_
      refine s6 (p := 0) rfl ?_
      refine s4 (x := x3) rfl ?_
      refine s0 ?_
      refine s16 ?_
      obtain ⟨g271, hE⟩ := hE
      refine s40s (v := ld I 0 (x3 + 1).toNat) g271 g4 (oI_ld _ _ _) ?_
      refine s6 (p := 0) rfl ?_
      refine s4 (x := x3) rfl ?_
      refine s0 ?_
      refine s16 ?_
      obtain ⟨g272, hE⟩ := hE
      refine s40s (v := ld I 0 (x3 + 2).toNat) g272 g4 (oI_ld _ _ _) ?_
      refine s6 (p := 0) rfl ?_
      refine s4 (x := x3) rfl ?_
      refine s0 ?_
      refine s16 ?_
      obtain ⟨g273, hE⟩ := hE
      refine s40s (v := ld I 0 (x3 + 3).toNat) g273 g4 (oI_ld _ _ _) ?_
      refine sI rc24 rfl (Nat.le_of_ble_eq_true rfl) ?_
      refine CallI.mono hE ?_
      rintro _ _ ⟨y277, I274, R275, S276, rfl, rfl, gy277, hE⟩
      refine s6 (p := 91) rfl ?_
      refine s6 (p := 0) rfl ?_
      refine s4 (x := x3) rfl ?_
      refine s0 ?_
      refine s16 ?_
      obtain ⟨g278, hE⟩ := hE
      refine s40s (v := ld I274 0 (x3 + 1).toNat) g278 g4 (oI_ld _ _ _) ?_
      refine s6 (p := 0) rfl ?_
      refine s4 (x := x3) rfl ?_
      refine s0 ?_
      refine s16 ?_
      obtain ⟨g279, hE⟩ := hE
      refine s40s (v := ld I274 0 (x3 + 2).toNat) g279 g4 (oI_ld _ _ _) ?_
      refine s6 (p := 0) rfl ?_
      refine s4 (x := x3) rfl ?_
      refine s0 ?_
      refine s16 ?_
      obtain ⟨g280, hE⟩ := hE
      refine s40s (v := ld I274 0 (x3 + 3).toNat) g280 g4 (oI_ld _ _ _) ?_
      refine sI rc257 rfl (Nat.le_of_ble_eq_true rfl) ?_
      refine CallI.mono hE ?_
      rintro _ _ ⟨y284, I281, R282, S283, rfl, rfl, gy284, hE⟩
      refine s61 gy277 gy284 (fun c285 => ?_) (fun c285 => ?_)
      · replace hE := hE.1 c285
        refine xG gb341.2.2.2.2.2.2.2.2.2.2.2.2.2.2.2.2.2.2.2.2.2.2.2.2.2.2.2.2.2.2.2.2.2.2.2.2.2.2.2.2.2.2.2.2.2.2.2.1 ?_
        refine s10 (x := x3) (ls' := [.ref 0, .ref 8, .ref 91, .int (oI (x3 + 7))]) rfl rfl ?_
        refine s60 ?_
        exact hE
      · replace hE := hE.2 c285
        refine s0 ?_
        refine s84 (by decide) ?_
        exact hE
    replace hE := hE.2
    by_cases c286 : iAnd (ld I 0 x3.toNat) 63 = 17
    · replace hE := hE.1 c286
      rw [show mSel ((jSW.getD 341 []).getD 0 []) (iAnd (ld I 0 x3.toNat) 63 - 0) = 19 by rw [c286]; rfl]
      refine xG gb341.2.2.2.2.2.2.2.2.2.2.2.2.2.2.2.2.2.2.2.1 ?_
      refine s6 (p := 8) rfl ?_
      refine s6 (p := 0) rfl ?_
      refine s4 (x := x3) rfl ?_
      refine s0 ?_
      refine s16 ?_
      obtain ⟨g287, hE⟩ := hE
      refine s40s (v := ld I 0 (x3 + 1).toNat) g287 g4 (oI_ld _ _ _) ?_
      refine s6 (p := 0) rfl ?_
      refine s4 (x := x3) rfl ?_
      refine s0 ?_
      refine s16 ?_
      obtain ⟨g288, hE⟩ := hE
      refine s40s (v := ld I 0 (x3 + 2).toNat) g288 g4 (oI_ld _ _ _) ?_
      refine s6 (p := 0) rfl ?_
      refine s4 (x := x3) rfl ?_
      refine s0 ?_
      refine s16 ?_
      obtain ⟨g289, hE⟩ := hE
      refine s40s (v := ld I 0 (x3 + 3).toNat) g289 g4 (oI_ld _ _ _) ?_
      refine s6 (p := 0) rfl ?_
      refine s4 (x := x3) rfl ?_
      refine s0 ?_
      refine s16 ?_
      obtain ⟨g290, hE⟩ := hE
      refine s40s (v := ld I 0 (x3 + 4).toNat) g290 g4 (oI_ld _ _ _) ?_
      refine sI rc25 rfl (Nat.le_of_ble_eq_true rfl) ?_
      refine CallI.mono hE ?_
      rintro _ _ ⟨y294, I291, R292, S293, rfl, rfl, gy294, hE⟩
      refine s6 (p := 91) rfl ?_
      refine s6 (p := 0) rfl ?_
      refine s4 (x := x3) rfl ?_
      refine s0 ?_
      refine s16 ?_
      obtain ⟨g295, hE⟩ := hE
      refine s40s (v := ld I291 0 (x3 + 1).toNat) g295 g4 (oI_ld _ _ _) ?_
      refine s6 (p := 0) rfl ?_
      refine s4 (x := x3) rfl ?_
      refine s0 ?_
      refine s16 ?_
      obtain ⟨g296, hE⟩ := hE
      refine s40s (v := ld I291 0 (x3 + 2).toNat) g296 g4 (oI_ld _ _ _) ?_
      refine s6 (p := 0) rfl ?_
      refine s4 (x := x3) rfl ?_
      refine s0 ?_
      refine s16 ?_
      obtain ⟨g297, hE⟩ := hE
      refine s40s (v := ld I291 0 (x3 + 3).toNat) g297 g4 (oI_ld _ _ _) ?_
      refine s6 (p := 0) rfl ?_
      refine s4 (x := x3) rfl ?_
      refine s0 ?_
      refine s16 ?_
      obtain ⟨g298, hE⟩ := hE
      refine s40s (v := ld I291 0 (x3 + 4).toNat) g298 g4 (oI_ld _ _ _) ?_
      refine sI rc258 rfl (Nat.le_of_ble_eq_true rfl) ?_
      refine CallI.mono hE ?_
      rintro _ _ ⟨y302, I299, R300, S301, rfl, rfl, gy302, hE⟩
      refine s61 gy294 gy302 (fun c303 => ?_) (fun c303 => ?_)
      · replace hE := hE.1 c303
        refine xG gb341.2.2.2.2.2.2.2.2.2.2.2.2.2.2.2.2.2.2.2.2.2.2.2.2.2.2.2.2.2.2.2.2.2.2.2.2.2.2.2.2.2.2.2.2.2.2.2.1 ?_
        refine s10 (x := x3) (ls' := [.ref 0, .ref 8, .ref 91, .int (oI (x3 + 7))]) rfl rfl ?_
        refine s60 ?_
        exact hE
      · replace hE := hE.2 c303
        refine s0 ?_
        refine s84 (by decide) ?_
        exact hE
    replace hE := hE.2
    by_cases c304 : iAnd (ld I 0 x3.toNat) 63 = 18
    · replace hE := hE.1 c304
      rw [show mSel ((jSW.getD 341 []).getD 0 []) (iAnd (ld I 0 x3.toNat) 63 - 0) = 20 by rw [c304]; rfl]
      refine xG gb341.2.2.2.2.2.2.2.2.2.2.2.2.2.2.2.2.2.2.2.2.1 ?_
      refine s6 (p := 8) rfl ?_
      refine s6 (p := 0) rfl ?_
      refine s4 (x := x3) rfl ?_
      refine s0 ?_
      refine s16 ?_
      obtain ⟨g305, hE⟩ := hE
      refine s40s (v := ld I 0 (x3 + 1).toNat) g305 g4 (oI_ld _ _ _) ?_
      refine s6 (p := 0) rfl ?_
      refine s4 (x := x3) rfl ?_
      refine s0 ?_
      refine s16 ?_
      obtain ⟨g306, hE⟩ := hE
      refine s40s (v := ld I 0 (x3 + 2).toNat) g306 g4 (oI_ld _ _ _) ?_
      refine s6 (p := 0) rfl ?_
      refine s4 (x := x3) rfl ?_
      refine s0 ?_
      refine s16 ?_
      obtain ⟨g307, hE⟩ := hE
      refine s40s (v := ld I 0 (x3 + 3).toNat) g307 g4 (oI_ld _ _ _) ?_
      refine s6 (p := 0) rfl ?_
      refine s4 (x := x3) rfl ?_
      refine s0 ?_
      refine s16 ?_
      obtain ⟨g308, hE⟩ := hE
      refine s40s (v := ld I 0 (x3 + 4).toNat) g308 g4 (oI_ld _ _ _) ?_
      refine s6 (p := 0) rfl ?_
      refine s4 (x := x3) rfl ?_
      refine s0 ?_
      refine s16 ?_
      obtain ⟨g309, hE⟩ := hE
      refine s40s (v := ld I 0 (x3 + 5).toNat) g309 g4 (oI_ld _ _ _) ?_
      refine sI rc26 rfl (Nat.le_of_ble_eq_true rfl) ?_
      refine CallI.mono hE ?_
      rintro _ _ ⟨y313, I310, R311, S312, rfl, rfl, gy313, hE⟩
      refine s6 (p := 91) rfl ?_
      refine s6 (p := 0) rfl ?_
      refine s4 (x := x3) rfl ?_
      refine s0 ?_
      refine s16 ?_
      obtain ⟨g314, hE⟩ := hE
      refine s40s (v := ld I310 0 (x3 + 1).toNat) g314 g4 (oI_ld _ _ _) ?_
      refine s6 (p := 0) rfl ?_
      refine s4 (x := x3) rfl ?_
      refine s0 ?_
      refine s16 ?_
      obtain ⟨g315, hE⟩ := hE
      refine s40s (v := ld I310 0 (x3 + 2).toNat) g315 g4 (oI_ld _ _ _) ?_
      refine s6 (p := 0) rfl ?_
      refine s4 (x := x3) rfl ?_
      refine s0 ?_
      refine s16 ?_
      obtain ⟨g316, hE⟩ := hE
      refine s40s (v := ld I310 0 (x3 + 3).toNat) g316 g4 (oI_ld _ _ _) ?_
      refine s6 (p := 0) rfl ?_
      refine s4 (x := x3) rfl ?_
      refine s0 ?_
      refine s16 ?_
      obtain ⟨g317, hE⟩ := hE
      refine s40s (v := ld I310 0 (x3 + 4).toNat) g317 g4 (oI_ld _ _ _) ?_
      refine s6 (p := 0) rfl ?_
      refine s4 (x := x3) rfl ?_
      refine s0 ?_
      refine s16 ?_
      obtain ⟨g318, hE⟩ := hE
      refine s40s (v := ld I310 0 (x3 + 5).toNat) g318 g4 (oI_ld _ _ _) ?_
      refine sI rc259 rfl (Nat.le_of_ble_eq_true rfl) ?_
      refine CallI.mono hE ?_
      rintro _ _ ⟨y322, I319, R320, S321, rfl, rfl, gy322, hE⟩
      refine s61 gy313 gy322 (fun c323 => ?_) (fun c323 => ?_)
      · replace hE := hE.1 c323
        refine xG gb341.2.2.2.2.2.2.2.2.2.2.2.2.2.2.2.2.2.2.2.2.2.2.2.2.2.2.2.2.2.2.2.2.2.2.2.2.2.2.2.2.2.2.2.2.2.2.2.1 ?_
        refine s10 (x := x3) (ls' := [.ref 0, .ref 8, .ref 91, .int (oI (x3 + 7))]) rfl rfl ?_
        refine s60 ?_
        exact hE
      · replace hE := hE.2 c323
        refine s0 ?_
        refine s84 (by decide) ?_
        exact hE
    replace hE := hE.2
    by_cases c324 : iAnd (ld I 0 x3.toNat) 63 = 19
    · replace hE := hE.1 c324
      rw [show mSel ((jSW.getD 341 []).getD 0 []) (iAnd (ld I 0 x3.toNat) 63 - 0) = 21 by rw [c324]; rfl]
      refine xG gb341.2.2.2.2.2.2.2.2.2.2.2.2.2.2.2.2.2.2.2.2.2.1 ?_
      refine s6 (p := 8) rfl ?_
      refine s6 (p := 0) rfl ?_
      refine s4 (x := x3) rfl ?_
      refine s0 ?_
      refine s16 ?_
      obtain ⟨g325, hE⟩ := hE
      refine s40s (v := ld I 0 (x3 + 1).toNat) g325 g4 (oI_ld _ _ _) ?_
      refine s6 (p := 0) rfl ?_
      refine s4 (x := x3) rfl ?_
      refine s0 ?_
      refine s16 ?_
      obtain ⟨g326, hE⟩ := hE
      refine s40s (v := ld I 0 (x3 + 2).toNat) g326 g4 (oI_ld _ _ _) ?_
      refine s6 (p := 0) rfl ?_
      refine s4 (x := x3) rfl ?_
      refine s0 ?_
      refine s16 ?_
      obtain ⟨g327, hE⟩ := hE
      refine s40s (v := ld I 0 (x3 + 3).toNat) g327 g4 (oI_ld _ _ _) ?_
      refine s6 (p := 0) rfl ?_
      refine s4 (x := x3) rfl ?_
      refine s0 ?_
      refine s16 ?_
      obtain ⟨g328, hE⟩ := hE
      refine s40s (v := ld I 0 (x3 + 4).toNat) g328 g4 (oI_ld _ _ _) ?_
      refine s6 (p := 0) rfl ?_
      refine s4 (x := x3) rfl ?_
      refine s0 ?_
      refine s16 ?_
      obtain ⟨g329, hE⟩ := hE
      refine s40s (v := ld I 0 (x3 + 5).toNat) g329 g4 (oI_ld _ _ _) ?_
      refine s6 (p := 0) rfl ?_
      refine s4 (x := x3) rfl ?_
      refine s0 ?_
      refine s16 ?_
      obtain ⟨g330, hE⟩ := hE
      refine s40s (v := ld I 0 (x3 + 6).toNat) g330 g4 (oI_ld _ _ _) ?_
      refine sI rc28 rfl (Nat.le_of_ble_eq_true rfl) ?_
      refine CallI.mono hE ?_
      rintro _ _ ⟨y334, I331, R332, S333, rfl, rfl, gy334, hE⟩
      refine s6 (p := 91) rfl ?_
      refine s6 (p := 0) rfl ?_
      refine s4 (x := x3) rfl ?_
      refine s0 ?_
      refine s16 ?_
      obtain ⟨g335, hE⟩ := hE
      refine s40s (v := ld I331 0 (x3 + 1).toNat) g335 g4 (oI_ld _ _ _) ?_
      refine s6 (p := 0) rfl ?_
      refine s4 (x := x3) rfl ?_
      refine s0 ?_
      refine s16 ?_
      obtain ⟨g336, hE⟩ := hE
      refine s40s (v := ld I331 0 (x3 + 2).toNat) g336 g4 (oI_ld _ _ _) ?_
      refine s6 (p := 0) rfl ?_
      refine s4 (x := x3) rfl ?_
      refine s0 ?_
      refine s16 ?_
      obtain ⟨g337, hE⟩ := hE
      refine s40s (v := ld I331 0 (x3 + 3).toNat) g337 g4 (oI_ld _ _ _) ?_
      refine s6 (p := 0) rfl ?_
      refine s4 (x := x3) rfl ?_
      refine s0 ?_
      refine s16 ?_
      obtain ⟨g338, hE⟩ := hE
      refine s40s (v := ld I331 0 (x3 + 4).toNat) g338 g4 (oI_ld _ _ _) ?_
      refine s6 (p := 0) rfl ?_
      refine s4 (x := x3) rfl ?_
      refine s0 ?_
      refine s16 ?_
      obtain ⟨g339, hE⟩ := hE
      refine s40s (v := ld I331 0 (x3 + 5).toNat) g339 g4 (oI_ld _ _ _) ?_
      refine s6 (p := 0) rfl ?_
      refine s4 (x := x3) rfl ?_
      refine s0 ?_
      refine s16 ?_
      obtain ⟨g340, hE⟩ := hE
      refine s40s (v := ld I331 0 (x3 + 6).toNat) g340 g4 (oI_ld _ _ _) ?_
      refine sI rc265 rfl (Nat.le_of_ble_eq_true rfl) ?_
      refine CallI.mono hE ?_
      rintro _ _ ⟨y344, I341, R342, S343, rfl, rfl, gy344, hE⟩
      refine s61 gy334 gy344 (fun c345 => ?_) (fun c345 => ?_)
      · replace hE := hE.1 c345
        refine xG gb341.2.2.2.2.2.2.2.2.2.2.2.2.2.2.2.2.2.2.2.2.2.2.2.2.2.2.2.2.2.2.2.2.2.2.2.2.2.2.2.2.2.2.2.2.2.2.2.1 ?_
        refine s10 (x := x3) (ls' := [.ref 0, .ref 8, .ref 91, .int (oI (x3 + 7))]) rfl rfl ?_
        refine s60 ?_
        exact hE
      · replace hE := hE.2 c345
        refine s0 ?_
        refine s84 (by decide) ?_
        exact hE
    replace hE := hE.2
    by_cases c346 : iAnd (ld I 0 x3.toNat) 63 = 20
    · replace hE := hE.1 c346
      rw [show mSel ((jSW.getD 341 []).getD 0 []) (iAnd (ld I 0 x3.toNat) 63 - 0) = 22 by rw [c346]; rfl]
      refine xG gb341.2.2.2.2.2.2.2.2.2.2.2.2.2.2.2.2.2.2.2.2.2.2.1 ?_
      refine s6 (p := 8) rfl ?_
      refine s6 (p := 0) rfl ?_
      refine s4 (x := x3) rfl ?_
      refine s0 ?_
      refine s16 ?_
      obtain ⟨g347, hE⟩ := hE
      refine s40s (v := ld I 0 (x3 + 1).toNat) g347 g4 (oI_ld _ _ _) ?_
      refine s6 (p := 0) rfl ?_
      refine s4 (x := x3) rfl ?_
      refine s0 ?_
      refine s16 ?_
      obtain ⟨g348, hE⟩ := hE
      refine s40s (v := ld I 0 (x3 + 2).toNat) g348 g4 (oI_ld _ _ _) ?_
      refine s6 (p := 0) rfl ?_
      refine s4 (x := x3) rfl ?_
      refine s0 ?_
      refine s16 ?_
      obtain ⟨g349, hE⟩ := hE
      refine s40s (v := ld I 0 (x3 + 3).toNat) g349 g4 (oI_ld _ _ _) ?_
      refine sI rc29 rfl (Nat.le_of_ble_eq_true rfl) ?_
      refine CallI.mono hE ?_
      rintro _ _ ⟨y353, I350, R351, S352, rfl, rfl, gy353, hE⟩
      refine s6 (p := 91) rfl ?_
      refine s6 (p := 0) rfl ?_
      refine s4 (x := x3) rfl ?_
      refine s0 ?_
      refine s16 ?_
      obtain ⟨g354, hE⟩ := hE
      refine s40s (v := ld I350 0 (x3 + 1).toNat) g354 g4 (oI_ld _ _ _) ?_
      refine s6 (p := 0) rfl ?_
      refine s4 (x := x3) rfl ?_
      refine s0 ?_
      refine s16 ?_
      obtain ⟨g355, hE⟩ := hE
      refine s40s (v := ld I350 0 (x3 + 2).toNat) g355 g4 (oI_ld _ _ _) ?_
      refine s6 (p := 0) rfl ?_
      refine s4 (x := x3) rfl ?_
      refine s0 ?_
      refine s16 ?_
      obtain ⟨g356, hE⟩ := hE
      refine s40s (v := ld I350 0 (x3 + 3).toNat) g356 g4 (oI_ld _ _ _) ?_
      refine sI rc266 rfl (Nat.le_of_ble_eq_true rfl) ?_
      refine CallI.mono hE ?_
      rintro _ _ ⟨y360, I357, R358, S359, rfl, rfl, gy360, hE⟩
      refine s61 gy353 gy360 (fun c361 => ?_) (fun c361 => ?_)
      · replace hE := hE.1 c361
        refine xG gb341.2.2.2.2.2.2.2.2.2.2.2.2.2.2.2.2.2.2.2.2.2.2.2.2.2.2.2.2.2.2.2.2.2.2.2.2.2.2.2.2.2.2.2.2.2.2.2.1 ?_
        refine s10 (x := x3) (ls' := [.ref 0, .ref 8, .ref 91, .int (oI (x3 + 7))]) rfl rfl ?_
        refine s60 ?_
        exact hE
      · replace hE := hE.2 c361
        refine s0 ?_
        refine s84 (by decide) ?_
        exact hE
    replace hE := hE.2
    by_cases c362 : iAnd (ld I 0 x3.toNat) 63 = 21
    · replace hE := hE.1 c362
      rw [show mSel ((jSW.getD 341 []).getD 0 []) (iAnd (ld I 0 x3.toNat) 63 - 0) = 23 by rw [c362]; rfl]
      refine xG gb341.2.2.2.2.2.2.2.2.2.2.2.2.2.2.2.2.2.2.2.2.2.2.2.1 ?_
      refine s6 (p := 8) rfl ?_
      refine s6 (p := 0) rfl ?_
      refine s4 (x := x3) rfl ?_
      refine s0 ?_
      refine s16 ?_
      obtain ⟨g363, hE⟩ := hE
      refine s40s (v := ld I 0 (x3 + 1).toNat) g363 g4 (oI_ld _ _ _) ?_
      refine s6 (p := 0) rfl ?_
      refine s4 (x := x3) rfl ?_
      refine s0 ?_
      refine s16 ?_
      obtain ⟨g364, hE⟩ := hE
      refine s40s (v := ld I 0 (x3 + 2).toNat) g364 g4 (oI_ld _ _ _) ?_
      refine sI rc30 rfl (Nat.le_of_ble_eq_true rfl) ?_
      refine CallI.mono hE ?_
      rintro _ _ ⟨y368, I365, R366, S367, rfl, rfl, gy368, hE⟩
      refine s6 (p := 91) rfl ?_
      refine s6 (p := 0) rfl ?_
      refine s4 (x := x3) rfl ?_
      refine s0 ?_
      refine s16 ?_
      obtain ⟨g369, hE⟩ := hE
      refine s40s (v := ld I365 0 (x3 + 1).toNat) g369 g4 (oI_ld _ _ _) ?_
      refine s6 (p := 0) rfl ?_
      refine s4 (x := x3) rfl ?_
      refine s0 ?_
      refine s16 ?_
      obtain ⟨g370, hE⟩ := hE
      refine s40s (v := ld I365 0 (x3 + 2).toNat) g370 g4 (oI_ld _ _ _) ?_
      refine sI rc269 rfl (Nat.le_of_ble_eq_true rfl) ?_
      refine CallI.mono hE ?_
      rintro _ _ ⟨y374, I371, R372, S373, rfl, rfl, gy374, hE⟩
      refine s61 gy368 gy374 (fun c375 => ?_) (fun c375 => ?_)
      · replace hE := hE.1 c375
        refine xG gb341.2.2.2.2.2.2.2.2.2.2.2.2.2.2.2.2.2.2.2.2.2.2.2.2.2.2.2.2.2.2.2.2.2.2.2.2.2.2.2.2.2.2.2.2.2.2.2.1 ?_
        refine s10 (x := x3) (ls' := [.ref 0, .ref 8, .ref 91, .int (oI (x3 + 7))]) rfl rfl ?_
        refine s60 ?_
        exact hE
      · replace hE := hE.2 c375
        refine s0 ?_
        refine s84 (by decide) ?_
        exact hE
    replace hE := hE.2
    by_cases c376 : iAnd (ld I 0 x3.toNat) 63 = 22
    · replace hE := hE.1 c376
      rw [show mSel ((jSW.getD 341 []).getD 0 []) (iAnd (ld I 0 x3.toNat) 63 - 0) = 24 by rw [c376]; rfl]
      refine xG gb341.2.2.2.2.2.2.2.2.2.2.2.2.2.2.2.2.2.2.2.2.2.2.2.2.1 ?_
      refine s6 (p := 8) rfl ?_
      refine s6 (p := 0) rfl ?_
      refine s4 (x := x3) rfl ?_
      refine s0 ?_
      refine s16 ?_
      obtain ⟨g377, hE⟩ := hE
      refine s40s (v := ld I 0 (x3 + 1).toNat) g377 g4 (oI_ld _ _ _) ?_
      refine s6 (p := 0) rfl ?_
      refine s4 (x := x3) rfl ?_
      refine s0 ?_
      refine s16 ?_
      obtain ⟨g378, hE⟩ := hE
      refine s40s (v := ld I 0 (x3 + 2).toNat) g378 g4 (oI_ld _ _ _) ?_
      refine sI rc31 rfl (Nat.le_of_ble_eq_true rfl) ?_
      refine CallI.mono hE ?_
      rintro _ _ ⟨y382, I379, R380, S381, rfl, rfl, gy382, hE⟩
      refine s6 (p := 91) rfl ?_
      refine s6 (p := 0) rfl ?_
      refine s4 (x := x3) rfl ?_
      refine s0 ?_
      refine s16 ?_
      obtain ⟨g383, hE⟩ := hE
      refine s40s (v := ld I379 0 (x3 + 1).toNat) g383 g4 (oI_ld _ _ _) ?_
      refine s6 (p := 0) rfl ?_
      refine s4 (x := x3) rfl ?_
      refine s0 ?_
      refine s16 ?_
      obtain ⟨g384, hE⟩ := hE
      refine s40s (v := ld I379 0 (x3 + 2).toNat) g384 g4 (oI_ld _ _ _) ?_
      refine sI rc270 rfl (Nat.le_of_ble_eq_true rfl) ?_
      refine CallI.mono hE ?_
      rintro _ _ ⟨y388, I385, R386, S387, rfl, rfl, gy388, hE⟩
      refine s61 gy382 gy388 (fun c389 => ?_) (fun c389 => ?_)
      · replace hE := hE.1 c389
        refine xG gb341.2.2.2.2.2.2.2.2.2.2.2.2.2.2.2.2.2.2.2.2.2.2.2.2.2.2.2.2.2.2.2.2.2.2.2.2.2.2.2.2.2.2.2.2.2.2.2.1 ?_
        refine s10 (x := x3) (ls' := [.ref 0, .ref 8, .ref 91, .int (oI (x3 + 7))]) rfl rfl ?_
        refine s60 ?_
        exact hE
      · replace hE := hE.2 c389
        refine s0 ?_
        refine s84 (by decide) ?_
        exact hE
    replace hE := hE.2
    by_cases c390 : iAnd (ld I 0 x3.toNat) 63 = 23
    · replace hE := hE.1 c390
      rw [show mSel ((jSW.getD 341 []).getD 0 []) (iAnd (ld I 0 x3.toNat) 63 - 0) = 25 by rw [c390]; rfl]
      refine xG gb341.2.2.2.2.2.2.2.2.2.2.2.2.2.2.2.2.2.2.2.2.2.2.2.2.2.1 ?_
      refine s6 (p := 8) rfl ?_
      refine s6 (p := 0) rfl ?_
      refine s4 (x := x3) rfl ?_
      refine s0 ?_
      refine s16 ?_
      obtain ⟨g391, hE⟩ := hE
      refine s40s (v := ld I 0 (x3 + 1).toNat) g391 g4 (oI_ld _ _ _) ?_
      refine sI rc32 rfl (Nat.le_of_ble_eq_true rfl) ?_
      refine CallI.mono hE ?_
      rintro _ _ ⟨y395, I392, R393, S394, rfl, rfl, gy395, hE⟩
      refine s6 (p := 91) rfl ?_
      refine s6 (p := 0) rfl ?_
      refine s4 (x := x3) rfl ?_
      refine s0 ?_
      refine s16 ?_
      obtain ⟨g396, hE⟩ := hE
      refine s40s (v := ld I392 0 (x3 + 1).toNat) g396 g4 (oI_ld _ _ _) ?_
      refine sI rc271 rfl (Nat.le_of_ble_eq_true rfl) ?_
      refine CallI.mono hE ?_
      rintro _ _ ⟨y400, I397, R398, S399, rfl, rfl, gy400, hE⟩
      refine s61 gy395 gy400 (fun c401 => ?_) (fun c401 => ?_)
      · replace hE := hE.1 c401
        refine xG gb341.2.2.2.2.2.2.2.2.2.2.2.2.2.2.2.2.2.2.2.2.2.2.2.2.2.2.2.2.2.2.2.2.2.2.2.2.2.2.2.2.2.2.2.2.2.2.2.1 ?_
        refine s10 (x := x3) (ls' := [.ref 0, .ref 8, .ref 91, .int (oI (x3 + 7))]) rfl rfl ?_
        refine s60 ?_
        exact hE
      · replace hE := hE.2 c401
        refine s0 ?_
        refine s84 (by decide) ?_
        exact hE
    replace hE := hE.2
    by_cases c402 : iAnd (ld I 0 x3.toNat) 63 = 24
    · replace hE := hE.1 c402
      rw [show mSel ((jSW.getD 341 []).getD 0 []) (iAnd (ld I 0 x3.toNat) 63 - 0) = 26 by rw [c402]; rfl]
      refine xG gb341.2.2.2.2.2.2.2.2.2.2.2.2.2.2.2.2.2.2.2.2.2.2.2.2.2.2.1 ?_
      refine s6 (p := 8) rfl ?_
      refine s6 (p := 0) rfl ?_
      refine s4 (x := x3) rfl ?_
      refine s0 ?_
      refine s16 ?_
      obtain ⟨g403, hE⟩ := hE
      refine s40s (v := ld I 0 (x3 + 1).toNat) g403 g4 (oI_ld _ _ _) ?_
      refine s6 (p := 0) rfl ?_
      refine s4 (x := x3) rfl ?_
      refine s0 ?_
      refine s16 ?_
      obtain ⟨g404, hE⟩ := hE
      refine s40s (v := ld I 0 (x3 + 2).toNat) g404 g4 (oI_ld _ _ _) ?_
      refine s6 (p := 0) rfl ?_
      refine s4 (x := x3) rfl ?_
      refine s0 ?_
      refine s16 ?_
      obtain ⟨g405, hE⟩ := hE
      refine s40s (v := ld I 0 (x3 + 3).toNat) g405 g4 (oI_ld _ _ _) ?_
      refine sI rc33 rfl (Nat.le_of_ble_eq_true rfl) ?_
      refine CallI.mono hE ?_
      rintro _ _ ⟨y409, I406, R407, S408, rfl, rfl, gy409, hE⟩
      refine s6 (p := 91) rfl ?_
      refine s6 (p := 0) rfl ?_
      refine s4 (x := x3) rfl ?_
      refine s0 ?_
      refine s16 ?_
      obtain ⟨g410, hE⟩ := hE
      refine s40s (v := ld I406 0 (x3 + 1).toNat) g410 g4 (oI_ld _ _ _) ?_
      refine s6 (p := 0) rfl ?_
      refine s4 (x := x3) rfl ?_
      refine s0 ?_
      refine s16 ?_
      obtain ⟨g411, hE⟩ := hE
      refine s40s (v := ld I406 0 (x3 + 2).toNat) g411 g4 (oI_ld _ _ _) ?_
      refine s6 (p := 0) rfl ?_
      refine s4 (x := x3) rfl ?_
      refine s0 ?_
      refine s16 ?_
      obtain ⟨g412, hE⟩ := hE
      refine s40s (v := ld I406 0 (x3 + 3).toNat) g412 g4 (oI_ld _ _ _) ?_
      refine sI rc272 rfl (Nat.le_of_ble_eq_true rfl) ?_
      refine CallI.mono hE ?_
      rintro _ _ ⟨y416, I413, R414, S415, rfl, rfl, gy416, hE⟩
      refine s61 gy409 gy416 (fun c417 => ?_) (fun c417 => ?_)
      · replace hE := hE.1 c417
        refine xG gb341.2.2.2.2.2.2.2.2.2.2.2.2.2.2.2.2.2.2.2.2.2.2.2.2.2.2.2.2.2.2.2.2.2.2.2.2.2.2.2.2.2.2.2.2.2.2.2.1 ?_
        refine s10 (x := x3) (ls' := [.ref 0, .ref 8, .ref 91, .int (oI (x3 + 7))]) rfl rfl ?_
        refine s60 ?_
        exact hE
      · replace hE := hE.2 c417
        refine s0 ?_
        refine s84 (by decide) ?_
        exact hE
    replace hE := hE.2
    by_cases c418 : iAnd (ld I 0 x3.toNat) 63 = 25
    · replace hE := hE.1 c418
      rw [show mSel ((jSW.getD 341 []).getD 0 []) (iAnd (ld I 0 x3.toNat) 63 - 0) = 27 by rw [c418]; rfl]
      refine xG gb341.2.2.2.2.2.2.2.2.2.2.2.2.2.2.2.2.2.2.2.2.2.2.2.2.2.2.2.1 ?_
      refine s6 (p := 8) rfl ?_
      refine s6 (p := 0) rfl ?_
      refine s4 (x := x3) rfl ?_
      refine s0 ?_
      refine s16 ?_
      obtain ⟨g419, hE⟩ := hE
      refine s40s (v := ld I 0 (x3 + 1).toNat) g419 g4 (oI_ld _ _ _) ?_
      refine s6 (p := 0) rfl ?_
      refine s4 (x := x3) rfl ?_
      refine s0 ?_
      refine s16 ?_
      obtain ⟨g420, hE⟩ := hE
      refine s40s (v := ld I 0 (x3 + 2).toNat) g420 g4 (oI_ld _ _ _) ?_
      refine s6 (p := 0) rfl ?_
      refine s4 (x := x3) rfl ?_
      refine s0 ?_
      refine s16 ?_
      obtain ⟨g421, hE⟩ := hE
      refine s40s (v := ld I 0 (x3 + 3).toNat) g421 g4 (oI_ld _ _ _) ?_
      refine sI rc35 rfl (Nat.le_of_ble_eq_true rfl) ?_
      refine CallI.mono hE ?_
      rintro _ _ ⟨y425, I422, R423, S424, rfl, rfl, gy425, hE⟩
      refine s6 (p := 91) rfl ?_
      refine s6 (p := 0) rfl ?_
      refine s4 (x := x3) rfl ?_
      refine s0 ?_
      refine s16 ?_
      obtain ⟨g426, hE⟩ := hE
      refine s40s (v := ld I422 0 (x3 + 1).toNat) g426 g4 (oI_ld _ _ _) ?_
      refine s6 (p := 0) rfl ?_
      refine s4 (x := x3) rfl ?_
      refine s0 ?_
      refine s16 ?_
      obtain ⟨g427, hE⟩ := hE
      refine s40s (v := ld I422 0 (x3 + 2).toNat) g427 g4 (oI_ld _ _ _) ?_
      refine s6 (p := 0) rfl ?_
      refine s4 (x := x3) rfl ?_
      refine s0 ?_
      refine s16 ?_
      obtain ⟨g428, hE⟩ := hE
      refine s40s (v := ld I422 0 (x3 + 3).toNat) g428 g4 (oI_ld _ _ _) ?_
      refine sI rc273 rfl (Nat.le_of_ble_eq_true rfl) ?_
      refine CallI.mono hE ?_
      rintro _ _ ⟨y432, I429, R430, S431, rfl, rfl, gy432, hE⟩
      refine s61 gy425 gy432 (fun c433 => ?_) (fun c433 => ?_)
      · replace hE := hE.1 c433
        refine xG gb341.2.2.2.2.2.2.2.2.2.2.2.2.2.2.2.2.2.2.2.2.2.2.2.2.2.2.2.2.2.2.2.2.2.2.2.2.2.2.2.2.2.2.2.2.2.2.2.1 ?_
        refine s10 (x := x3) (ls' := [.ref 0, .ref 8, .ref 91, .int (oI (x3 + 7))]) rfl rfl ?_
        refine s60 ?_
        exact hE
      · replace hE := hE.2 c433
        refine s0 ?_
        refine s84 (by decide) ?_
        exact hE
    replace hE := hE.2
    by_cases c434 : iAnd (ld I 0 x3.toNat) 63 = 26
    · replace hE := hE.1 c434
      rw [show mSel ((jSW.getD 341 []).getD 0 []) (iAnd (ld I 0 x3.toNat) 63 - 0) = 28 by rw [c434]; rfl]
      refine xG gb341.2.2.2.2.2.2.2.2.2.2.2.2.2.2.2.2.2.2.2.2.2.2.2.2.2.2.2.2.1 ?_
      refine s6 (p := 8) rfl ?_
      refine s6 (p := 0) rfl ?_
      refine s4 (x := x3) rfl ?_
      refine s0 ?_
      refine s16 ?_
      obtain ⟨g435, hE⟩ := hE
      refine s40s (v := ld I 0 (x3 + 1).toNat) g435 g4 (oI_ld _ _ _) ?_
      refine s6 (p := 0) rfl ?_
      refine s4 (x := x3) rfl ?_
      refine s0 ?_
      refine s16 ?_
      obtain ⟨g436, hE⟩ := hE
      refine s40s (v := ld I 0 (x3 + 2).toNat) g436 g4 (oI_ld _ _ _) ?_
      refine s6 (p := 0) rfl ?_
      refine s4 (x := x3) rfl ?_
      refine s0 ?_
      refine s16 ?_
      obtain ⟨g437, hE⟩ := hE
      refine s40s (v := ld I 0 (x3 + 3).toNat) g437 g4 (oI_ld _ _ _) ?_
      refine s6 (p := 0) rfl ?_
      refine s4 (x := x3) rfl ?_
      refine s0 ?_
      refine s16 ?_
      obtain ⟨g438, hE⟩ := hE
      refine s40s (v := ld I 0 (x3 + 4).toNat) g438 g4 (oI_ld _ _ _) ?_
      refine s6 (p := 0) rfl ?_
      refine s4 (x := x3) rfl ?_
      refine s0 ?_
      refine s16 ?_
      obtain ⟨g439, hE⟩ := hE
      refine s40s (v := ld I 0 (x3 + 5).toNat) g439 g4 (oI_ld _ _ _) ?_
      refine sI rc37 rfl (Nat.le_of_ble_eq_true rfl) ?_
      refine CallI.mono hE ?_
      rintro _ _ ⟨y443, I440, R441, S442, rfl, rfl, gy443, hE⟩
      refine s6 (p := 91) rfl ?_
      refine s6 (p := 0) rfl ?_
      refine s4 (x := x3) rfl ?_
      refine s0 ?_
      refine s16 ?_
      obtain ⟨g444, hE⟩ := hE
      refine s40s (v := ld I440 0 (x3 + 1).toNat) g444 g4 (oI_ld _ _ _) ?_
      refine s6 (p := 0) rfl ?_
      refine s4 (x := x3) rfl ?_
      refine s0 ?_
      refine s16 ?_
      obtain ⟨g445, hE⟩ := hE
      refine s40s (v := ld I440 0 (x3 + 2).toNat) g445 g4 (oI_ld _ _ _) ?_
      refine s6 (p := 0) rfl ?_
      refine s4 (x := x3) rfl ?_
      refine s0 ?_
      refine s16 ?_
      obtain ⟨g446, hE⟩ := hE
      refine s40s (v := ld I440 0 (x3 + 3).toNat) g446 g4 (oI_ld _ _ _) ?_
      refine s6 (p := 0) rfl ?_
      refine s4 (x := x3) rfl ?_
      refine s0 ?_
      refine s16 ?_
      obtain ⟨g447, hE⟩ := hE
      refine s40s (v := ld I440 0 (x3 + 4).toNat) g447 g4 (oI_ld _ _ _) ?_
      refine s6 (p := 0) rfl ?_
      refine s4 (x := x3) rfl ?_
      refine s0 ?_
      refine s16 ?_
      obtain ⟨g448, hE⟩ := hE
      refine s40s (v := ld I440 0 (x3 + 5).toNat) g448 g4 (oI_ld _ _ _) ?_
      refine sI rc299 rfl (Nat.le_of_ble_eq_true rfl) ?_
      refine CallI.mono hE ?_
      rintro _ _ ⟨y452, I449, R450, S451, rfl, rfl, gy452, hE⟩
      refine s61 gy443 gy452 (fun c453 => ?_) (fun c453 => ?_)
      · replace hE := hE.1 c453
        refine xG gb341.2.2.2.2.2.2.2.2.2.2.2.2.2.2.2.2.2.2.2.2.2.2.2.2.2.2.2.2.2.2.2.2.2.2.2.2.2.2.2.2.2.2.2.2.2.2.2.1 ?_
        refine s10 (x := x3) (ls' := [.ref 0, .ref 8, .ref 91, .int (oI (x3 + 7))]) rfl rfl ?_
        refine s60 ?_
        exact hE
      · replace hE := hE.2 c453
        refine s0 ?_
        refine s84 (by decide) ?_
        exact hE
    replace hE := hE.2
    by_cases c454 : iAnd (ld I 0 x3.toNat) 63 = 27
    · replace hE := hE.1 c454
      rw [show mSel ((jSW.getD 341 []).getD 0 []) (iAnd (ld I 0 x3.toNat) 63 - 0) = 29 by rw [c454]; rfl]
      refine xG gb341.2.2.2.2.2.2.2.2.2.2.2.2.2.2.2.2.2.2.2.2.2.2.2.2.2.2.2.2.2.1 ?_
      refine s6 (p := 8) rfl ?_
      refine s6 (p := 0) rfl ?_
      refine s4 (x := x3) rfl ?_
      refine s0 ?_
      refine s16 ?_
      obtain ⟨g455, hE⟩ := hE
      refine s40s (v := ld I 0 (x3 + 1).toNat) g455 g4 (oI_ld _ _ _) ?_
      refine s6 (p := 0) rfl ?_
      refine s4 (x := x3) rfl ?_
      refine s0 ?_
      refine s16 ?_
      obtain ⟨g456, hE⟩ := hE
      refine s40s (v := ld I 0 (x3 + 2).toNat) g456 g4 (oI_ld _ _ _) ?_
      refine sI rc38 rfl (Nat.le_of_ble_eq_true rfl) ?_
      refine CallI.mono hE ?_
      rintro _ _ ⟨y460, I457, R458, S459, rfl, rfl, gy460, hE⟩
      refine s6 (p := 91) rfl ?_
      refine s6 (p := 0) rfl ?_
      refine s4 (x := x3) rfl ?_
      refine s0 ?_
      refine s16 ?_
      obtain ⟨g461, hE⟩ := hE
      refine s40s (v := ld I457 0 (x3 + 1).toNat) g461 g4 (oI_ld _ _ _) ?_
      refine s6 (p := 0) rfl ?_
      refine s4 (x := x3) rfl ?_
      refine s0 ?_
      refine s16 ?_
      obtain ⟨g462, hE⟩ := hE
      refine s40s (v := ld I457 0 (x3 + 2).toNat) g462 g4 (oI_ld _ _ _) ?_
      refine sI rc301 rfl (Nat.le_of_ble_eq_true rfl) ?_
      refine CallI.mono hE ?_
      rintro _ _ ⟨y466, I463, R464, S465, rfl, rfl, gy466, hE⟩
      refine s61 gy460 gy466 (fun c467 => ?_) (fun c467 => ?_)
      · replace hE := hE.1 c467
        refine xG gb341.2.2.2.2.2.2.2.2.2.2.2.2.2.2.2.2.2.2.2.2.2.2.2.2.2.2.2.2.2.2.2.2.2.2.2.2.2.2.2.2.2.2.2.2.2.2.2.1 ?_
        refine s10 (x := x3) (ls' := [.ref 0, .ref 8, .ref 91, .int (oI (x3 + 7))]) rfl rfl ?_
        refine s60 ?_
        exact hE
      · replace hE := hE.2 c467
        refine s0 ?_
        refine s84 (by decide) ?_
        exact hE
    replace hE := hE.2
    by_cases c468 : iAnd (ld I 0 x3.toNat) 63 = 28
    · replace hE := hE.1 c468
      rw [show mSel ((jSW.getD 341 []).getD 0 []) (iAnd (ld I 0 x3.toNat) 63 - 0) = 30 by rw [c468]; rfl]
      refine xG gb341.2.2.2.2.2.2.2.2.2.2.2.2.2.2.2.2.2.2.2.2.2.2.2.2.2.2.2.2.2.2.1 ?_
      refine s6 (p := 8) rfl ?_
      refine sI rc44 rfl (Nat.le_of_ble_eq_true rfl) ?_
      refine CallI.mono hE ?_
      rintro _ _ ⟨y472, I469, R470, S471, rfl, rfl, gy472, hE⟩
      refine s6 (p := 91) rfl ?_
      refine sI rc319 rfl (Nat.le_of_ble_eq_true rfl) ?_
      refine CallI.mono hE ?_
      rintro _ _ ⟨y476, I473, R474, S475, rfl, rfl, gy476, hE⟩
      refine s61 gy472 gy476 (fun c477 => ?_) (fun c477 => ?_)
      · replace hE := hE.1 c477
        refine xG gb341.2.2.2.2.2.2.2.2.2.2.2.2.2.2.2.2.2.2.2.2.2.2.2.2.2.2.2.2.2.2.2.2.2.2.2.2.2.2.2.2.2.2.2.2.2.2.2.1 ?_
        refine s10 (x := x3) (ls' := [.ref 0, .ref 8, .ref 91, .int (oI (x3 + 7))]) rfl rfl ?_
        refine s60 ?_
        exact hE
      · replace hE := hE.2 c477
        refine s0 ?_
        refine s84 (by decide) ?_
        exact hE
    replace hE := hE.2
    by_cases c478 : iAnd (ld I 0 x3.toNat) 63 = 29
    · replace hE := hE.1 c478
      rw [show mSel ((jSW.getD 341 []).getD 0 []) (iAnd (ld I 0 x3.toNat) 63 - 0) = 31 by rw [c478]; rfl]
      refine xG gb341.2.2.2.2.2.2.2.2.2.2.2.2.2.2.2.2.2.2.2.2.2.2.2.2.2.2.2.2.2.2.2.1 ?_
      refine s6 (p := 8) rfl ?_
      refine s6 (p := 0) rfl ?_
      refine s4 (x := x3) rfl ?_
      refine s0 ?_
      refine s16 ?_
      obtain ⟨g479, hE⟩ := hE
      refine s40s (v := ld I 0 (x3 + 1).toNat) g479 g4 (oI_ld _ _ _) ?_
      refine s6 (p := 0) rfl ?_
      refine s4 (x := x3) rfl ?_
      refine s0 ?_
      refine s16 ?_
      obtain ⟨g480, hE⟩ := hE
      refine s40s (v := ld I 0 (x3 + 2).toNat) g480 g4 (oI_ld _ _ _) ?_
      refine sI rc45 rfl (Nat.le_of_ble_eq_true rfl) ?_
      refine CallI.mono hE ?_
      rintro _ _ ⟨y484, I481, R482, S483, rfl, rfl, gy484, hE⟩
      refine s6 (p := 91) rfl ?_
      refine s6 (p := 0) rfl ?_
      refine s4 (x := x3) rfl ?_
      refine s0 ?_
      refine s16 ?_
      obtain ⟨g485, hE⟩ := hE
      refine s40s (v := ld I481 0 (x3 + 1).toNat) g485 g4 (oI_ld _ _ _) ?_
      refine s6 (p := 0) rfl ?_
      refine s4 (x := x3) rfl ?_
      refine s0 ?_
      refine s16 ?_
      obtain ⟨g486, hE⟩ := hE
      refine s40s (v := ld I481 0 (x3 + 2).toNat) g486 g4 (oI_ld _ _ _) ?_
      refine sI rc321 rfl (Nat.le_of_ble_eq_true rfl) ?_
      refine CallI.mono hE ?_
      rintro _ _ ⟨y490, I487, R488, S489, rfl, rfl, gy490, hE⟩
      refine s61 gy484 gy490 (fun c491 => ?_) (fun c491 => ?_)
      · replace hE := hE.1 c491
        refine xG gb341.2.2.2.2.2.2.2.2.2.2.2.2.2.2.2.2.2.2.2.2.2.2.2.2.2.2.2.2.2.2.2.2.2.2.2.2.2.2.2.2.2.2.2.2.2.2.2.1 ?_
        refine s10 (x := x3) (ls' := [.ref 0, .ref 8, .ref 91, .int (oI (x3 + 7))]) rfl rfl ?_
        refine s60 ?_
        exact hE
      · replace hE := hE.2 c491
        refine s0 ?_
        refine s84 (by decide) ?_
        exact hE
    replace hE := hE.2
    by_cases c492 : iAnd (ld I 0 x3.toNat) 63 = 30
    · replace hE := hE.1 c492
      rw [show mSel ((jSW.getD 341 []).getD 0 []) (iAnd (ld I 0 x3.toNat) 63 - 0) = 32 by rw [c492]; rfl]
      refine xG gb341.2.2.2.2.2.2.2.2.2.2.2.2.2.2.2.2.2.2.2.2.2.2.2.2.2.2.2.2.2.2.2.2.1 ?_
      refine s6 (p := 8) rfl ?_
      refine s6 (p := 0) rfl ?_
      refine s4 (x := x3) rfl ?_
      refine s0 ?_
      refine s16 ?_
      obtain ⟨g493, hE⟩ := hE
      refine s40s (v := ld I 0 (x3 + 1).toNat) g493 g4 (oI_ld _ _ _) ?_
      refine s6 (p := 0) rfl ?_
      refine s4 (x := x3) rfl ?_
      refine s0 ?_
      refine s16 ?_
      obtain ⟨g494, hE⟩ := hE
      refine s40s (v := ld I 0 (x3 + 2).toNat) g494 g4 (oI_ld _ _ _) ?_
      refine s6 (p := 0) rfl ?_
      refine s4 (x := x3) rfl ?_
      refine s0 ?_
      refine s16 ?_
      obtain ⟨g495, hE⟩ := hE
      refine s40s (v := ld I 0 (x3 + 3).toNat) g495 g4 (oI_ld _ _ _) ?_
      refine sI rc46 rfl (Nat.le_of_ble_eq_true rfl) ?_
      refine CallI.mono hE ?_
      rintro _ _ ⟨y499, I496, R497, S498, rfl, rfl, gy499, hE⟩
      refine s6 (p := 91) rfl ?_
      refine s6 (p := 0) rfl ?_
      refine s4 (x := x3) rfl ?_
      refine s0 ?_
      refine s16 ?_
      obtain ⟨g500, hE⟩ := hE
      refine s40s (v := ld I496 0 (x3 + 1).toNat) g500 g4 (oI_ld _ _ _) ?_
      refine s6 (p := 0) rfl ?_
      refine s4 (x := x3) rfl ?_
      refine s0 ?_
      refine s16 ?_
      obtain ⟨g501, hE⟩ := hE
      refine s40s (v := ld I496 0 (x3 + 2).toNat) g501 g4 (oI_ld _ _ _) ?_
      refine s6 (p := 0) rfl ?_
      refine s4 (x := x3) rfl ?_
      refine s0 ?_
      refine s16 ?_
      obtain ⟨g502, hE⟩ := hE
      refine s40s (v := ld I496 0 (x3 + 3).toNat) g502 g4 (oI_ld _ _ _) ?_
      refine sI rc320 rfl (Nat.le_of_ble_eq_true rfl) ?_
      refine CallI.mono hE ?_
      rintro _ _ ⟨y506, I503, R504, S505, rfl, rfl, gy506, hE⟩
      refine s61 gy499 gy506 (fun c507 => ?_) (fun c507 => ?_)
      · replace hE := hE.1 c507
        refine xG gb341.2.2.2.2.2.2.2.2.2.2.2.2.2.2.2.2.2.2.2.2.2.2.2.2.2.2.2.2.2.2.2.2.2.2.2.2.2.2.2.2.2.2.2.2.2.2.2.1 ?_
        refine s10 (x := x3) (ls' := [.ref 0, .ref 8, .ref 91, .int (oI (x3 + 7))]) rfl rfl ?_
        refine s60 ?_
        exact hE
      · replace hE := hE.2 c507
        refine s0 ?_
        refine s84 (by decide) ?_
        exact hE
    replace hE := hE.2
    by_cases c508 : iAnd (ld I 0 x3.toNat) 63 = 31
    · replace hE := hE.1 c508
      rw [show mSel ((jSW.getD 341 []).getD 0 []) (iAnd (ld I 0 x3.toNat) 63 - 0) = 33 by rw [c508]; rfl]
      refine xG gb341.2.2.2.2.2.2.2.2.2.2.2.2.2.2.2.2.2.2.2.2.2.2.2.2.2.2.2.2.2.2.2.2.2.1 ?_
      refine s6 (p := 8) rfl ?_
      refine s6 (p := 0) rfl ?_
      refine s4 (x := x3) rfl ?_
      refine s0 ?_
      refine s16 ?_
      obtain ⟨g509, hE⟩ := hE
      refine s40s (v := ld I 0 (x3 + 1).toNat) g509 g4 (oI_ld _ _ _) ?_
      refine s6 (p := 0) rfl ?_
      refine s4 (x := x3) rfl ?_
      refine s0 ?_
      refine s16 ?_
      obtain ⟨g510, hE⟩ := hE
      refine s40s (v := ld I 0 (x3 + 2).toNat) g510 g4 (oI_ld _ _ _) ?_
      refine s6 (p := 0) rfl ?_
      refine s4 (x := x3) rfl ?_
      refine s0 ?_
      refine s16 ?_
      obtain ⟨g511, hE⟩ := hE
      refine s40s (v := ld I 0 (x3 + 3).toNat) g511 g4 (oI_ld _ _ _) ?_
      refine sI rc47 rfl (Nat.le_of_ble_eq_true rfl) ?_
      refine CallI.mono hE ?_
      rintro _ _ ⟨y515, I512, R513, S514, rfl, rfl, gy515, hE⟩
      refine s6 (p := 91) rfl ?_
      refine s6 (p := 0) rfl ?_
      refine s4 (x := x3) rfl ?_
      refine s0 ?_
      refine s16 ?_
      obtain ⟨g516, hE⟩ := hE
      refine s40s (v := ld I512 0 (x3 + 1).toNat) g516 g4 (oI_ld _ _ _) ?_
      refine s6 (p := 0) rfl ?_
      refine s4 (x := x3) rfl ?_
      refine s0 ?_
      refine s16 ?_
      obtain ⟨g517, hE⟩ := hE
      refine s40s (v := ld I512 0 (x3 + 2).toNat) g517 g4 (oI_ld _ _ _) ?_
      refine s6 (p := 0) rfl ?_
      refine s4 (x := x3) rfl ?_
      refine s0 ?_
      refine s16 ?_
      obtain ⟨g518, hE⟩ := hE
      refine s40s (v := ld I512 0 (x3 + 3).toNat) g518 g4 (oI_ld _ _ _) ?_
      refine sI rc275 rfl (Nat.le_of_ble_eq_true rfl) ?_
      refine CallI.mono hE ?_
      rintro _ _ ⟨y522, I519, R520, S521, rfl, rfl, gy522, hE⟩
      refine s61 gy515 gy522 (fun c523 => ?_) (fun c523 => ?_)
      · replace hE := hE.1 c523
        refine xG gb341.2.2.2.2.2.2.2.2.2.2.2.2.2.2.2.2.2.2.2.2.2.2.2.2.2.2.2.2.2.2.2.2.2.2.2.2.2.2.2.2.2.2.2.2.2.2.2.1 ?_
        refine s10 (x := x3) (ls' := [.ref 0, .ref 8, .ref 91, .int (oI (x3 + 7))]) rfl rfl ?_
        refine s60 ?_
        exact hE
      · replace hE := hE.2 c523
        refine s0 ?_
        refine s84 (by decide) ?_
        exact hE
    replace hE := hE.2
    by_cases c524 : iAnd (ld I 0 x3.toNat) 63 = 32
    · replace hE := hE.1 c524
      rw [show mSel ((jSW.getD 341 []).getD 0 []) (iAnd (ld I 0 x3.toNat) 63 - 0) = 34 by rw [c524]; rfl]
      refine xG gb341.2.2.2.2.2.2.2.2.2.2.2.2.2.2.2.2.2.2.2.2.2.2.2.2.2.2.2.2.2.2.2.2.2.2.1 ?_
      refine s6 (p := 8) rfl ?_
      refine s6 (p := 0) rfl ?_
      refine s4 (x := x3) rfl ?_
      refine s0 ?_
      refine s16 ?_
      obtain ⟨g525, hE⟩ := hE
      refine s40s (v := ld I 0 (x3 + 1).toNat) g525 g4 (oI_ld _ _ _) ?_
      refine s6 (p := 0) rfl ?_
      refine s4 (x := x3) rfl ?_
      refine s0 ?_
      refine s16 ?_
      obtain ⟨g526, hE⟩ := hE
      refine s40s (v := ld I 0 (x3 + 2).toNat) g526 g4 (oI_ld _ _ _) ?_
      refine s6 (p := 0) rfl ?_
      refine s4 (x := x3) rfl ?_
      refine s0 ?_
      refine s16 ?_
      obtain ⟨g527, hE⟩ := hE
      refine s40s (v := ld I 0 (x3 + 3).toNat) g527 g4 (oI_ld _ _ _) ?_
      refine sI rc48 rfl (Nat.le_of_ble_eq_true rfl) ?_
      refine CallI.mono hE ?_
      rintro _ _ ⟨y531, I528, R529, S530, rfl, rfl, gy531, hE⟩
      refine s6 (p := 91) rfl ?_
      refine s6 (p := 0) rfl ?_
      refine s4 (x := x3) rfl ?_
      refine s0 ?_
      refine s16 ?_
      obtain ⟨g532, hE⟩ := hE
      refine s40s (v := ld I528 0 (x3 + 1).toNat) g532 g4 (oI_ld _ _ _) ?_
      refine s6 (p := 0) rfl ?_
      refine s4 (x := x3) rfl ?_
      refine s0 ?_
      refine s16 ?_
      obtain ⟨g533, hE⟩ := hE
      refine s40s (v := ld I528 0 (x3 + 2).toNat) g533 g4 (oI_ld _ _ _) ?_
      refine s6 (p := 0) rfl ?_
      refine s4 (x := x3) rfl ?_
      refine s0 ?_
      refine s16 ?_
      obtain ⟨g534, hE⟩ := hE
      refine s40s (v := ld I528 0 (x3 + 3).toNat) g534 g4 (oI_ld _ _ _) ?_
      refine sI rc276 rfl (Nat.le_of_ble_eq_true rfl) ?_
      refine CallI.mono hE ?_
      rintro _ _ ⟨y538, I535, R536, S537, rfl, rfl, gy538, hE⟩
      refine s61 gy531 gy538 (fun c539 => ?_) (fun c539 => ?_)
      · replace hE := hE.1 c539
        refine xG gb341.2.2.2.2.2.2.2.2.2.2.2.2.2.2.2.2.2.2.2.2.2.2.2.2.2.2.2.2.2.2.2.2.2.2.2.2.2.2.2.2.2.2.2.2.2.2.2.1 ?_
        refine s10 (x := x3) (ls' := [.ref 0, .ref 8, .ref 91, .int (oI (x3 + 7))]) rfl rfl ?_
        refine s60 ?_
        exact hE
      · replace hE := hE.2 c539
        refine s0 ?_
        refine s84 (by decide) ?_
        exact hE
    replace hE := hE.2
    by_cases c540 : iAnd (ld I 0 x3.toNat) 63 = 33
    · replace hE := hE.1 c540
      rw [show mSel ((jSW.getD 341 []).getD 0 []) (iAnd (ld I 0 x3.toNat) 63 - 0) = 35 by rw [c540]; rfl]
      refine xG gb341.2.2.2.2.2.2.2.2.2.2.2.2.2.2.2.2.2.2.2.2.2.2.2.2.2.2.2.2.2.2.2.2.2.2.2.1 ?_
      refine s6 (p := 8) rfl ?_
      refine s6 (p := 0) rfl ?_
      refine s4 (x := x3) rfl ?_
      refine s0 ?_
      refine s16 ?_
      obtain ⟨g541, hE⟩ := hE
      refine s40s (v := ld I 0 (x3 + 1).toNat) g541 g4 (oI_ld _ _ _) ?_
      refine s6 (p := 0) rfl ?_
      refine s4 (x := x3) rfl ?_
      refine s0 ?_
      refine s16 ?_
      obtain ⟨g542, hE⟩ := hE
      refine s40s (v := ld I 0 (x3 + 2).toNat) g542 g4 (oI_ld _ _ _) ?_
      refine sI rc49 rfl (Nat.le_of_ble_eq_true rfl) ?_
      refine CallI.mono hE ?_
      rintro _ _ ⟨y546, I543, R544, S545, rfl, rfl, gy546, hE⟩
      refine s6 (p := 91) rfl ?_
      refine s6 (p := 0) rfl ?_
      refine s4 (x := x3) rfl ?_
      refine s0 ?_
      refine s16 ?_
      obtain ⟨g547, hE⟩ := hE
      refine s40s (v := ld I543 0 (x3 + 1).toNat) g547 g4 (oI_ld _ _ _) ?_
      refine s6 (p := 0) rfl ?_
      refine s4 (x := x3) rfl ?_
      refine s0 ?_
      refine s16 ?_
      obtain ⟨g548, hE⟩ := hE
      refine s40s (v := ld I543 0 (x3 + 2).toNat) g548 g4 (oI_ld _ _ _) ?_
      refine sI rc281 rfl (Nat.le_of_ble_eq_true rfl) ?_
      refine CallI.mono hE ?_
      rintro _ _ ⟨y552, I549, R550, S551, rfl, rfl, gy552, hE⟩
      refine s61 gy546 gy552 (fun c553 => ?_) (fun c553 => ?_)
      · replace hE := hE.1 c553
        refine xG gb341.2.2.2.2.2.2.2.2.2.2.2.2.2.2.2.2.2.2.2.2.2.2.2.2.2.2.2.2.2.2.2.2.2.2.2.2.2.2.2.2.2.2.2.2.2.2.2.1 ?_
        refine s10 (x := x3) (ls' := [.ref 0, .ref 8, .ref 91, .int (oI (x3 + 7))]) rfl rfl ?_
        refine s60 ?_
        exact hE
      · replace hE := hE.2 c553
        refine s0 ?_
        refine s84 (by decide) ?_
        exact hE
    replace hE := hE.2
    by_cases c554 : iAnd (ld I 0 x3.toNat) 63 = 34
    · replace hE := hE.1 c554
      rw [show mSel ((jSW.getD 341 []).getD 0 []) (iAnd (ld I 0 x3.toNat) 63 - 0) = 36 by rw [c554]; rfl]
      refine xG gb341.2.2.2.2.2.2.2.2.2.2.2.2.2.2.2.2.2.2.2.2.2.2.2.2.2.2.2.2.2.2.2.2.2.2.2.2.1 ?_
      refine s6 (p := 8) rfl ?_
      refine s6 (p := 0) rfl ?_
      refine s4 (x := x3) rfl ?_
      refine s0 ?_
      refine s16 ?_
      obtain ⟨g555, hE⟩ := hE
      refine s40s (v := ld I 0 (x3 + 1).toNat) g555 g4 (oI_ld _ _ _) ?_
      refine s6 (p := 0) rfl ?_
      refine s4 (x := x3) rfl ?_
      refine s0 ?_
      refine s16 ?_
      obtain ⟨g556, hE⟩ := hE
      refine s40s (v := ld I 0 (x3 + 2).toNat) g556 g4 (oI_ld _ _ _) ?_
      refine sI rc50 rfl (Nat.le_of_ble_eq_true rfl) ?_
      refine CallI.mono hE ?_
      rintro _ _ ⟨y560, I557, R558, S559, rfl, rfl, gy560, hE⟩
      refine s6 (p := 91) rfl ?_
      refine s6 (p := 0) rfl ?_
      refine s4 (x := x3) rfl ?_
      refine s0 ?_
      refine s16 ?_
      obtain ⟨g561, hE⟩ := hE
      refine s40s (v := ld I557 0 (x3 + 1).toNat) g561 g4 (oI_ld _ _ _) ?_
      refine s6 (p := 0) rfl ?_
      refine s4 (x := x3) rfl ?_
      refine s0 ?_
      refine s16 ?_
      obtain ⟨g562, hE⟩ := hE
      refine s40s (v := ld I557 0 (x3 + 2).toNat) g562 g4 (oI_ld _ _ _) ?_
      refine sI rc283 rfl (Nat.le_of_ble_eq_true rfl) ?_
      refine CallI.mono hE ?_
      rintro _ _ ⟨y566, I563, R564, S565, rfl, rfl, gy566, hE⟩
      refine s61 gy560 gy566 (fun c567 => ?_) (fun c567 => ?_)
      · replace hE := hE.1 c567
        refine xG gb341.2.2.2.2.2.2.2.2.2.2.2.2.2.2.2.2.2.2.2.2.2.2.2.2.2.2.2.2.2.2.2.2.2.2.2.2.2.2.2.2.2.2.2.2.2.2.2.1 ?_
        refine s10 (x := x3) (ls' := [.ref 0, .ref 8, .ref 91, .int (oI (x3 + 7))]) rfl rfl ?_
        refine s60 ?_
        exact hE
      · replace hE := hE.2 c567
        refine s0 ?_
        refine s84 (by decide) ?_
        exact hE
    replace hE := hE.2
    by_cases c568 : iAnd (ld I 0 x3.toNat) 63 = 35
    · replace hE := hE.1 c568
      rw [show mSel ((jSW.getD 341 []).getD 0 []) (iAnd (ld I 0 x3.toNat) 63 - 0) = 37 by rw [c568]; rfl]
      refine xG gb341.2.2.2.2.2.2.2.2.2.2.2.2.2.2.2.2.2.2.2.2.2.2.2.2.2.2.2.2.2.2.2.2.2.2.2.2.2.1 ?_
      refine s6 (p := 8) rfl ?_
      refine s6 (p := 0) rfl ?_
      refine s4 (x := x3) rfl ?_
      refine s0 ?_
      refine s16 ?_
      obtain ⟨g569, hE⟩ := hE
      refine s40s (v := ld I 0 (x3 + 1).toNat) g569 g4 (oI_ld _ _ _) ?_
      refine s6 (p := 0) rfl ?_
      refine s4 (x := x3) rfl ?_
      refine s0 ?_
      refine s16 ?_
      obtain ⟨g570, hE⟩ := hE
      refine s40s (v := ld I 0 (x3 + 2).toNat) g570 g4 (oI_ld _ _ _) ?_
      refine sI rc51 rfl (Nat.le_of_ble_eq_true rfl) ?_
      refine CallI.mono hE ?_
      rintro _ _ ⟨y574, I571, R572, S573, rfl, rfl, gy574, hE⟩
      refine s6 (p := 91) rfl ?_
      refine s6 (p := 0) rfl ?_
      refine s4 (x := x3) rfl ?_
      refine s0 ?_
      refine s16 ?_
      obtain ⟨g575, hE⟩ := hE
      refine s40s (v := ld I571 0 (x3 + 1).toNat) g575 g4 (oI_ld _ _ _) ?_
      refine s6 (p := 0) rfl ?_
      refine s4 (x := x3) rfl ?_
      refine s0 ?_
      refine s16 ?_
      obtain ⟨g576, hE⟩ := hE
      refine s40s (v := ld I571 0 (x3 + 2).toNat) g576 g4 (oI_ld _ _ _) ?_
      refine sI rc284 rfl (Nat.le_of_ble_eq_true rfl) ?_
      refine CallI.mono hE ?_
      rintro _ _ ⟨y580, I577, R578, S579, rfl, rfl, gy580, hE⟩
      refine s61 gy574 gy580 (fun c581 => ?_) (fun c581 => ?_)
      · replace hE := hE.1 c581
        refine xG gb341.2.2.2.2.2.2.2.2.2.2.2.2.2.2.2.2.2.2.2.2.2.2.2.2.2.2.2.2.2.2.2.2.2.2.2.2.2.2.2.2.2.2.2.2.2.2.2.1 ?_
        refine s10 (x := x3) (ls' := [.ref 0, .ref 8, .ref 91, .int (oI (x3 + 7))]) rfl rfl ?_
        refine s60 ?_
        exact hE
      · replace hE := hE.2 c581
        refine s0 ?_
        refine s84 (by decide) ?_
        exact hE
    replace hE := hE.2
    by_cases c582 : iAnd (ld I 0 x3.toNat) 63 = 36
    · replace hE := hE.1 c582
      rw [show mSel ((jSW.getD 341 []).getD 0 []) (iAnd (ld I 0 x3.toNat) 63 - 0) = 38 by rw [c582]; rfl]
      refine xG gb341.2.2.2.2.2.2.2.2.2.2.2.2.2.2.2.2.2.2.2.2.2.2.2.2.2.2.2.2.2.2.2.2.2.2.2.2.2.2.1 ?_
      refine s6 (p := 8) rfl ?_
      refine s6 (p := 0) rfl ?_
      refine s4 (x := x3) rfl ?_
      refine s0 ?_
      refine s16 ?_
      obtain ⟨g583, hE⟩ := hE
      refine s40s (v := ld I 0 (x3 + 1).toNat) g583 g4 (oI_ld _ _ _) ?_
      refine sI rc52 rfl (Nat.le_of_ble_eq_true rfl) ?_
      refine CallI.mono hE ?_
      rintro _ _ ⟨y587, I584, R585, S586, rfl, rfl, gy587, hE⟩
      refine s6 (p := 91) rfl ?_
      refine s6 (p := 0) rfl ?_
      refine s4 (x := x3) rfl ?_
      refine s0 ?_
      refine s16 ?_
      obtain ⟨g588, hE⟩ := hE
      refine s40s (v := ld I584 0 (x3 + 1).toNat) g588 g4 (oI_ld _ _ _) ?_
      refine sI rc286 rfl (Nat.le_of_ble_eq_true rfl) ?_
      refine CallI.mono hE ?_
      rintro _ _ ⟨y592, I589, R590, S591, rfl, rfl, gy592, hE⟩
      refine s61 gy587 gy592 (fun c593 => ?_) (fun c593 => ?_)
      · replace hE := hE.1 c593
        refine xG gb341.2.2.2.2.2.2.2.2.2.2.2.2.2.2.2.2.2.2.2.2.2.2.2.2.2.2.2.2.2.2.2.2.2.2.2.2.2.2.2.2.2.2.2.2.2.2.2.1 ?_
        refine s10 (x := x3) (ls' := [.ref 0, .ref 8, .ref 91, .int (oI (x3 + 7))]) rfl rfl ?_
        refine s60 ?_
        exact hE
      · replace hE := hE.2 c593
        refine s0 ?_
        refine s84 (by decide) ?_
        exact hE
    replace hE := hE.2
    by_cases c594 : iAnd (ld I 0 x3.toNat) 63 = 37
    · replace hE := hE.1 c594
      rw [show mSel ((jSW.getD 341 []).getD 0 []) (iAnd (ld I 0 x3.toNat) 63 - 0) = 39 by rw [c594]; rfl]
      refine xG gb341.2.2.2.2.2.2.2.2.2.2.2.2.2.2.2.2.2.2.2.2.2.2.2.2.2.2.2.2.2.2.2.2.2.2.2.2.2.2.2.1 ?_
      refine s6 (p := 8) rfl ?_
      refine s6 (p := 0) rfl ?_
      refine s4 (x := x3) rfl ?_
      refine s0 ?_
      refine s16 ?_
      obtain ⟨g595, hE⟩ := hE
      refine s40s (v := ld I 0 (x3 + 1).toNat) g595 g4 (oI_ld _ _ _) ?_
      refine sI rc53 rfl (Nat.le_of_ble_eq_true rfl) ?_
      refine CallI.mono hE ?_
      rintro _ _ ⟨y599, I596, R597, S598, rfl, rfl, gy599, hE⟩
      refine s6 (p := 91) rfl ?_
      refine s6 (p := 0) rfl ?_
      refine s4 (x := x3) rfl ?_
      refine s0 ?_
      refine s16 ?_
      obtain ⟨g600, hE⟩ := hE
      refine s40s (v := ld I596 0 (x3 + 1).toNat) g600 g4 (oI_ld _ _ _) ?_
      refine sI rc287 rfl (Nat.le_of_ble_eq_true rfl) ?_
      refine CallI.mono hE ?_
      rintro _ _ ⟨y604, I601, R602, S603, rfl, rfl, gy604, hE⟩
      refine s61 gy599 gy604 (fun c605 => ?_) (fun c605 => ?_)
      · replace hE := hE.1 c605
        refine xG gb341.2.2.2.2.2.2.2.2.2.2.2.2.2.2.2.2.2.2.2.2.2.2.2.2.2.2.2.2.2.2.2.2.2.2.2.2.2.2.2.2.2.2.2.2.2.2.2.1 ?_
        refine s10 (x := x3) (ls' := [.ref 0, .ref 8, .ref 91, .int (oI (x3 + 7))]) rfl rfl ?_
        refine s60 ?_
        exact hE
      · replace hE := hE.2 c605
        refine s0 ?_
        refine s84 (by decide) ?_
        exact hE
    replace hE := hE.2
    by_cases c606 : iAnd (ld I 0 x3.toNat) 63 = 38
    · replace hE := hE.1 c606
      rw [show mSel ((jSW.getD 341 []).getD 0 []) (iAnd (ld I 0 x3.toNat) 63 - 0) = 40 by rw [c606]; rfl]
      refine xG gb341.2.2.2.2.2.2.2.2.2.2.2.2.2.2.2.2.2.2.2.2.2.2.2.2.2.2.2.2.2.2.2.2.2.2.2.2.2.2.2.2.1 ?_
      refine s6 (p := 8) rfl ?_
      refine sI rc54 rfl (Nat.le_of_ble_eq_true rfl) ?_
      refine CallI.mono hE ?_
      rintro _ _ ⟨y610, I607, R608, S609, rfl, rfl, gy610, hE⟩
      refine s6 (p := 91) rfl ?_
      refine sI rc288 rfl (Nat.le_of_ble_eq_true rfl) ?_
      refine CallI.mono hE ?_
      rintro _ _ ⟨y614, I611, R612, S613, rfl, rfl, gy614, hE⟩
      refine s61 gy610 gy614 (fun c615 => ?_) (fun c615 => ?_)
      · replace hE := hE.1 c615
        refine xG gb341.2.2.2.2.2.2.2.2.2.2.2.2.2.2.2.2.2.2.2.2.2.2.2.2.2.2.2.2.2.2.2.2.2.2.2.2.2.2.2.2.2.2.2.2.2.2.2.1 ?_
        refine s10 (x := x3) (ls' := [.ref 0, .ref 8, .ref 91, .int (oI (x3 + 7))]) rfl rfl ?_
        refine s60 ?_
        exact hE
      · replace hE := hE.2 c615
        refine s0 ?_
        refine s84 (by decide) ?_
        exact hE
    replace hE := hE.2
    by_cases c616 : iAnd (ld I 0 x3.toNat) 63 = 39
    · replace hE := hE.1 c616
      rw [show mSel ((jSW.getD 341 []).getD 0 []) (iAnd (ld I 0 x3.toNat) 63 - 0) = 41 by rw [c616]; rfl]
      refine xG gb341.2.2.2.2.2.2.2.2.2.2.2.2.2.2.2.2.2.2.2.2.2.2.2.2.2.2.2.2.2.2.2.2.2.2.2.2.2.2.2.2.2.1 ?_
      refine s6 (p := 8) rfl ?_
      refine s6 (p := 0) rfl ?_
      refine s4 (x := x3) rfl ?_
      refine s0 ?_
      refine s16 ?_
      obtain ⟨g617, hE⟩ := hE
      refine s40s (v := ld I 0 (x3 + 1).toNat) g617 g4 (oI_ld _ _ _) ?_
      refine s6 (p := 0) rfl ?_
      refine s4 (x := x3) rfl ?_
      refine s0 ?_
      refine s16 ?_
      obtain ⟨g618, hE⟩ := hE
      refine s40s (v := ld I 0 (x3 + 2).toNat) g618 g4 (oI_ld _ _ _) ?_
      refine s6 (p := 0) rfl ?_
      refine s4 (x := x3) rfl ?_
      refine s0 ?_
      refine s16 ?_
      obtain ⟨g619, hE⟩ := hE
      refine s40s (v := ld I 0 (x3 + 3).toNat) g619 g4 (oI_ld _ _ _) ?_
      refine sI rc55 rfl (Nat.le_of_ble_eq_true rfl) ?_
      refine CallI.mono hE ?_
      rintro _ _ ⟨y623, I620, R621, S622, rfl, rfl, gy623, hE⟩
      refine s6 (p := 91) rfl ?_
      refine s6 (p := 0) rfl ?_
      refine s4 (x := x3) rfl ?_
      refine s0 ?_
      refine s16 ?_
      obtain ⟨g624, hE⟩ := hE
      refine s40s (v := ld I620 0 (x3 + 1).toNat) g624 g4 (oI_ld _ _ _) ?_
      refine s6 (p := 0) rfl ?_
      refine s4 (x := x3) rfl ?_
      refine s0 ?_
      refine s16 ?_
      obtain ⟨g625, hE⟩ := hE
      refine s40s (v := ld I620 0 (x3 + 2).toNat) g625 g4 (oI_ld _ _ _) ?_
      refine s6 (p := 0) rfl ?_
      refine s4 (x := x3) rfl ?_
      refine s0 ?_
      refine s16 ?_
      obtain ⟨g626, hE⟩ := hE
      refine s40s (v := ld I620 0 (x3 + 3).toNat) g626 g4 (oI_ld _ _ _) ?_
      refine sI rc289 rfl (Nat.le_of_ble_eq_true rfl) ?_
      refine CallI.mono hE ?_
      rintro _ _ ⟨y630, I627, R628, S629, rfl, rfl, gy630, hE⟩
      refine s61 gy623 gy630 (fun c631 => ?_) (fun c631 => ?_)
      · replace hE := hE.1 c631
        refine xG gb341.2.2.2.2.2.2.2.2.2.2.2.2.2.2.2.2.2.2.2.2.2.2.2.2.2.2.2.2.2.2.2.2.2.2.2.2.2.2.2.2.2.2.2.2.2.2.2.1 ?_
        refine s10 (x := x3) (ls' := [.ref 0, .ref 8, .ref 91, .int (oI (x3 + 7))]) rfl rfl ?_
        refine s60 ?_
        exact hE
      · replace hE := hE.2 c631
        refine s0 ?_
        refine s84 (by decide) ?_
        exact hE
    replace hE := hE.2
    by_cases c632 : iAnd (ld I 0 x3.toNat) 63 = 40
    · replace hE := hE.1 c632
      rw [show mSel ((jSW.getD 341 []).getD 0 []) (iAnd (ld I 0 x3.toNat) 63 - 0) = 42 by rw [c632]; rfl]
      refine xG gb341.2.2.2.2.2.2.2.2.2.2.2.2.2.2.2.2.2.2.2.2.2.2.2.2.2.2.2.2.2.2.2.2.2.2.2.2.2.2.2.2.2.2.1 ?_
      refine s6 (p := 8) rfl ?_
      refine s6 (p := 0) rfl ?_
      refine s4 (x := x3) rfl ?_
      refine s0 ?_
      refine s16 ?_
      obtain ⟨g633, hE⟩ := hE
      refine s40s (v := ld I 0 (x3 + 1).toNat) g633 g4 (oI_ld _ _ _) ?_
      refine s6 (p := 0) rfl ?_
      refine s4 (x := x3) rfl ?_
      refine s0 ?_
      refine s16 ?_
      obtain ⟨g634, hE⟩ := hE
      refine s40s (v := ld I 0 (x3 + 2).toNat) g634 g4 (oI_ld _ _ _) ?_
      refine sI rc56 rfl (Nat.le_of_ble_eq_true rfl) ?_
      refine CallI.mono hE ?_
      rintro _ _ ⟨y638, I635, R636, S637, rfl, rfl, gy638, hE⟩
      refine s6 (p := 91) rfl ?_
      refine s6 (p := 0) rfl ?_
      refine s4 (x := x3) rfl ?_
      refine s0 ?_
      refine s16 ?_
      obtain ⟨g639, hE⟩ := hE
      refine s40s (v := ld I635 0 (x3 + 1).toNat) g639 g4 (oI_ld _ _ _) ?_
      refine s6 (p := 0) rfl ?_
      refine s4 (x := x3) rfl ?_
      refine s0 ?_
      refine s16 ?_
      obtain ⟨g640, hE⟩ := hE
      refine s40s (v := ld I635 0 (x3 + 2).toNat) g640 g4 (oI_ld _ _ _) ?_
      refine sI rc290 rfl (Nat.le_of_ble_eq_true rfl) ?_
      refine CallI.mono hE ?_
      rintro _ _ ⟨y644, I641, R642, S643, rfl, rfl, gy644, hE⟩
      refine s61 gy638 gy644 (fun c645 => ?_) (fun c645 => ?_)
      · replace hE := hE.1 c645
        refine xG gb341.2.2.2.2.2.2.2.2.2.2.2.2.2.2.2.2.2.2.2.2.2.2.2.2.2.2.2.2.2.2.2.2.2.2.2.2.2.2.2.2.2.2.2.2.2.2.2.1 ?_
        refine s10 (x := x3) (ls' := [.ref 0, .ref 8, .ref 91, .int (oI (x3 + 7))]) rfl rfl ?_
        refine s60 ?_
        exact hE
      · replace hE := hE.2 c645
        refine s0 ?_
        refine s84 (by decide) ?_
        exact hE
    replace hE := hE.2
    by_cases c646 : iAnd (ld I 0 x3.toNat) 63 = 41
    · replace hE := hE.1 c646
      rw [show mSel ((jSW.getD 341 []).getD 0 []) (iAnd (ld I 0 x3.toNat) 63 - 0) = 43 by rw [c646]; rfl]
      refine xG gb341.2.2.2.2.2.2.2.2.2.2.2.2.2.2.2.2.2.2.2.2.2.2.2.2.2.2.2.2.2.2.2.2.2.2.2.2.2.2.2.2.2.2.2.1 ?_
      refine s6 (p := 8) rfl ?_
      refine s6 (p := 0) rfl ?_
      refine s4 (x := x3) rfl ?_
      refine s0 ?_
      refine s16 ?_
      obtain ⟨g647, hE⟩ := hE
      refine s40s (v := ld I 0 (x3 + 1).toNat) g647 g4 (oI_ld _ _ _) ?_
      refine sI rc57 rfl (Nat.le_of_ble_eq_true rfl) ?_
      refine CallI.mono hE ?_
      rintro _ _ ⟨y651, I648, R649, S650, rfl, rfl, gy651, hE⟩
      refine s6 (p := 91) rfl ?_
      refine s6 (p := 0) rfl ?_
      refine s4 (x := x3) rfl ?_
      refine s0 ?_
      refine s16 ?_
      obtain ⟨g652, hE⟩ := hE
      refine s40s (v := ld I648 0 (x3 + 1).toNat) g652 g4 (oI_ld _ _ _) ?_
      refine sI rc293 rfl (Nat.le_of_ble_eq_true rfl) ?_
      refine CallI.mono hE ?_
      rintro _ _ ⟨y656, I653, R654, S655, rfl, rfl, gy656, hE⟩
      refine s61 gy651 gy656 (fun c657 => ?_) (fun c657 => ?_)
      · replace hE := hE.1 c657
        refine xG gb341.2.2.2.2.2.2.2.2.2.2.2.2.2.2.2.2.2.2.2.2.2.2.2.2.2.2.2.2.2.2.2.2.2.2.2.2.2.2.2.2.2.2.2.2.2.2.2.1 ?_
        refine s10 (x := x3) (ls' := [.ref 0, .ref 8, .ref 91, .int (oI (x3 + 7))]) rfl rfl ?_
        refine s60 ?_
        exact hE
      · replace hE := hE.2 c657
        refine s0 ?_
        refine s84 (by decide) ?_
        exact hE
    replace hE := hE.2
    by_cases c658 : iAnd (ld I 0 x3.toNat) 63 = 42
    · replace hE := hE.1 c658
      rw [show mSel ((jSW.getD 341 []).getD 0 []) (iAnd (ld I 0 x3.toNat) 63 - 0) = 44 by rw [c658]; rfl]
      refine xG gb341.2.2.2.2.2.2.2.2.2.2.2.2.2.2.2.2.2.2.2.2.2.2.2.2.2.2.2.2.2.2.2.2.2.2.2.2.2.2.2.2.2.2.2.2.1 ?_
      refine s6 (p := 8) rfl ?_
      refine s6 (p := 0) rfl ?_
      refine s4 (x := x3) rfl ?_
      refine s0 ?_
      refine s16 ?_
      obtain ⟨g659, hE⟩ := hE
      refine s40s (v := ld I 0 (x3 + 1).toNat) g659 g4 (oI_ld _ _ _) ?_
      refine sI rc58 rfl (Nat.le_of_ble_eq_true rfl) ?_
      refine CallI.mono hE ?_
      rintro _ _ ⟨y663, I660, R661, S662, rfl, rfl, gy663, hE⟩
      refine s6 (p := 91) rfl ?_
      refine s6 (p := 0) rfl ?_
      refine s4 (x := x3) rfl ?_
      refine s0 ?_
      refine s16 ?_
      obtain ⟨g664, hE⟩ := hE
      refine s40s (v := ld I660 0 (x3 + 1).toNat) g664 g4 (oI_ld _ _ _) ?_
      refine sI rc295 rfl (Nat.le_of_ble_eq_true rfl) ?_
      refine CallI.mono hE ?_
      rintro _ _ ⟨y668, I665, R666, S667, rfl, rfl, gy668, hE⟩
      refine s61 gy663 gy668 (fun c669 => ?_) (fun c669 => ?_)
      · replace hE := hE.1 c669
        refine xG gb341.2.2.2.2.2.2.2.2.2.2.2.2.2.2.2.2.2.2.2.2.2.2.2.2.2.2.2.2.2.2.2.2.2.2.2.2.2.2.2.2.2.2.2.2.2.2.2.1 ?_
        refine s10 (x := x3) (ls' := [.ref 0, .ref 8, .ref 91, .int (oI (x3 + 7))]) rfl rfl ?_
        refine s60 ?_
        exact hE
      · replace hE := hE.2 c669
        refine s0 ?_
        refine s84 (by decide) ?_
        exact hE
    replace hE := hE.2
    by_cases c670 : iAnd (ld I 0 x3.toNat) 63 = 43
    · replace hE := hE.1 c670
      rw [show mSel ((jSW.getD 341 []).getD 0 []) (iAnd (ld I 0 x3.toNat) 63 - 0) = 45 by rw [c670]; rfl]
      refine xG gb341.2.2.2.2.2.2.2.2.2.2.2.2.2.2.2.2.2.2.2.2.2.2.2.2.2.2.2.2.2.2.2.2.2.2.2.2.2.2.2.2.2.2.2.2.2.1 ?_
      refine s6 (p := 8) rfl ?_
      refine s6 (p := 0) rfl ?_
      refine s4 (x := x3) rfl ?_
      refine s0 ?_
      refine s16 ?_
      obtain ⟨g671, hE⟩ := hE
      refine s40s (v := ld I 0 (x3 + 1).toNat) g671 g4 (oI_ld _ _ _) ?_
      refine s6 (p := 0) rfl ?_
      refine s4 (x := x3) rfl ?_
      refine s0 ?_
      refine s16 ?_
      obtain ⟨g672, hE⟩ := hE
      refine s40s (v := ld I 0 (x3 + 2).toNat) g672 g4 (oI_ld _ _ _) ?_
      refine sI rc59 rfl (Nat.le_of_ble_eq_true rfl) ?_
      refine CallI.mono hE ?_
      rintro _ _ ⟨y676, I673, R674, S675, rfl, rfl, gy676, hE⟩
      refine s6 (p := 91) rfl ?_
      refine s6 (p := 0) rfl ?_
      refine s4 (x := x3) rfl ?_
      refine s0 ?_
      refine s16 ?_
      obtain ⟨g677, hE⟩ := hE
      refine s40s (v := ld I673 0 (x3 + 1).toNat) g677 g4 (oI_ld _ _ _) ?_
      refine s6 (p := 0) rfl ?_
      refine s4 (x := x3) rfl ?_
      refine s0 ?_
      refine s16 ?_
      obtain ⟨g678, hE⟩ := hE
      refine s40s (v := ld I673 0 (x3 + 2).toNat) g678 g4 (oI_ld _ _ _) ?_
      refine sI rc296 rfl (Nat.le_of_ble_eq_true rfl) ?_
      refine CallI.mono hE ?_
      rintro _ _ ⟨y682, I679, R680, S681, rfl, rfl, gy682, hE⟩
      refine s61 gy676 gy682 (fun c683 => ?_) (fun c683 => ?_)
      · replace hE := hE.1 c683
        refine xG gb341.2.2.2.2.2.2.2.2.2.2.2.2.2.2.2.2.2.2.2.2.2.2.2.2.2.2.2.2.2.2.2.2.2.2.2.2.2.2.2.2.2.2.2.2.2.2.2.1 ?_
        refine s10 (x := x3) (ls' := [.ref 0, .ref 8, .ref 91, .int (oI (x3 + 7))]) rfl rfl ?_
        refine s60 ?_
        exact hE
      · replace hE := hE.2 c683
        refine s0 ?_
        refine s84 (by decide) ?_
        exact hE
    replace hE := hE.2
    by_cases c684 : iAnd (ld I 0 x3.toNat) 63 = 44
    · replace hE := hE.1 c684
      rw [show mSel ((jSW.getD 341 []).getD 0 []) (iAnd (ld I 0 x3.toNat) 63 - 0) = 46 by rw [c684]; rfl]
      refine xG gb341.2.2.2.2.2.2.2.2.2.2.2.2.2.2.2.2.2.2.2.2.2.2.2.2.2.2.2.2.2.2.2.2.2.2.2.2.2.2.2.2.2.2.2.2.2.2.1 ?_
      refine s6 (p := 8) rfl ?_
      refine s6 (p := 0) rfl ?_
      refine s4 (x := x3) rfl ?_
      refine s0 ?_
      refine s16 ?_
      obtain ⟨g685, hE⟩ := hE
      refine s40s (v := ld I 0 (x3 + 1).toNat) g685 g4 (oI_ld _ _ _) ?_
      refine sI rc60 rfl (Nat.le_of_ble_eq_true rfl) ?_
      refine CallI.mono hE ?_
      rintro _ _ ⟨y689, I686, R687, S688, rfl, rfl, gy689, hE⟩
      refine s6 (p := 91) rfl ?_
      refine s6 (p := 0) rfl ?_
      refine s4 (x := x3) rfl ?_
      refine s0 ?_
      refine s16 ?_
      obtain ⟨g690, hE⟩ := hE
      refine s40s (v := ld I686 0 (x3 + 1).toNat) g690 g4 (oI_ld _ _ _) ?_
      refine sI rc330 rfl (Nat.le_of_ble_eq_true rfl) ?_
      refine CallI.mono hE ?_
      rintro _ _ ⟨y694, I691, R692, S693, rfl, rfl, gy694, hE⟩
      refine s61 gy689 gy694 (fun c695 => ?_) (fun c695 => ?_)
      · replace hE := hE.1 c695
        refine xG gb341.2.2.2.2.2.2.2.2.2.2.2.2.2.2.2.2.2.2.2.2.2.2.2.2.2.2.2.2.2.2.2.2.2.2.2.2.2.2.2.2.2.2.2.2.2.2.2.1 ?_
        refine s10 (x := x3) (ls' := [.ref 0, .ref 8, .ref 91, .int (oI (x3 + 7))]) rfl rfl ?_
        refine s60 ?_
        exact hE
      · replace hE := hE.2 c695
        refine s0 ?_
        refine s84 (by decide) ?_
        exact hE
    replace hE := hE.2
    replace hE := hE ⟨c6, c18, c34, c50, c66, c80, c96, c112, c134, c154, c172, c184, c198, c214, c232, c252, c270, c286, c304, c324, c346, c362, c376, c390, c402, c418, c434, c454, c468, c478, c492, c508, c524, c540, c554, c568, c582, c594, c606, c616, c632, c646, c658, c670, c684⟩
    rw [show mSel ((jSW.getD 341 []).getD 0 []) (iAnd (ld I 0 x3.toNat) 63 - 0) = 47 by exact mSel_def (lo := 0) (vs := [0, 1, 2, 3, 4, 5, 6, 7, 8, 9, 10, 11, 12, 13, 14, 15, 16, 17, 18, 19, 20, 21, 22, 23, 24, 25, 26, 27, 28, 29, 30, 31, 32, 33, 34, 35, 36, 37, 38, 39, 40, 41, 42, 43, 44]) rfl (by intro v hv; simp only [List.mem_cons, List.not_mem_nil, or_false] at hv; omega)]
    refine xG gb341.2.2.2.2.2.2.2.2.2.2.2.2.2.2.2.2.2.2.2.2.2.2.2.2.2.2.2.2.2.2.2.2.2.2.2.2.2.2.2.2.2.2.2.2.2.2.2.1 ?_
    refine s10 (x := x3) (ls' := [.ref 0, .ref 8, .ref 91, .int (oI (x3 + 7))]) rfl rfl ?_
    refine s60 ?_
    exact hE
