/-! the reference: IF, bodies, statements, as they are walked -/
set_option maxRecDepth 4000 in
theorem e313 {d L : Nat} {I : Nat → Nat → Int32} {R : Nat → Nat → Option Nat} {S : List (Nat × Nat)} {K : Int32 → mM → Prop} {A : aS} (hR : RM I A) {x1 : Int} (hE : (0 ≤ x1 ∧ x1 < 360) ∧ (∀ (I2 : mI) (A3 : aS), (I2 = (u2 I 143 x1.toNat (oI (-1)))) → (A3 = (u2 A 143 x1.toNat (-1))) → (RM I2 A3) → ∃ (T7 : Nat → Int) (N8 p9 : Nat), Tx I2 T7 N8 p9 ∧ (((tkOk T7 N8 (bl T7 N8 p9) (Int64.ofInt 26982)) → ∀ (I12 : mI), (Fr [] [(91, 69)] I2 I12) → (RM I12 A3) → (Tx I12 T7 N8 (lt T7 N8 (bl T7 N8 p9))) → CallI (d + 1) 314 [.ref 91] (bd L (u2 I12 91 70 (oI 0)) R S) (fun y s => ∃ (y18 : Int) (I19 : mI) (A20 : aS), y = oI y18 ∧ s = bd L I19 R S ∧ inR y18 ∧ RM I19 A20 ∧ (((y18 = (-1)) → K (oI 0) (bd L (u2 I19 143 x1.toNat (oI y18)) R S)) ∧ (¬ (y18 = (-1)) → K (oI 1) (bd L (u2 I19 143 x1.toNat (oI y18)) R S))))) ∧ (¬ (tkOk T7 N8 (bl T7 N8 p9) (Int64.ofInt 26982)) → ∀ (I12 : mI), (Fr [] [(91, 69)] I2 I12) → (RM I12 A3) → (Tx I12 T7 N8 (bl T7 N8 p9)) → K (oI 1) (bd L I12 R S))))) : CallI (d + 2) 313 [.ref 91, .int (oI x1)] (bd L I R S) K := by
  refine cI_of (ls := [.ref 91, .int (oI x1)]) rfl ?_
  refine xG gb313.1 ?_
  refine s6 (p := 91) rfl ?_
  refine s51 sh91 (by decide) (by decide) rf91_78 ?_
  refine s4 (x := x1) rfl ?_
  refine s0 ?_
  obtain ⟨g1, hE⟩ := hE
  refine s44 sh143 (by decide) g1 rfl ?_
  refine s6 (p := 91) rfl ?_
  refine s2 ?_
  obtain ⟨I2, q4⟩ : ∃ i : mI, i = (u2 I 143 x1.toNat (oI (-1))) := ⟨_, rfl⟩
  obtain ⟨A3, q5⟩ : ∃ i : aS, i = (u2 A 143 x1.toNat (-1)) := ⟨_, rfl⟩
  have q6 : RM I2 A3 := by rw [q4, q5]; exact (RM.set hR 143 x1.toNat (inRd rfl) rfl)
  replace hE := hE I2 A3 q4 q5 q6
  obtain ⟨T7, N8, p9, k10, hE⟩ := hE
  refine sI rc304 rfl (Nat.le_of_ble_eq_true rfl) ?_
  rw [← q4]
  refine k304 q6 k10 (fun c11 I12 q13 q14 q15 => ?_) (fun c11 I12 q13 q14 q15 => ?_)
  · replace hE := hE.1 c11 I12 q13 q14 q15
    refine s68 (inRd rfl) (fun c17 => absurd c17 (by decide)) (fun _ => ?_)
    refine xG gb313.2.1 ?_
    refine s6 (p := 91) rfl ?_
    refine s0 ?_
    refine s52 sh91 (by decide) (by decide) ?_
    refine s6 (p := 91) rfl ?_
    refine s51 sh91 (by decide) (by decide) rf91_78 ?_
    refine s4 (x := x1) rfl ?_
    refine s6 (p := 91) rfl ?_
    refine sI rc314 rfl (Nat.le_of_ble_eq_true rfl) ?_
    refine CallI.mono hE ?_
    rintro _ _ ⟨y18, I19, A20, rfl, rfl, gy18, q21, hE⟩
    refine s44 sh143 (by decide) g1 rfl ?_
    refine s6 (p := 91) rfl ?_
    refine s51 sh91 (by decide) (by decide) rf91_78 ?_
    refine s4 (x := x1) rfl ?_
    refine s40 (v := y18) sh143 g1 rfl (v2_eq) ?_
    refine s0 ?_
    refine s61 gy18 (inRd rfl) (fun c22 => ?_) (fun c22 => ?_)
    · replace hE := hE.1 c22
      refine xG gb313.2.2.1 ?_
      refine s0 ?_
      refine s79 ?_
      refine xG gb313.2.2.2 ?_
      refine s84 (by decide) ?_
      exact rqI_of hE
    · replace hE := hE.2 c22
      refine s0 ?_
      refine s60 ?_
      refine xG gb313.2.2.2 ?_
      refine s84 (by decide) ?_
      exact rqI_of hE
  · replace hE := hE.2 c11 I12 q13 q14 q15
    refine s68 (inRd rfl) (fun _ => ?_) (fun c23 => absurd (by decide) c23)
    refine s0 ?_
    refine s84 (by decide) ?_
    exact rqI_of hE
set_option maxRecDepth 4000 in
theorem e307 {d L : Nat} {I : Nat → Nat → Int32} {R : Nat → Nat → Option Nat} {S : List (Nat × Nat)} {K : Int32 → mM → Prop} {A : aS} (hR : RM I A) {x1 : Int} (hE : (0 ≤ x1 ∧ x1 < 360) ∧ (∀ (I2 : mI) (A3 : aS), (I2 = (u2 I 143 x1.toNat (oI (-1)))) → (A3 = (u2 A 143 x1.toNat (-1))) → (RM I2 A3) → ∃ (T7 : Nat → Int) (N8 p9 : Nat), Tx I2 T7 N8 p9 ∧ (((tkOk T7 N8 (bl T7 N8 p9) (Int64.ofInt 6513008)) → ∀ (I12 : mI), (Fr [] [(91, 69)] I2 I12) → (RM I12 A3) → (Tx I12 T7 N8 (lt T7 N8 (bl T7 N8 p9))) → CallI (d + 1) 308 [.ref 91, .int (oI x1), .int (oI 7)] (bd L I12 R S) (fun y s => ∃ (y18 : Int) (I19 : mI) (A20 : aS), y = oI y18 ∧ s = bd L I19 R S ∧ inR y18 ∧ RM I19 A20 ∧ ((y18 = 0 ∨ y18 = 1) ∧ (K (oI y18) (bd L I19 R S))))) ∧ (¬ (tkOk T7 N8 (bl T7 N8 p9) (Int64.ofInt 6513008)) → ∀ (I12 : mI), (Fr [] [(91, 69)] I2 I12) → (RM I12 A3) → (Tx I12 T7 N8 (bl T7 N8 p9)) → ∃ (T24 : Nat → Int) (N25 p26 : Nat), Tx I12 T24 N25 p26 ∧ (((tkOk T24 N25 (bl T24 N25 p26) (Int64.ofInt 1919905645)) → ∀ (I29 : mI), (Fr [] [(91, 69)] I12 I29) → (RM I29 A3) → (Tx I29 T24 N25 (lt T24 N25 (bl T24 N25 p26))) → CallI (d + 1) 308 [.ref 91, .int (oI x1), .int (oI 10)] (bd L I29 R S) (fun y s => ∃ (y35 : Int) (I36 : mI) (A37 : aS), y = oI y35 ∧ s = bd L I36 R S ∧ inR y35 ∧ RM I36 A37 ∧ ((y35 = 0 ∨ y35 = 1) ∧ (K (oI y35) (bd L I36 R S))))) ∧ (¬ (tkOk T24 N25 (bl T24 N25 p26) (Int64.ofInt 1919905645)) → ∀ (I29 : mI), (Fr [] [(91, 69)] I12 I29) → (RM I29 A3) → (Tx I29 T24 N25 (bl T24 N25 p26)) → ∃ (T41 : Nat → Int) (N42 p43 : Nat), Tx I29 T41 N42 p43 ∧ (((tkOk T41 N42 (bl T41 N42 p43) (Int64.ofInt 495873779302)) → ∀ (I46 : mI), (Fr [] [(91, 69)] I29 I46) → (RM I46 A3) → (Tx I46 T41 N42 (lt T41 N42 (bl T41 N42 p43))) → CallI (d + 1) 308 [.ref 91, .int (oI x1), .int (oI 11)] (bd L I46 R S) (fun y s => ∃ (y52 : Int) (I53 : mI) (A54 : aS), y = oI y52 ∧ s = bd L I53 R S ∧ inR y52 ∧ RM I53 A54 ∧ ((y52 = 0 ∨ y52 = 1) ∧ (K (oI y52) (bd L I53 R S))))) ∧ (¬ (tkOk T41 N42 (bl T41 N42 p43) (Int64.ofInt 495873779302)) → ∀ (I46 : mI), (Fr [] [(91, 69)] I29 I46) → (RM I46 A3) → (Tx I46 T41 N42 (bl T41 N42 p43)) → ∃ (T58 : Nat → Int) (N59 p60 : Nat), Tx I46 T58 N59 p60 ∧ (((tkOk T58 N59 (bl T58 N59 p60) (Int64.ofInt 1937007984)) → ∀ (I63 : mI), (Fr [] [(91, 69)] I46 I63) → (RM I63 A3) → (Tx I63 T58 N59 (lt T58 N59 (bl T58 N59 p60))) → CallI (d + 1) 308 [.ref 91, .int (oI x1), .int (oI 12)] (bd L I63 R S) (fun y s => ∃ (y69 : Int) (I70 : mI) (A71 : aS), y = oI y69 ∧ s = bd L I70 R S ∧ inR y69 ∧ RM I70 A71 ∧ ((y69 = 0 ∨ y69 = 1) ∧ (K (oI y69) (bd L I70 R S))))) ∧ (¬ (tkOk T58 N59 (bl T58 N59 p60) (Int64.ofInt 1937007984)) → ∀ (I63 : mI), (Fr [] [(91, 69)] I46 I63) → (RM I63 A3) → (Tx I63 T58 N59 (bl T58 N59 p60)) → ∃ (T75 : Nat → Int) (N76 p77 : Nat), Tx I63 T75 N76 p77 ∧ (((tkOk T75 N76 (bl T75 N76 p77) (Int64.ofInt 495756340332)) → ∀ (I80 : mI), (Fr [] [(91, 69)] I63 I80) → (RM I80 A3) → (Tx I80 T75 N76 (lt T75 N76 (bl T75 N76 p77))) → CallI (d + 1) 308 [.ref 91, .int (oI x1), .int (oI 15)] (bd L I80 R S) (fun y s => ∃ (y86 : Int) (I87 : mI) (A88 : aS), y = oI y86 ∧ s = bd L I87 R S ∧ inR y86 ∧ RM I87 A88 ∧ ((y86 = 0 ∨ y86 = 1) ∧ (K (oI y86) (bd L I87 R S))))) ∧ (¬ (tkOk T75 N76 (bl T75 N76 p77) (Int64.ofInt 495756340332)) → ∀ (I80 : mI), (Fr [] [(91, 69)] I63 I80) → (RM I80 A3) → (Tx I80 T75 N76 (bl T75 N76 p77)) → ∃ (T92 : Nat → Int) (N93 p94 : Nat), Tx I80 T92 N93 p94 ∧ (((tkOk T92 N93 (bl T92 N93 p94) (Int64.ofInt 7364985)) → ∀ (I97 : mI), (Fr [] [(91, 69)] I80 I97) → (RM I97 A3) → (Tx I97 T92 N93 (lt T92 N93 (bl T92 N93 p94))) → CallI (d + 1) 310 [.ref 91, .int (oI x1), .int (oI 13), .int (oI 9999), .long (Int64.ofInt 26995), .int (oI 9999)] (bd L I97 R S) (fun y s => ∃ (y103 : Int) (I104 : mI) (A105 : aS), y = oI y103 ∧ s = bd L I104 R S ∧ inR y103 ∧ RM I104 A105 ∧ ((y103 = 0 ∨ y103 = 1) ∧ (K (oI y103) (bd L I104 R S))))) ∧ (¬ (tkOk T92 N93 (bl T92 N93 p94) (Int64.ofInt 7364985)) → ∀ (I97 : mI), (Fr [] [(91, 69)] I80 I97) → (RM I97 A3) → (Tx I97 T92 N93 (bl T92 N93 p94)) → ∃ (T109 : Nat → Int) (N110 p111 : Nat), Tx I97 T109 N110 p111 ∧ (((tkOk T109 N110 (bl T109 N110 p111) (Int64.ofInt 499917087592)) → ∀ (I114 : mI), (Fr [] [(91, 69)] I97 I114) → (RM I114 A3) → (Tx I114 T109 N110 (lt T109 N110 (bl T109 N110 p111))) → CallI (d + 1) 310 [.ref 91, .int (oI x1), .int (oI 14), .int (oI 5), .long (Int64.ofInt 26995), .int (oI 9999)] (bd L I114 R S) (fun y s => ∃ (y120 : Int) (I121 : mI) (A122 : aS), y = oI y120 ∧ s = bd L I121 R S ∧ inR y120 ∧ RM I121 A122 ∧ ((y120 = 0 ∨ y120 = 1) ∧ (K (oI y120) (bd L I121 R S))))) ∧ (¬ (tkOk T109 N110 (bl T109 N110 p111) (Int64.ofInt 499917087592)) → ∀ (I114 : mI), (Fr [] [(91, 69)] I97 I114) → (RM I114 A3) → (Tx I114 T109 N110 (bl T109 N110 p111)) → ∃ (T126 : Nat → Int) (N127 p128 : Nat), Tx I114 T126 N127 p128 ∧ (((tkOk T126 N127 (bl T126 N127 p128) (Int64.ofInt 427071729268)) → ∀ (I131 : mI), (Fr [] [(91, 69)] I114 I131) → (RM I131 A3) → (Tx I131 T126 N127 (lt T126 N127 (bl T126 N127 p128))) → CallI (d + 1) 311 [.ref 91, .int (oI x1)] (bd L I131 R S) (fun y s => ∃ (y137 : Int) (I138 : mI) (A139 : aS), y = oI y137 ∧ s = bd L I138 R S ∧ inR y137 ∧ RM I138 A139 ∧ (((y137 = 0) → K (oI 0) (bd L I138 R S)) ∧ (¬ (y137 = 0) → CallI (d + 1) 313 [.ref 91, .int (oI x1)] (bd L I138 R S) (fun y s => ∃ (y142 : Int) (I143 : mI) (A144 : aS), y = oI y142 ∧ s = bd L I143 R S ∧ inR y142 ∧ RM I143 A144 ∧ (((y142 = 0) → K (oI 0) (bd L I143 R S)) ∧ (¬ (y142 = 0) → K (oI 1) (bd L I143 R S)))))))) ∧ (¬ (tkOk T126 N127 (bl T126 N127 p128) (Int64.ofInt 427071729268)) → ∀ (I131 : mI), (Fr [] [(91, 69)] I114 I131) → (RM I131 A3) → (Tx I131 T126 N127 (bl T126 N127 p128)) → ∃ (T148 : Nat → Int) (N149 p150 : Nat), Tx I131 T148 N149 p150 ∧ (((tkOk T148 N149 (bl T148 N149 p150) (Int64.ofInt 111567739122533)) → ∀ (I153 : mI), (Fr [] [(91, 69)] I131 I153) → (RM I153 A3) → (Tx I153 T148 N149 (lt T148 N149 (bl T148 N149 p150))) → CallI (d + 1) 310 [.ref 91, .int (oI x1), .int (oI 2), .int (oI 5), .long (Int64.ofInt 24947), .int (oI 2)] (bd L I153 R S) (fun y s => ∃ (y159 : Int) (I160 : mI) (A161 : aS), y = oI y159 ∧ s = bd L I160 R S ∧ inR y159 ∧ RM I160 A161 ∧ (((y159 = 0) → K (oI 0) (bd L I160 R S)) ∧ (¬ (y159 = 0) → CallI (d + 1) 313 [.ref 91, .int (oI x1)] (bd L I160 R S) (fun y s => ∃ (y164 : Int) (I165 : mI) (A166 : aS), y = oI y164 ∧ s = bd L I165 R S ∧ inR y164 ∧ RM I165 A166 ∧ (((y164 = 0) → K (oI 0) (bd L I165 R S)) ∧ (¬ (y164 = 0) → K (oI 1) (bd L I165 R S)))))))) ∧ (¬ (tkOk T148 N149 (bl T148 N149 p150) (Int64.ofInt 111567739122533)) → ∀ (I153 : mI), (Fr [] [(91, 69)] I131 I153) → (RM I153 A3) → (Tx I153 T148 N149 (bl T148 N149 p150)) → ∃ (T170 : Nat → Int) (N171 p172 : Nat), Tx I153 T170 N171 p172 ∧ (((tkOk T170 N171 (bl T170 N171 p172) (Int64.ofInt 1885434739)) → ∀ (I175 : mI), (Fr [] [(91, 69)] I153 I175) → (RM I175 A3) → (Tx I175 T170 N171 (lt T170 N171 (bl T170 N171 p172))) → CallI (d + 1) 310 [.ref 91, .int (oI x1), .int (oI 4), .int (oI 5), .long (Int64.ofInt 474147546227), .int (oI 9999)] (bd L I175 R S) (fun y s => ∃ (y181 : Int) (I182 : mI) (A183 : aS), y = oI y181 ∧ s = bd L I182 R S ∧ inR y181 ∧ RM I182 A183 ∧ (((y181 = 0) → K (oI 0) (bd L I182 R S)) ∧ (¬ (y181 = 0) → CallI (d + 1) 313 [.ref 91, .int (oI x1)] (bd L I182 R S) (fun y s => ∃ (y186 : Int) (I187 : mI) (A188 : aS), y = oI y186 ∧ s = bd L I187 R S ∧ inR y186 ∧ RM I187 A188 ∧ (((y186 = 0) → K (oI 0) (bd L I187 R S)) ∧ (¬ (y186 = 0) → K (oI 1) (bd L I187 R S)))))))) ∧ (¬ (tkOk T170 N171 (bl T170 N171 p172) (Int64.ofInt 1885434739)) → ∀ (I175 : mI), (Fr [] [(91, 69)] I153 I175) → (RM I175 A3) → (Tx I175 T170 N171 (bl T170 N171 p172)) → ∃ (T192 : Nat → Int) (N193 p194 : Nat), Tx I175 T192 N193 p194 ∧ (((tkOk T192 N193 (bl T192 N193 p194) (Int64.ofInt 444300619380)) → ∀ (I197 : mI), (Fr [] [(91, 69)] I175 I197) → (RM I197 A3) → (Tx I197 T192 N193 (lt T192 N193 (bl T192 N193 p194))) → CallI (d + 1) 312 [.ref 91, .int (oI x1)] (bd L I197 R S) (fun y s => ∃ (y203 : Int) (I204 : mI) (A205 : aS), y = oI y203 ∧ s = bd L I204 R S ∧ inR y203 ∧ RM I204 A205 ∧ (((y203 = 0) → K (oI 0) (bd L I204 R S)) ∧ (¬ (y203 = 0) → CallI (d + 1) 313 [.ref 91, .int (oI x1)] (bd L I204 R S) (fun y s => ∃ (y208 : Int) (I209 : mI) (A210 : aS), y = oI y208 ∧ s = bd L I209 R S ∧ inR y208 ∧ RM I209 A210 ∧ (((y208 = 0) → K (oI 0) (bd L I209 R S)) ∧ (¬ (y208 = 0) → K (oI 1) (bd L I209 R S)))))))) ∧ (¬ (tkOk T192 N193 (bl T192 N193 p194) (Int64.ofInt 444300619380)) → ∀ (I197 : mI), (Fr [] [(91, 69)] I175 I197) → (RM I197 A3) → (Tx I197 T192 N193 (bl T192 N193 p194)) → ∃ (T214 : Nat → Int) (N215 p216 : Nat), Tx I197 T214 N215 p216 ∧ (((tkOk T214 N215 (bl T214 N215 p216) (Int64.ofInt 1751215206)) → ∀ (I219 : mI), (Fr [] [(91, 69)] I197 I219) → (RM I219 A3) → (Tx I219 T214 N215 (lt T214 N215 (bl T214 N215 p216))) → WfC A3 ∧ ((((140 = 137 ∨ 140 = 138) ∧ (A3 91 65).toNat ≤ x1.toNat) ∨ ((140 = 139 ∨ 140 = 140) ∧ 40 * (A3 91 65).toNat ≤ x1.toNat)) ∧ (∀ (I228 : mI) (A229 : aS), (I228 = (u2 I219 140 x1.toNat (oI 9))) → (A229 = (u2 A3 140 x1.toNat 9)) → (RM I228 A229) → CallI (d + 1) 313 [.ref 91, .int (oI x1)] (bd L I228 R S) (fun y s => ∃ (y233 : Int) (I234 : mI) (A235 : aS), y = oI y233 ∧ s = bd L I234 R S ∧ inR y233 ∧ RM I234 A235 ∧ (((y233 = 0) → K (oI 0) (bd L I234 R S)) ∧ (¬ (y233 = 0) → K (oI 1) (bd L I234 R S))))))) ∧ (¬ (tkOk T214 N215 (bl T214 N215 p216) (Int64.ofInt 1751215206)) → ∀ (I219 : mI), (Fr [] [(91, 69)] I197 I219) → (RM I219 A3) → (Tx I219 T214 N215 (bl T214 N215 p216)) → ∃ (T239 : Nat → Int) (N240 p241 : Nat), Tx I219 T239 N240 p241 ∧ (((tkOk T239 N240 (bl T239 N240 p241) (Int64.ofInt 107152796905060)) → ∀ (I244 : mI), (Fr [] [(91, 69)] I219 I244) → (RM I244 A3) → (Tx I244 T239 N240 (lt T239 N240 (bl T239 N240 p241))) → CallI (d + 1) 308 [.ref 91, .int (oI x1), .int (oI 3)] (bd L I244 R S) (fun y s => ∃ (y251 : Int) (I252 : mI) (A253 : aS), y = oI y251 ∧ s = bd L I252 R S ∧ inR y251 ∧ RM I252 A253 ∧ (((y251 = 0) → K (oI 0) (bd L I252 R S)) ∧ (¬ (y251 = 0) → CallI (d + 1) 313 [.ref 91, .int (oI x1)] (bd L I252 R S) (fun y s => ∃ (y258 : Int) (I259 : mI) (A260 : aS), y = oI y258 ∧ s = bd L I259 R S ∧ inR y258 ∧ RM I259 A260 ∧ (((y258 = 0) → K (oI 0) (bd L I259 R S)) ∧ (¬ (y258 = 0) → K (oI 1) (bd L I259 R S)))))))) ∧ (¬ (tkOk T239 N240 (bl T239 N240 p241) (Int64.ofInt 107152796905060)) → ∀ (I244 : mI), (Fr [] [(91, 69)] I219 I244) → (RM I244 A3) → (Tx I244 T239 N240 (bl T239 N240 p241)) → ∃ (T264 : Nat → Int) (N265 p266 : Nat), Tx I244 T264 N265 p266 ∧ (((tkOk T264 N265 (bl T264 N265 p266) (Int64.ofInt 1919513445)) → ∀ (I269 : mI), (Fr [] [(91, 69)] I244 I269) → (RM I269 A3) → (Tx I269 T264 N265 (lt T264 N265 (bl T264 N265 p266))) → CallI (d + 1) 308 [.ref 91, .int (oI x1), .int (oI 5)] (bd L I269 R S) (fun y s => ∃ (y276 : Int) (I277 : mI) (A278 : aS), y = oI y276 ∧ s = bd L I277 R S ∧ inR y276 ∧ RM I277 A278 ∧ (((y276 = 0) → K (oI 0) (bd L I277 R S)) ∧ (¬ (y276 = 0) → CallI (d + 1) 313 [.ref 91, .int (oI x1)] (bd L I277 R S) (fun y s => ∃ (y283 : Int) (I284 : mI) (A285 : aS), y = oI y283 ∧ s = bd L I284 R S ∧ inR y283 ∧ RM I284 A285 ∧ (((y283 = 0) → K (oI 0) (bd L I284 R S)) ∧ (¬ (y283 = 0) → K (oI 1) (bd L I284 R S)))))))) ∧ (¬ (tkOk T264 N265 (bl T264 N265 p266) (Int64.ofInt 1919513445)) → ∀ (I269 : mI), (Fr [] [(91, 69)] I244 I269) → (RM I269 A3) → (Tx I269 T264 N265 (bl T264 N265 p266)) → ∃ (T289 : Nat → Int) (N290 p291 : Nat), Tx I269 T289 N290 p291 ∧ (((tkOk T289 N290 (bl T289 N290 p291) (Int64.ofInt 6710629)) → ∀ (I294 : mI), (Fr [] [(91, 69)] I269 I294) → (RM I294 A3) → (Tx I294 T289 N290 (lt T289 N290 (bl T289 N290 p291))) → CallI (d + 1) 308 [.ref 91, .int (oI x1), .int (oI 8)] (bd L I294 R S) (fun y s => ∃ (y301 : Int) (I302 : mI) (A303 : aS), y = oI y301 ∧ s = bd L I302 R S ∧ inR y301 ∧ RM I302 A303 ∧ (((y301 = 0) → K (oI 0) (bd L I302 R S)) ∧ (¬ (y301 = 0) → CallI (d + 1) 313 [.ref 91, .int (oI x1)] (bd L I302 R S) (fun y s => ∃ (y308 : Int) (I309 : mI) (A310 : aS), y = oI y308 ∧ s = bd L I309 R S ∧ inR y308 ∧ RM I309 A310 ∧ (((y308 = 0) → K (oI 0) (bd L I309 R S)) ∧ (¬ (y308 = 0) → K (oI 1) (bd L I309 R S)))))))) ∧ (¬ (tkOk T289 N290 (bl T289 N290 p291) (Int64.ofInt 6710629)) → ∀ (I294 : mI), (Fr [] [(91, 69)] I269 I294) → (RM I294 A3) → (Tx I294 T289 N290 (bl T289 N290 p291)) → K (oI 0) (bd L I294 R S))))))))))))))))))))))))))))))))) : CallI (d + 2) 307 [.ref 91, .int (oI x1)] (bd L I R S) K := by
  refine cI_of (ls := [.ref 91, .int (oI x1), mUn, mUn]) rfl ?_
  refine xG gb307.1 ?_
  refine s6 (p := 91) rfl ?_
  refine s51 sh91 (by decide) (by decide) rf91_78 ?_
  refine s4 (x := x1) rfl ?_
  refine s0 ?_
  obtain ⟨g1, hE⟩ := hE
  refine s44 sh143 (by decide) g1 rfl ?_
  refine s6 (p := 91) rfl ?_
  refine s2 ?_
  obtain ⟨I2, q4⟩ : ∃ i : mI, i = (u2 I 143 x1.toNat (oI (-1))) := ⟨_, rfl⟩
  obtain ⟨A3, q5⟩ : ∃ i : aS, i = (u2 A 143 x1.toNat (-1)) := ⟨_, rfl⟩
  have q6 : RM I2 A3 := by rw [q4, q5]; exact (RM.set hR 143 x1.toNat (inRd rfl) rfl)
  replace hE := hE I2 A3 q4 q5 q6
  obtain ⟨T7, N8, p9, k10, hE⟩ := hE
  refine sI rc304 rfl (Nat.le_of_ble_eq_true rfl) ?_
  rw [← q4]
  refine k304 q6 k10 (fun c11 I12 q13 q14 q15 => ?_) (fun c11 I12 q13 q14 q15 => ?_)
  · replace hE := hE.1 c11 I12 q13 q14 q15
    refine s67 (inRd rfl) (fun c17 => absurd c17 (by decide)) (fun _ => ?_)
    refine s6 (p := 91) rfl ?_
    refine s4 (x := x1) rfl ?_
    refine s0 ?_
    refine sI rc308 rfl (Nat.le_of_ble_eq_true rfl) ?_
    refine CallI.mono hE ?_
    rintro _ _ ⟨y18, I19, A20, rfl, rfl, gy18, q21, hE⟩
    obtain ⟨g22, hE⟩ := hE
    refine s84 g22 ?_
    exact rqI_of hE
  · replace hE := hE.2 c11 I12 q13 q14 q15
    refine s67 (inRd rfl) (fun _ => ?_) (fun c23 => absurd (by decide) c23)
    refine xG gb307.2.1 ?_
    refine s6 (p := 91) rfl ?_
    refine s2 ?_
    obtain ⟨T24, N25, p26, k27, hE⟩ := hE
    refine sI rc304 rfl (Nat.le_of_ble_eq_true rfl) ?_
    refine k304 q14 k27 (fun c28 I29 q30 q31 q32 => ?_) (fun c28 I29 q30 q31 q32 => ?_)
    · replace hE := hE.1 c28 I29 q30 q31 q32
      refine s67 (inRd rfl) (fun c34 => absurd c34 (by decide)) (fun _ => ?_)
      refine s6 (p := 91) rfl ?_
      refine s4 (x := x1) rfl ?_
      refine s0 ?_
      refine sI rc308 rfl (Nat.le_of_ble_eq_true rfl) ?_
      refine CallI.mono hE ?_
      rintro _ _ ⟨y35, I36, A37, rfl, rfl, gy35, q38, hE⟩
      obtain ⟨g39, hE⟩ := hE
      refine s84 g39 ?_
      exact rqI_of hE
    · replace hE := hE.2 c28 I29 q30 q31 q32
      refine s67 (inRd rfl) (fun _ => ?_) (fun c40 => absurd (by decide) c40)
      refine xG gb307.2.2.1 ?_
      refine s6 (p := 91) rfl ?_
      refine s2 ?_
      obtain ⟨T41, N42, p43, k44, hE⟩ := hE
      refine sI rc304 rfl (Nat.le_of_ble_eq_true rfl) ?_
      refine k304 q31 k44 (fun c45 I46 q47 q48 q49 => ?_) (fun c45 I46 q47 q48 q49 => ?_)
      · replace hE := hE.1 c45 I46 q47 q48 q49
        refine s67 (inRd rfl) (fun c51 => absurd c51 (by decide)) (fun _ => ?_)
        refine s6 (p := 91) rfl ?_
        refine s4 (x := x1) rfl ?_
        refine s0 ?_
        refine sI rc308 rfl (Nat.le_of_ble_eq_true rfl) ?_
        refine CallI.mono hE ?_
        rintro _ _ ⟨y52, I53, A54, rfl, rfl, gy52, q55, hE⟩
        obtain ⟨g56, hE⟩ := hE
        refine s84 g56 ?_
        exact rqI_of hE
      · replace hE := hE.2 c45 I46 q47 q48 q49
        refine s67 (inRd rfl) (fun _ => ?_) (fun c57 => absurd (by decide) c57)
        refine xG gb307.2.2.2.1 ?_
        refine s6 (p := 91) rfl ?_
        refine s2 ?_
        obtain ⟨T58, N59, p60, k61, hE⟩ := hE
        refine sI rc304 rfl (Nat.le_of_ble_eq_true rfl) ?_
        refine k304 q48 k61 (fun c62 I63 q64 q65 q66 => ?_) (fun c62 I63 q64 q65 q66 => ?_)
        · replace hE := hE.1 c62 I63 q64 q65 q66
          refine s67 (inRd rfl) (fun c68 => absurd c68 (by decide)) (fun _ => ?_)
          refine s6 (p := 91) rfl ?_
          refine s4 (x := x1) rfl ?_
          refine s0 ?_
          refine sI rc308 rfl (Nat.le_of_ble_eq_true rfl) ?_
          refine CallI.mono hE ?_
          rintro _ _ ⟨y69, I70, A71, rfl, rfl, gy69, q72, hE⟩
          obtain ⟨g73, hE⟩ := hE
          refine s84 g73 ?_
          exact rqI_of hE
        · replace hE := hE.2 c62 I63 q64 q65 q66
          refine s67 (inRd rfl) (fun _ => ?_) (fun c74 => absurd (by decide) c74)
          refine xG gb307.2.2.2.2.1 ?_
          refine s6 (p := 91) rfl ?_
          refine s2 ?_
          obtain ⟨T75, N76, p77, k78, hE⟩ := hE
          refine sI rc304 rfl (Nat.le_of_ble_eq_true rfl) ?_
          refine k304 q65 k78 (fun c79 I80 q81 q82 q83 => ?_) (fun c79 I80 q81 q82 q83 => ?_)
          · replace hE := hE.1 c79 I80 q81 q82 q83
            refine s67 (inRd rfl) (fun c85 => absurd c85 (by decide)) (fun _ => ?_)
            refine s6 (p := 91) rfl ?_
            refine s4 (x := x1) rfl ?_
            refine s0 ?_
            refine sI rc308 rfl (Nat.le_of_ble_eq_true rfl) ?_
            refine CallI.mono hE ?_
            rintro _ _ ⟨y86, I87, A88, rfl, rfl, gy86, q89, hE⟩
            obtain ⟨g90, hE⟩ := hE
            refine s84 g90 ?_
            exact rqI_of hE
          · replace hE := hE.2 c79 I80 q81 q82 q83
            refine s67 (inRd rfl) (fun _ => ?_) (fun c91 => absurd (by decide) c91)
            refine xG gb307.2.2.2.2.2.1 ?_
            refine s6 (p := 91) rfl ?_
            refine s2 ?_
            obtain ⟨T92, N93, p94, k95, hE⟩ := hE
            refine sI rc304 rfl (Nat.le_of_ble_eq_true rfl) ?_
            refine k304 q82 k95 (fun c96 I97 q98 q99 q100 => ?_) (fun c96 I97 q98 q99 q100 => ?_)
            · replace hE := hE.1 c96 I97 q98 q99 q100
              refine s67 (inRd rfl) (fun c102 => absurd c102 (by decide)) (fun _ => ?_)
              refine s6 (p := 91) rfl ?_
              refine s4 (x := x1) rfl ?_
              refine s0 ?_
              refine s0 ?_
              refine s2 ?_
              refine s0 ?_
              refine sI rc310 rfl (Nat.le_of_ble_eq_true rfl) ?_
              refine CallI.mono hE ?_
              rintro _ _ ⟨y103, I104, A105, rfl, rfl, gy103, q106, hE⟩
              obtain ⟨g107, hE⟩ := hE
              refine s84 g107 ?_
              exact rqI_of hE
            · replace hE := hE.2 c96 I97 q98 q99 q100
              refine s67 (inRd rfl) (fun _ => ?_) (fun c108 => absurd (by decide) c108)
              refine xG gb307.2.2.2.2.2.2.1 ?_
              refine s6 (p := 91) rfl ?_
              refine s2 ?_
              obtain ⟨T109, N110, p111, k112, hE⟩ := hE
              refine sI rc304 rfl (Nat.le_of_ble_eq_true rfl) ?_
              refine k304 q99 k112 (fun c113 I114 q115 q116 q117 => ?_) (fun c113 I114 q115 q116 q117 => ?_)
              · replace hE := hE.1 c113 I114 q115 q116 q117
                refine s67 (inRd rfl) (fun c119 => absurd c119 (by decide)) (fun _ => ?_)
                refine s6 (p := 91) rfl ?_
                refine s4 (x := x1) rfl ?_
                refine s0 ?_
                refine s0 ?_
                refine s2 ?_
                refine s0 ?_
                refine sI rc310 rfl (Nat.le_of_ble_eq_true rfl) ?_
                refine CallI.mono hE ?_
                rintro _ _ ⟨y120, I121, A122, rfl, rfl, gy120, q123, hE⟩
                obtain ⟨g124, hE⟩ := hE
                refine s84 g124 ?_
                exact rqI_of hE
              · replace hE := hE.2 c113 I114 q115 q116 q117
                refine s67 (inRd rfl) (fun _ => ?_) (fun c125 => absurd (by decide) c125)
                refine xG gb307.2.2.2.2.2.2.2.1 ?_
                refine s6 (p := 91) rfl ?_
                refine s2 ?_
                obtain ⟨T126, N127, p128, k129, hE⟩ := hE
                refine sI rc304 rfl (Nat.le_of_ble_eq_true rfl) ?_
                refine k304 q116 k129 (fun c130 I131 q132 q133 q134 => ?_) (fun c130 I131 q132 q133 q134 => ?_)
                · replace hE := hE.1 c130 I131 q132 q133 q134
                  refine s67 (inRd rfl) (fun c136 => absurd c136 (by decide)) (fun _ => ?_)
                  refine s6 (p := 91) rfl ?_
                  refine s4 (x := x1) rfl ?_
                  refine sI rc311 rfl (Nat.le_of_ble_eq_true rfl) ?_
                  refine CallI.mono hE ?_
                  rintro _ _ ⟨y137, I138, A139, rfl, rfl, gy137, q140, hE⟩
                  refine s7 (ls' := [.ref 91, .int (oI x1), .int (oI y137), mUn]) (Nat.le_of_ble_eq_true rfl) rfl ?_
                  refine s60 ?_
                  refine xG gb307.2.2.2.2.2.2.2.2.2.2.2.2.2.2.2.2.2.2.2.1 ?_
                  refine s4 (x := y137) rfl ?_
                  refine s67 gy137 (fun c141 => ?_) (fun c141 => ?_)
                  · replace hE := hE.1 c141
                    refine xG gb307.2.2.2.2.2.2.2.2.2.2.2.2.2.2.2.2.2.2.2.2.1 ?_
                    refine s0 ?_
                    refine s79 ?_
                    refine xG gb307.2.2.2.2.2.2.2.2.2.2.2.2.2.2.2.2.2.2.2.2.2 ?_
                    refine s84 (by decide) ?_
                    exact rqI_of hE
                  · replace hE := hE.2 c141
                    refine s6 (p := 91) rfl ?_
                    refine s4 (x := x1) rfl ?_
                    refine sI rc313 rfl (Nat.le_of_ble_eq_true rfl) ?_
                    refine CallI.mono hE ?_
                    rintro _ _ ⟨y142, I143, A144, rfl, rfl, gy142, q145, hE⟩
                    refine s67 gy142 (fun c146 => ?_) (fun c146 => ?_)
                    · replace hE := hE.1 c146
                      refine xG gb307.2.2.2.2.2.2.2.2.2.2.2.2.2.2.2.2.2.2.2.2.1 ?_
                      refine s0 ?_
                      refine s79 ?_
                      refine xG gb307.2.2.2.2.2.2.2.2.2.2.2.2.2.2.2.2.2.2.2.2.2 ?_
                      refine s84 (by decide) ?_
                      exact rqI_of hE
                    · replace hE := hE.2 c146
                      refine s0 ?_
                      refine s60 ?_
                      refine xG gb307.2.2.2.2.2.2.2.2.2.2.2.2.2.2.2.2.2.2.2.2.2 ?_
                      refine s84 (by decide) ?_
                      exact rqI_of hE
                · replace hE := hE.2 c130 I131 q132 q133 q134
                  refine s67 (inRd rfl) (fun _ => ?_) (fun c147 => absurd (by decide) c147)
                  refine xG gb307.2.2.2.2.2.2.2.2.1 ?_
                  refine s6 (p := 91) rfl ?_
                  refine s2 ?_
                  obtain ⟨T148, N149, p150, k151, hE⟩ := hE
                  refine sI rc304 rfl (Nat.le_of_ble_eq_true rfl) ?_
                  refine k304 q133 k151 (fun c152 I153 q154 q155 q156 => ?_) (fun c152 I153 q154 q155 q156 => ?_)
                  · replace hE := hE.1 c152 I153 q154 q155 q156
                    refine s67 (inRd rfl) (fun c158 => absurd c158 (by decide)) (fun _ => ?_)
                    refine s6 (p := 91) rfl ?_
                    refine s4 (x := x1) rfl ?_
                    refine s0 ?_
                    refine s0 ?_
                    refine s2 ?_
                    refine s0 ?_
                    refine sI rc310 rfl (Nat.le_of_ble_eq_true rfl) ?_
                    refine CallI.mono hE ?_
                    rintro _ _ ⟨y159, I160, A161, rfl, rfl, gy159, q162, hE⟩
                    refine s7 (ls' := [.ref 91, .int (oI x1), .int (oI y159), mUn]) (Nat.le_of_ble_eq_true rfl) rfl ?_
                    refine s60 ?_
                    refine xG gb307.2.2.2.2.2.2.2.2.2.2.2.2.2.2.2.2.2.2.2.1 ?_
                    refine s4 (x := y159) rfl ?_
                    refine s67 gy159 (fun c163 => ?_) (fun c163 => ?_)
                    · replace hE := hE.1 c163
                      refine xG gb307.2.2.2.2.2.2.2.2.2.2.2.2.2.2.2.2.2.2.2.2.1 ?_
                      refine s0 ?_
                      refine s79 ?_
                      refine xG gb307.2.2.2.2.2.2.2.2.2.2.2.2.2.2.2.2.2.2.2.2.2 ?_
                      refine s84 (by decide) ?_
                      exact rqI_of hE
                    · replace hE := hE.2 c163
                      refine s6 (p := 91) rfl ?_
                      refine s4 (x := x1) rfl ?_
                      refine sI rc313 rfl (Nat.le_of_ble_eq_true rfl) ?_
                      refine CallI.mono hE ?_
                      rintro _ _ ⟨y164, I165, A166, rfl, rfl, gy164, q167, hE⟩
                      refine s67 gy164 (fun c168 => ?_) (fun c168 => ?_)
                      · replace hE := hE.1 c168
                        refine xG gb307.2.2.2.2.2.2.2.2.2.2.2.2.2.2.2.2.2.2.2.2.1 ?_
                        refine s0 ?_
                        refine s79 ?_
                        refine xG gb307.2.2.2.2.2.2.2.2.2.2.2.2.2.2.2.2.2.2.2.2.2 ?_
                        refine s84 (by decide) ?_
                        exact rqI_of hE
                      · replace hE := hE.2 c168
                        refine s0 ?_
                        refine s60 ?_
                        refine xG gb307.2.2.2.2.2.2.2.2.2.2.2.2.2.2.2.2.2.2.2.2.2 ?_
                        refine s84 (by decide) ?_
                        exact rqI_of hE
                  · replace hE := hE.2 c152 I153 q154 q155 q156
                    refine s67 (inRd rfl) (fun _ => ?_) (fun c169 => absurd (by decide) c169)
                    refine xG gb307.2.2.2.2.2.2.2.2.2.1 ?_
                    refine s6 (p := 91) rfl ?_
                    refine s2 ?_
                    obtain ⟨T170, N171, p172, k173, hE⟩ := hE
                    refine sI rc304 rfl (Nat.le_of_ble_eq_true rfl) ?_
                    refine k304 q155 k173 (fun c174 I175 q176 q177 q178 => ?_) (fun c174 I175 q176 q177 q178 => ?_)
                    · replace hE := hE.1 c174 I175 q176 q177 q178
                      refine s67 (inRd rfl) (fun c180 => absurd c180 (by decide)) (fun _ => ?_)
                      refine s6 (p := 91) rfl ?_
                      refine s4 (x := x1) rfl ?_
                      refine s0 ?_
                      refine s0 ?_
                      refine s2 ?_
                      refine s0 ?_
                      refine sI rc310 rfl (Nat.le_of_ble_eq_true rfl) ?_
                      refine CallI.mono hE ?_
                      rintro _ _ ⟨y181, I182, A183, rfl, rfl, gy181, q184, hE⟩
                      refine s7 (ls' := [.ref 91, .int (oI x1), .int (oI y181), mUn]) (Nat.le_of_ble_eq_true rfl) rfl ?_
                      refine s60 ?_
                      refine xG gb307.2.2.2.2.2.2.2.2.2.2.2.2.2.2.2.2.2.2.2.1 ?_
                      refine s4 (x := y181) rfl ?_
                      refine s67 gy181 (fun c185 => ?_) (fun c185 => ?_)
                      · replace hE := hE.1 c185
                        refine xG gb307.2.2.2.2.2.2.2.2.2.2.2.2.2.2.2.2.2.2.2.2.1 ?_
                        refine s0 ?_
                        refine s79 ?_
                        refine xG gb307.2.2.2.2.2.2.2.2.2.2.2.2.2.2.2.2.2.2.2.2.2 ?_
                        refine s84 (by decide) ?_
                        exact rqI_of hE
                      · replace hE := hE.2 c185
                        refine s6 (p := 91) rfl ?_
                        refine s4 (x := x1) rfl ?_
                        refine sI rc313 rfl (Nat.le_of_ble_eq_true rfl) ?_
                        refine CallI.mono hE ?_
                        rintro _ _ ⟨y186, I187, A188, rfl, rfl, gy186, q189, hE⟩
                        refine s67 gy186 (fun c190 => ?_) (fun c190 => ?_)
                        · replace hE := hE.1 c190
                          refine xG gb307.2.2.2.2.2.2.2.2.2.2.2.2.2.2.2.2.2.2.2.2.1 ?_
                          refine s0 ?_
                          refine s79 ?_
                          refine xG gb307.2.2.2.2.2.2.2.2.2.2.2.2.2.2.2.2.2.2.2.2.2 ?_
                          refine s84 (by decide) ?_
                          exact rqI_of hE
                        · replace hE := hE.2 c190
                          refine s0 ?_
                          refine s60 ?_
                          refine xG gb307.2.2.2.2.2.2.2.2.2.2.2.2.2.2.2.2.2.2.2.2.2 ?_
                          refine s84 (by decide) ?_
                          exact rqI_of hE
                    · replace hE := hE.2 c174 I175 q176 q177 q178
                      refine s67 (inRd rfl) (fun _ => ?_) (fun c191 => absurd (by decide) c191)
                      refine xG gb307.2.2.2.2.2.2.2.2.2.2.1 ?_
                      refine s6 (p := 91) rfl ?_
                      refine s2 ?_
                      obtain ⟨T192, N193, p194, k195, hE⟩ := hE
                      refine sI rc304 rfl (Nat.le_of_ble_eq_true rfl) ?_
                      refine k304 q177 k195 (fun c196 I197 q198 q199 q200 => ?_) (fun c196 I197 q198 q199 q200 => ?_)
                      · replace hE := hE.1 c196 I197 q198 q199 q200
                        refine s67 (inRd rfl) (fun c202 => absurd c202 (by decide)) (fun _ => ?_)
                        refine s6 (p := 91) rfl ?_
                        refine s4 (x := x1) rfl ?_
                        refine sI rc312 rfl (Nat.le_of_ble_eq_true rfl) ?_
                        refine CallI.mono hE ?_
                        rintro _ _ ⟨y203, I204, A205, rfl, rfl, gy203, q206, hE⟩
                        refine s7 (ls' := [.ref 91, .int (oI x1), .int (oI y203), mUn]) (Nat.le_of_ble_eq_true rfl) rfl ?_
                        refine s60 ?_
                        refine xG gb307.2.2.2.2.2.2.2.2.2.2.2.2.2.2.2.2.2.2.2.1 ?_
                        refine s4 (x := y203) rfl ?_
                        refine s67 gy203 (fun c207 => ?_) (fun c207 => ?_)
                        · replace hE := hE.1 c207
                          refine xG gb307.2.2.2.2.2.2.2.2.2.2.2.2.2.2.2.2.2.2.2.2.1 ?_
                          refine s0 ?_
                          refine s79 ?_
                          refine xG gb307.2.2.2.2.2.2.2.2.2.2.2.2.2.2.2.2.2.2.2.2.2 ?_
                          refine s84 (by decide) ?_
                          exact rqI_of hE
                        · replace hE := hE.2 c207
                          refine s6 (p := 91) rfl ?_
                          refine s4 (x := x1) rfl ?_
                          refine sI rc313 rfl (Nat.le_of_ble_eq_true rfl) ?_
                          refine CallI.mono hE ?_
                          rintro _ _ ⟨y208, I209, A210, rfl, rfl, gy208, q211, hE⟩
                          refine s67 gy208 (fun c212 => ?_) (fun c212 => ?_)
                          · replace hE := hE.1 c212
                            refine xG gb307.2.2.2.2.2.2.2.2.2.2.2.2.2.2.2.2.2.2.2.2.1 ?_
                            refine s0 ?_
                            refine s79 ?_
                            refine xG gb307.2.2.2.2.2.2.2.2.2.2.2.2.2.2.2.2.2.2.2.2.2 ?_
                            refine s84 (by decide) ?_
                            exact rqI_of hE
                          · replace hE := hE.2 c212
                            refine s0 ?_
                            refine s60 ?_
                            refine xG gb307.2.2.2.2.2.2.2.2.2.2.2.2.2.2.2.2.2.2.2.2.2 ?_
                            refine s84 (by decide) ?_
                            exact rqI_of hE
                      · replace hE := hE.2 c196 I197 q198 q199 q200
                        refine s67 (inRd rfl) (fun _ => ?_) (fun c213 => absurd (by decide) c213)
                        refine xG gb307.2.2.2.2.2.2.2.2.2.2.2.1 ?_
                        refine s6 (p := 91) rfl ?_
                        refine s2 ?_
                        obtain ⟨T214, N215, p216, k217, hE⟩ := hE
                        refine sI rc304 rfl (Nat.le_of_ble_eq_true rfl) ?_
                        refine k304 q199 k217 (fun c218 I219 q220 q221 q222 => ?_) (fun c218 I219 q220 q221 q222 => ?_)
                        · replace hE := hE.1 c218 I219 q220 q221 q222
                          refine s67 (inRd rfl) (fun c224 => absurd c224 (by decide)) (fun _ => ?_)
                          refine s6 (p := 91) rfl ?_
                          refine s51 sh91 (by decide) (by decide) rf91_75 ?_
                          refine s4 (x := x1) rfl ?_
                          refine s0 ?_
                          refine s44 sh140 (by decide) g1 rfl ?_
                          refine s0 ?_
                          refine s7 (ls' := [.ref 91, .int (oI x1), .int (oI 1), mUn]) (Nat.le_of_ble_eq_true rfl) rfl ?_
                          refine s60 ?_
                          refine xG gb307.2.2.2.2.2.2.2.2.2.2.2.2.2.2.2.2.2.2.2.1 ?_
                          refine s4 (x := 1) rfl ?_
                          refine s67 (inRd rfl) (fun c225 => absurd c225 (by decide)) (fun _ => ?_)
                          refine s6 (p := 91) rfl ?_
                          refine s4 (x := x1) rfl ?_
                          obtain ⟨g226, hE⟩ := hE
                          obtain ⟨g227, hE⟩ := hE
                          obtain ⟨I228, q230⟩ : ∃ i : mI, i = (u2 I219 140 x1.toNat (oI 9)) := ⟨_, rfl⟩
                          obtain ⟨A229, q231⟩ : ∃ i : aS, i = (u2 A3 140 x1.toNat 9) := ⟨_, rfl⟩
                          have q232 : RM I228 A229 := by rw [q230, q231]; exact (RM.setS q221 g226 140 x1.toNat (inRd rfl) g227)
                          replace hE := hE I228 A229 q230 q231 q232
                          refine sI rc313 rfl (Nat.le_of_ble_eq_true rfl) ?_
                          rw [← q230]
                          refine CallI.mono hE ?_
                          rintro _ _ ⟨y233, I234, A235, rfl, rfl, gy233, q236, hE⟩
                          refine s67 gy233 (fun c237 => ?_) (fun c237 => ?_)
                          · replace hE := hE.1 c237
                            refine xG gb307.2.2.2.2.2.2.2.2.2.2.2.2.2.2.2.2.2.2.2.2.1 ?_
                            refine s0 ?_
                            refine s79 ?_
                            refine xG gb307.2.2.2.2.2.2.2.2.2.2.2.2.2.2.2.2.2.2.2.2.2 ?_
                            refine s84 (by decide) ?_
                            exact rqI_of hE
                          · replace hE := hE.2 c237
                            refine s0 ?_
                            refine s60 ?_
                            refine xG gb307.2.2.2.2.2.2.2.2.2.2.2.2.2.2.2.2.2.2.2.2.2 ?_
                            refine s84 (by decide) ?_
                            exact rqI_of hE
                        · replace hE := hE.2 c218 I219 q220 q221 q222
                          refine s67 (inRd rfl) (fun _ => ?_) (fun c238 => absurd (by decide) c238)
                          refine xG gb307.2.2.2.2.2.2.2.2.2.2.2.2.1 ?_
                          refine s6 (p := 91) rfl ?_
                          refine s2 ?_
                          obtain ⟨T239, N240, p241, k242, hE⟩ := hE
                          refine sI rc304 rfl (Nat.le_of_ble_eq_true rfl) ?_
                          refine k304 q221 k242 (fun c243 I244 q245 q246 q247 => ?_) (fun c243 I244 q245 q246 q247 => ?_)
                          · replace hE := hE.1 c243 I244 q245 q246 q247
                            refine s67 (inRd rfl) (fun c249 => absurd c249 (by decide)) (fun _ => ?_)
                            refine s0 ?_
                            refine s60 ?_
                            refine xG gb307.2.2.2.2.2.2.2.2.2.2.2.2.2.2.2.2.1 ?_
                            refine s7 (ls' := [.ref 91, .int (oI x1), mUn, .int (oI 3)]) (Nat.le_of_ble_eq_true rfl) rfl ?_
                            refine s4 (x := 3) rfl ?_
                            refine s0 ?_
                            refine s61 (inRd rfl) (inRd rfl) (fun c250 => absurd c250 (by decide)) (fun _ => ?_)
                            refine s6 (p := 91) rfl ?_
                            refine s4 (x := x1) rfl ?_
                            refine s4 (x := 3) rfl ?_
                            refine sI rc308 rfl (Nat.le_of_ble_eq_true rfl) ?_
                            refine CallI.mono hE ?_
                            rintro _ _ ⟨y251, I252, A253, rfl, rfl, gy251, q254, hE⟩
                            refine s67 gy251 (fun c255 => ?_) (fun c255 => ?_)
                            · replace hE := hE.1 c255
                              refine xG gb307.2.2.2.2.2.2.2.2.2.2.2.2.2.2.2.2.2.1 ?_
                              refine s0 ?_
                              refine s79 ?_
                              refine xG gb307.2.2.2.2.2.2.2.2.2.2.2.2.2.2.2.2.2.2.1 ?_
                              refine s7 (ls' := [.ref 91, .int (oI x1), .int (oI 0), .int (oI 3)]) (Nat.le_of_ble_eq_true rfl) rfl ?_
                              refine s79 ?_
                              refine xG gb307.2.2.2.2.2.2.2.2.2.2.2.2.2.2.2.2.2.2.2.1 ?_
                              refine s4 (x := 0) rfl ?_
                              refine s67 (inRd rfl) (fun _ => ?_) (fun c256 => absurd (by decide) c256)
                              refine xG gb307.2.2.2.2.2.2.2.2.2.2.2.2.2.2.2.2.2.2.2.2.1 ?_
                              refine s0 ?_
                              refine s79 ?_
                              refine xG gb307.2.2.2.2.2.2.2.2.2.2.2.2.2.2.2.2.2.2.2.2.2 ?_
                              refine s84 (by decide) ?_
                              exact rqI_of hE
                            · replace hE := hE.2 c255
                              refine s0 ?_
                              refine s60 ?_
                              refine xG gb307.2.2.2.2.2.2.2.2.2.2.2.2.2.2.2.2.2.2.1 ?_
                              refine s7 (ls' := [.ref 91, .int (oI x1), .int (oI 1), .int (oI 3)]) (Nat.le_of_ble_eq_true rfl) rfl ?_
                              refine s79 ?_
                              refine xG gb307.2.2.2.2.2.2.2.2.2.2.2.2.2.2.2.2.2.2.2.1 ?_
                              refine s4 (x := 1) rfl ?_
                              refine s67 (inRd rfl) (fun c257 => absurd c257 (by decide)) (fun _ => ?_)
                              refine s6 (p := 91) rfl ?_
                              refine s4 (x := x1) rfl ?_
                              refine sI rc313 rfl (Nat.le_of_ble_eq_true rfl) ?_
                              refine CallI.mono hE ?_
                              rintro _ _ ⟨y258, I259, A260, rfl, rfl, gy258, q261, hE⟩
                              refine s67 gy258 (fun c262 => ?_) (fun c262 => ?_)
                              · replace hE := hE.1 c262
                                refine xG gb307.2.2.2.2.2.2.2.2.2.2.2.2.2.2.2.2.2.2.2.2.1 ?_
                                refine s0 ?_
                                refine s79 ?_
                                refine xG gb307.2.2.2.2.2.2.2.2.2.2.2.2.2.2.2.2.2.2.2.2.2 ?_
                                refine s84 (by decide) ?_
                                exact rqI_of hE
                              · replace hE := hE.2 c262
                                refine s0 ?_
                                refine s60 ?_
                                refine xG gb307.2.2.2.2.2.2.2.2.2.2.2.2.2.2.2.2.2.2.2.2.2 ?_
                                refine s84 (by decide) ?_
                                exact rqI_of hE
                          · replace hE := hE.2 c243 I244 q245 q246 q247
                            refine s67 (inRd rfl) (fun _ => ?_) (fun c263 => absurd (by decide) c263)
                            refine xG gb307.2.2.2.2.2.2.2.2.2.2.2.2.2.1 ?_
                            refine s6 (p := 91) rfl ?_
                            refine s2 ?_
                            obtain ⟨T264, N265, p266, k267, hE⟩ := hE
                            refine sI rc304 rfl (Nat.le_of_ble_eq_true rfl) ?_
                            refine k304 q246 k267 (fun c268 I269 q270 q271 q272 => ?_) (fun c268 I269 q270 q271 q272 => ?_)
                            · replace hE := hE.1 c268 I269 q270 q271 q272
                              refine s67 (inRd rfl) (fun c274 => absurd c274 (by decide)) (fun _ => ?_)
                              refine s0 ?_
                              refine s60 ?_
                              refine xG gb307.2.2.2.2.2.2.2.2.2.2.2.2.2.2.2.2.1 ?_
                              refine s7 (ls' := [.ref 91, .int (oI x1), mUn, .int (oI 5)]) (Nat.le_of_ble_eq_true rfl) rfl ?_
                              refine s4 (x := 5) rfl ?_
                              refine s0 ?_
                              refine s61 (inRd rfl) (inRd rfl) (fun c275 => absurd c275 (by decide)) (fun _ => ?_)
                              refine s6 (p := 91) rfl ?_
                              refine s4 (x := x1) rfl ?_
                              refine s4 (x := 5) rfl ?_
                              refine sI rc308 rfl (Nat.le_of_ble_eq_true rfl) ?_
                              refine CallI.mono hE ?_
                              rintro _ _ ⟨y276, I277, A278, rfl, rfl, gy276, q279, hE⟩
                              refine s67 gy276 (fun c280 => ?_) (fun c280 => ?_)
                              · replace hE := hE.1 c280
                                refine xG gb307.2.2.2.2.2.2.2.2.2.2.2.2.2.2.2.2.2.1 ?_
                                refine s0 ?_
                                refine s79 ?_
                                refine xG gb307.2.2.2.2.2.2.2.2.2.2.2.2.2.2.2.2.2.2.1 ?_
                                refine s7 (ls' := [.ref 91, .int (oI x1), .int (oI 0), .int (oI 5)]) (Nat.le_of_ble_eq_true rfl) rfl ?_
                                refine s79 ?_
                                refine xG gb307.2.2.2.2.2.2.2.2.2.2.2.2.2.2.2.2.2.2.2.1 ?_
                                refine s4 (x := 0) rfl ?_
                                refine s67 (inRd rfl) (fun _ => ?_) (fun c281 => absurd (by decide) c281)
                                refine xG gb307.2.2.2.2.2.2.2.2.2.2.2.2.2.2.2.2.2.2.2.2.1 ?_
                                refine s0 ?_
                                refine s79 ?_
                                refine xG gb307.2.2.2.2.2.2.2.2.2.2.2.2.2.2.2.2.2.2.2.2.2 ?_
                                refine s84 (by decide) ?_
                                exact rqI_of hE
                              · replace hE := hE.2 c280
                                refine s0 ?_
                                refine s60 ?_
                                refine xG gb307.2.2.2.2.2.2.2.2.2.2.2.2.2.2.2.2.2.2.1 ?_
                                refine s7 (ls' := [.ref 91, .int (oI x1), .int (oI 1), .int (oI 5)]) (Nat.le_of_ble_eq_true rfl) rfl ?_
                                refine s79 ?_
                                refine xG gb307.2.2.2.2.2.2.2.2.2.2.2.2.2.2.2.2.2.2.2.1 ?_
                                refine s4 (x := 1) rfl ?_
                                refine s67 (inRd rfl) (fun c282 => absurd c282 (by decide)) (fun _ => ?_)
                                refine s6 (p := 91) rfl ?_
                                refine s4 (x := x1) rfl ?_
                                refine sI rc313 rfl (Nat.le_of_ble_eq_true rfl) ?_
                                refine CallI.mono hE ?_
                                rintro _ _ ⟨y283, I284, A285, rfl, rfl, gy283, q286, hE⟩
                                refine s67 gy283 (fun c287 => ?_) (fun c287 => ?_)
                                · replace hE := hE.1 c287
                                  refine xG gb307.2.2.2.2.2.2.2.2.2.2.2.2.2.2.2.2.2.2.2.2.1 ?_
                                  refine s0 ?_
                                  refine s79 ?_
                                  refine xG gb307.2.2.2.2.2.2.2.2.2.2.2.2.2.2.2.2.2.2.2.2.2 ?_
                                  refine s84 (by decide) ?_
                                  exact rqI_of hE
                                · replace hE := hE.2 c287
                                  refine s0 ?_
                                  refine s60 ?_
                                  refine xG gb307.2.2.2.2.2.2.2.2.2.2.2.2.2.2.2.2.2.2.2.2.2 ?_
                                  refine s84 (by decide) ?_
                                  exact rqI_of hE
                            · replace hE := hE.2 c268 I269 q270 q271 q272
                              refine s67 (inRd rfl) (fun _ => ?_) (fun c288 => absurd (by decide) c288)
                              refine xG gb307.2.2.2.2.2.2.2.2.2.2.2.2.2.2.1 ?_
                              refine s6 (p := 91) rfl ?_
                              refine s2 ?_
                              obtain ⟨T289, N290, p291, k292, hE⟩ := hE
                              refine sI rc304 rfl (Nat.le_of_ble_eq_true rfl) ?_
                              refine k304 q271 k292 (fun c293 I294 q295 q296 q297 => ?_) (fun c293 I294 q295 q296 q297 => ?_)
                              · replace hE := hE.1 c293 I294 q295 q296 q297
                                refine s67 (inRd rfl) (fun c299 => absurd c299 (by decide)) (fun _ => ?_)
                                refine s0 ?_
                                refine s60 ?_
                                refine xG gb307.2.2.2.2.2.2.2.2.2.2.2.2.2.2.2.2.1 ?_
                                refine s7 (ls' := [.ref 91, .int (oI x1), mUn, .int (oI 8)]) (Nat.le_of_ble_eq_true rfl) rfl ?_
                                refine s4 (x := 8) rfl ?_
                                refine s0 ?_
                                refine s61 (inRd rfl) (inRd rfl) (fun c300 => absurd c300 (by decide)) (fun _ => ?_)
                                refine s6 (p := 91) rfl ?_
                                refine s4 (x := x1) rfl ?_
                                refine s4 (x := 8) rfl ?_
                                refine sI rc308 rfl (Nat.le_of_ble_eq_true rfl) ?_
                                refine CallI.mono hE ?_
                                rintro _ _ ⟨y301, I302, A303, rfl, rfl, gy301, q304, hE⟩
                                refine s67 gy301 (fun c305 => ?_) (fun c305 => ?_)
                                · replace hE := hE.1 c305
                                  refine xG gb307.2.2.2.2.2.2.2.2.2.2.2.2.2.2.2.2.2.1 ?_
                                  refine s0 ?_
                                  refine s79 ?_
                                  refine xG gb307.2.2.2.2.2.2.2.2.2.2.2.2.2.2.2.2.2.2.1 ?_
                                  refine s7 (ls' := [.ref 91, .int (oI x1), .int (oI 0), .int (oI 8)]) (Nat.le_of_ble_eq_true rfl) rfl ?_
                                  refine s79 ?_
                                  refine xG gb307.2.2.2.2.2.2.2.2.2.2.2.2.2.2.2.2.2.2.2.1 ?_
                                  refine s4 (x := 0) rfl ?_
                                  refine s67 (inRd rfl) (fun _ => ?_) (fun c306 => absurd (by decide) c306)
                                  refine xG gb307.2.2.2.2.2.2.2.2.2.2.2.2.2.2.2.2.2.2.2.2.1 ?_
                                  refine s0 ?_
                                  refine s79 ?_
                                  refine xG gb307.2.2.2.2.2.2.2.2.2.2.2.2.2.2.2.2.2.2.2.2.2 ?_
                                  refine s84 (by decide) ?_
                                  exact rqI_of hE
                                · replace hE := hE.2 c305
                                  refine s0 ?_
                                  refine s60 ?_
                                  refine xG gb307.2.2.2.2.2.2.2.2.2.2.2.2.2.2.2.2.2.2.1 ?_
                                  refine s7 (ls' := [.ref 91, .int (oI x1), .int (oI 1), .int (oI 8)]) (Nat.le_of_ble_eq_true rfl) rfl ?_
                                  refine s79 ?_
                                  refine xG gb307.2.2.2.2.2.2.2.2.2.2.2.2.2.2.2.2.2.2.2.1 ?_
                                  refine s4 (x := 1) rfl ?_
                                  refine s67 (inRd rfl) (fun c307 => absurd c307 (by decide)) (fun _ => ?_)
                                  refine s6 (p := 91) rfl ?_
                                  refine s4 (x := x1) rfl ?_
                                  refine sI rc313 rfl (Nat.le_of_ble_eq_true rfl) ?_
                                  refine CallI.mono hE ?_
                                  rintro _ _ ⟨y308, I309, A310, rfl, rfl, gy308, q311, hE⟩
                                  refine s67 gy308 (fun c312 => ?_) (fun c312 => ?_)
                                  · replace hE := hE.1 c312
                                    refine xG gb307.2.2.2.2.2.2.2.2.2.2.2.2.2.2.2.2.2.2.2.2.1 ?_
                                    refine s0 ?_
                                    refine s79 ?_
                                    refine xG gb307.2.2.2.2.2.2.2.2.2.2.2.2.2.2.2.2.2.2.2.2.2 ?_
                                    refine s84 (by decide) ?_
                                    exact rqI_of hE
                                  · replace hE := hE.2 c312
                                    refine s0 ?_
                                    refine s60 ?_
                                    refine xG gb307.2.2.2.2.2.2.2.2.2.2.2.2.2.2.2.2.2.2.2.2.2 ?_
                                    refine s84 (by decide) ?_
                                    exact rqI_of hE
                              · replace hE := hE.2 c293 I294 q295 q296 q297
                                refine s67 (inRd rfl) (fun _ => ?_) (fun c313 => absurd (by decide) c313)
                                refine xG gb307.2.2.2.2.2.2.2.2.2.2.2.2.2.2.2.1 ?_
                                refine s0 ?_
                                refine s79 ?_
                                refine xG gb307.2.2.2.2.2.2.2.2.2.2.2.2.2.2.2.2.1 ?_
                                refine s7 (ls' := [.ref 91, .int (oI x1), mUn, .int (oI (-1))]) (Nat.le_of_ble_eq_true rfl) rfl ?_
                                refine s4 (x := (-1)) rfl ?_
                                refine s0 ?_
                                refine s61 (inRd rfl) (inRd rfl) (fun _ => ?_) (fun c314 => absurd (by decide) c314)
                                refine xG gb307.2.2.2.2.2.2.2.2.2.2.2.2.2.2.2.2.2.1 ?_
                                refine s0 ?_
                                refine s79 ?_
                                refine xG gb307.2.2.2.2.2.2.2.2.2.2.2.2.2.2.2.2.2.2.1 ?_
                                refine s7 (ls' := [.ref 91, .int (oI x1), .int (oI 0), .int (oI (-1))]) (Nat.le_of_ble_eq_true rfl) rfl ?_
                                refine s79 ?_
                                refine xG gb307.2.2.2.2.2.2.2.2.2.2.2.2.2.2.2.2.2.2.2.1 ?_
                                refine s4 (x := 0) rfl ?_
                                refine s67 (inRd rfl) (fun _ => ?_) (fun c315 => absurd (by decide) c315)
                                refine xG gb307.2.2.2.2.2.2.2.2.2.2.2.2.2.2.2.2.2.2.2.2.1 ?_
                                refine s0 ?_
                                refine s79 ?_
                                refine xG gb307.2.2.2.2.2.2.2.2.2.2.2.2.2.2.2.2.2.2.2.2.2 ?_
                                refine s84 (by decide) ?_
                                exact rqI_of hE
set_option maxRecDepth 4000 in
theorem e303 {d L : Nat} {I : Nat → Nat → Int32} {R : Nat → Nat → Option Nat} {S : List (Nat × Nat)} {K : Int32 → mM → Prop} {A : aS} (hR : RM I A) {x1 : Int} (hE : ∃ (T1 : Nat → Int) (N2 p3 : Nat), Tx I T1 N2 p3 ∧ (((tkOk T1 N2 (bl T1 N2 p3) (Int64.ofInt 1869441396)) → ∀ (I6 : mI), (Fr [] [(91, 69)] I I6) → (RM I6 A) → (Tx I6 T1 N2 (lt T1 N2 (bl T1 N2 p3))) → ∃ (T12 : Nat → Int) (N13 p14 : Nat), Tx I6 T12 N13 p14 ∧ (((nmOk T12 N13 (bl T12 N13 p14) 1 60) → ∀ (I17 : mI), (Fr [] [(91, 69), (91, 90)] I6 I17) → (RM I17 A) → (Tx I17 T12 N13 (dg T12 N13 (bl T12 N13 p14))) → (ld I17 91 90 = nv T12 N13 (bl T12 N13 p14)) → (0 ≤ x1 ∧ x1 < 360) ∧ (WfC A ∧ ((((139 = 137 ∨ 139 = 138) ∧ (A 91 65).toNat ≤ x1.toNat) ∨ ((139 = 139 ∨ 139 = 140) ∧ 40 * (A 91 65).toNat ≤ x1.toNat)) ∧ (WfC (u2 A 139 x1.toNat (ld I17 91 90)) ∧ ((((140 = 137 ∨ 140 = 138) ∧ ((u2 A 139 x1.toNat (ld I17 91 90)) 91 65).toNat ≤ x1.toNat) ∨ ((140 = 139 ∨ 140 = 140) ∧ 40 * ((u2 A 139 x1.toNat (ld I17 91 90)) 91 65).toNat ≤ x1.toNat)) ∧ (∀ (I29 : mI) (A30 : aS), (I29 = (u2 (u2 I17 139 x1.toNat (oI (ld I17 91 90))) 140 x1.toNat (oI 0))) → (A30 = (u2 (u2 A 139 x1.toNat (ld I17 91 90)) 140 x1.toNat 0)) → (RM I29 A30) → ∃ (T34 : Nat → Int) (N35 p36 : Nat), Tx I29 T34 N35 p36 ∧ ((((bl T34 N35 p36) < N35 ∧ T34 (bl T34 N35 p36) = 59) → ∀ (I39 : mI), (Fr [] [(91, 69)] I29 I39) → (RM I39 A30) → (Tx I39 T34 N35 ((bl T34 N35 p36) + 1)) → K (oI 1) (bd L I39 R S)) ∧ (¬ ((bl T34 N35 p36) < N35 ∧ T34 (bl T34 N35 p36) = 59) → ∀ (I39 : mI), (Fr [] [(91, 69)] I29 I39) → (RM I39 A30) → (Tx I39 T34 N35 (bl T34 N35 p36)) → K (oI 0) (bd L I39 R S))))))))) ∧ (¬ (nmOk T12 N13 (bl T12 N13 p14) 1 60) → ∀ (I17 : mI), (Fr [] [(91, 69), (91, 90)] I6 I17) → (RM I17 A) → (Tx I17 T12 N13 (bl T12 N13 p14)) → K (oI 0) (bd L I17 R S)))) ∧ (¬ (tkOk T1 N2 (bl T1 N2 p3) (Int64.ofInt 1869441396)) → ∀ (I6 : mI), (Fr [] [(91, 69)] I I6) → (RM I6 A) → (Tx I6 T1 N2 (bl T1 N2 p3)) → ∃ (T46 : Nat → Int) (N47 p48 : Nat), Tx I6 T46 N47 p48 ∧ (((tkOk T46 N47 (bl T46 N47 p48) (Int64.ofInt 109317142704997)) → ∀ (I51 : mI), (Fr [] [(91, 69)] I6 I51) → (RM I51 A) → (Tx I51 T46 N47 (lt T46 N47 (bl T46 N47 p48))) → ∃ (T57 : Nat → Int) (N58 p59 : Nat), Tx I51 T57 N58 p59 ∧ (((nmOk T57 N58 (bl T57 N58 p59) 1 60) → ∀ (I62 : mI), (Fr [] [(91, 69), (91, 90)] I51 I62) → (RM I62 A) → (Tx I62 T57 N58 (dg T57 N58 (bl T57 N58 p59))) → (ld I62 91 90 = nv T57 N58 (bl T57 N58 p59)) → (0 ≤ x1 ∧ x1 < 360) ∧ (WfC A ∧ ((((139 = 137 ∨ 139 = 138) ∧ (A 91 65).toNat ≤ x1.toNat) ∨ ((139 = 139 ∨ 139 = 140) ∧ 40 * (A 91 65).toNat ≤ x1.toNat)) ∧ (WfC (u2 A 139 x1.toNat (ld I62 91 90)) ∧ ((((140 = 137 ∨ 140 = 138) ∧ ((u2 A 139 x1.toNat (ld I62 91 90)) 91 65).toNat ≤ x1.toNat) ∨ ((140 = 139 ∨ 140 = 140) ∧ 40 * ((u2 A 139 x1.toNat (ld I62 91 90)) 91 65).toNat ≤ x1.toNat)) ∧ (∀ (I74 : mI) (A75 : aS), (I74 = (u2 (u2 I62 139 x1.toNat (oI (ld I62 91 90))) 140 x1.toNat (oI 0))) → (A75 = (u2 (u2 A 139 x1.toNat (ld I62 91 90)) 140 x1.toNat 0)) → (RM I74 A75) → ∃ (T79 : Nat → Int) (N80 p81 : Nat), Tx I74 T79 N80 p81 ∧ ((((bl T79 N80 p81) < N80 ∧ T79 (bl T79 N80 p81) = 58) → ∀ (I84 : mI), (Fr [] [(91, 69)] I74 I84) → (RM I84 A75) → (Tx I84 T79 N80 ((bl T79 N80 p81) + 1)) → CallI (d + 1) 307 [.ref 91, .int (oI x1)] (bd L I84 R S) (fun y s => ∃ (y90 : Int) (I91 : mI) (A92 : aS), y = oI y90 ∧ s = bd L I91 R S ∧ inR y90 ∧ RM I91 A92 ∧ (((y90 = 0) → K (oI 0) (bd L I91 R S)) ∧ (¬ (y90 = 0) → ∃ (T95 : Nat → Int) (N96 p97 : Nat), Tx I91 T95 N96 p97 ∧ ((((bl T95 N96 p97) < N96 ∧ T95 (bl T95 N96 p97) = 59) → ∀ (I100 : mI), (Fr [] [(91, 69)] I91 I100) → (RM I100 A92) → (Tx I100 T95 N96 ((bl T95 N96 p97) + 1)) → K (oI 1) (bd L I100 R S)) ∧ (¬ ((bl T95 N96 p97) < N96 ∧ T95 (bl T95 N96 p97) = 59) → ∀ (I100 : mI), (Fr [] [(91, 69)] I91 I100) → (RM I100 A92) → (Tx I100 T95 N96 (bl T95 N96 p97)) → K (oI 0) (bd L I100 R S))))))) ∧ (¬ ((bl T79 N80 p81) < N80 ∧ T79 (bl T79 N80 p81) = 58) → ∀ (I84 : mI), (Fr [] [(91, 69)] I74 I84) → (RM I84 A75) → (Tx I84 T79 N80 (bl T79 N80 p81)) → K (oI 0) (bd L I84 R S))))))))) ∧ (¬ (nmOk T57 N58 (bl T57 N58 p59) 1 60) → ∀ (I62 : mI), (Fr [] [(91, 69), (91, 90)] I51 I62) → (RM I62 A) → (Tx I62 T57 N58 (bl T57 N58 p59)) → K (oI 0) (bd L I62 R S)))) ∧ (¬ (tkOk T46 N47 (bl T46 N47 p48) (Int64.ofInt 109317142704997)) → ∀ (I51 : mI), (Fr [] [(91, 69)] I6 I51) → (RM I51 A) → (Tx I51 T46 N47 (bl T46 N47 p48)) → K (oI 0) (bd L I51 R S)))))) : CallI (d + 2) 303 [.ref 91, .int (oI x1)] (bd L I R S) K := by
  refine cI_of (ls := [.ref 91, .int (oI x1), mUn]) rfl ?_
  refine xG gb303.1 ?_
  refine s6 (p := 91) rfl ?_
  refine s2 ?_
  obtain ⟨T1, N2, p3, k4, hE⟩ := hE
  refine sI rc304 rfl (Nat.le_of_ble_eq_true rfl) ?_
  refine k304 hR k4 (fun c5 I6 q7 q8 q9 => ?_) (fun c5 I6 q7 q8 q9 => ?_)
  · replace hE := hE.1 c5 I6 q7 q8 q9
    refine s7 (ls' := [.ref 91, .int (oI x1), .int (oI 1)]) (Nat.le_of_ble_eq_true rfl) rfl ?_
    refine s4 (x := 1) rfl ?_
    refine s68 (inRd rfl) (fun c11 => absurd c11 (by decide)) (fun _ => ?_)
    refine xG gb303.2.1 ?_
    refine s6 (p := 91) rfl ?_
    refine s0 ?_
    refine s0 ?_
    obtain ⟨T12, N13, p14, k15, hE⟩ := hE
    refine sI rc305 rfl (Nat.le_of_ble_eq_true rfl) ?_
    refine k305 q8 k15 (inRd rfl) (inRd rfl) (fun c16 I17 q18 q19 q20 q21 => ?_) (fun c16 I17 q18 q19 q20 => ?_)
    · replace hE := hE.1 c16 I17 q18 q19 q20 q21
      refine s68 (inRd rfl) (fun c22 => absurd c22 (by decide)) (fun _ => ?_)
      refine xG gb303.2.2.2.1 ?_
      refine s6 (p := 91) rfl ?_
      refine s51 sh91 (by decide) (by decide) rf91_74 ?_
      refine s4 (x := x1) rfl ?_
      refine s6 (p := 91) rfl ?_
      refine s50 (v := ld I17 91 90) sh91 (by decide) (by decide) (oI_ld _ _ _) ?_
      obtain ⟨g23, hE⟩ := hE
      refine s44 sh139 (by decide) g23 rfl ?_
      refine s6 (p := 91) rfl ?_
      refine s51 sh91 (by decide) (by decide) rf91_75 ?_
      refine s4 (x := x1) rfl ?_
      refine s0 ?_
      refine s44 sh140 (by decide) g23 rfl ?_
      refine s4 (x := 1) rfl ?_
      refine s68 (inRd rfl) (fun c24 => absurd c24 (by decide)) (fun _ => ?_)
      refine xG gb303.2.2.2.2.2 ?_
      refine s6 (p := 91) rfl ?_
      refine s0 ?_
      obtain ⟨g25, hE⟩ := hE
      obtain ⟨g26, hE⟩ := hE
      obtain ⟨g27, hE⟩ := hE
      obtain ⟨g28, hE⟩ := hE
      obtain ⟨I29, q31⟩ : ∃ i : mI, i = (u2 (u2 I17 139 x1.toNat (oI (ld I17 91 90))) 140 x1.toNat (oI 0)) := ⟨_, rfl⟩
      obtain ⟨A30, q32⟩ : ∃ i : aS, i = (u2 (u2 A 139 x1.toNat (ld I17 91 90)) 140 x1.toNat 0) := ⟨_, rfl⟩
      have q33 : RM I29 A30 := by rw [q31, q32]; exact (RM.setS (RM.setS q19 g25 139 x1.toNat (ld_inR _ _ _) g26) g27 140 x1.toNat (inRd rfl) g28)
      replace hE := hE I29 A30 q31 q32 q33
      obtain ⟨T34, N35, p36, k37, hE⟩ := hE
      refine sI rc306 rfl (Nat.le_of_ble_eq_true rfl) ?_
      rw [← q31]
      refine k306 q33 k37 (inRd rfl) (fun c38 I39 q40 q41 q42 => ?_) (fun c38 I39 q40 q41 q42 => ?_)
      · replace hE := hE.1 c38 I39 q40 q41 q42
        refine s84 (by decide) ?_
        exact rqI_of hE
      · replace hE := hE.2 c38 I39 q40 q41 q42
        refine s84 (by decide) ?_
        exact rqI_of hE
    · replace hE := hE.2 c16 I17 q18 q19 q20
      refine s68 (inRd rfl) (fun _ => ?_) (fun c44 => absurd (by decide) c44)
      refine s79 ?_
      refine xG gb303.2.2.1 ?_
      refine s0 ?_
      refine s84 (by decide) ?_
      exact rqI_of hE
  · replace hE := hE.2 c5 I6 q7 q8 q9
    refine s7 (ls' := [.ref 91, .int (oI x1), .int (oI 0)]) (Nat.le_of_ble_eq_true rfl) rfl ?_
    refine s4 (x := 0) rfl ?_
    refine s68 (inRd rfl) (fun _ => ?_) (fun c45 => absurd (by decide) c45)
    refine s6 (p := 91) rfl ?_
    refine s2 ?_
    obtain ⟨T46, N47, p48, k49, hE⟩ := hE
    refine sI rc304 rfl (Nat.le_of_ble_eq_true rfl) ?_
    refine k304 q8 k49 (fun c50 I51 q52 q53 q54 => ?_) (fun c50 I51 q52 q53 q54 => ?_)
    · replace hE := hE.1 c50 I51 q52 q53 q54
      refine s67 (inRd rfl) (fun c56 => absurd c56 (by decide)) (fun _ => ?_)
      refine s79 ?_
      refine xG gb303.2.1 ?_
      refine s6 (p := 91) rfl ?_
      refine s0 ?_
      refine s0 ?_
      obtain ⟨T57, N58, p59, k60, hE⟩ := hE
      refine sI rc305 rfl (Nat.le_of_ble_eq_true rfl) ?_
      refine k305 q53 k60 (inRd rfl) (inRd rfl) (fun c61 I62 q63 q64 q65 q66 => ?_) (fun c61 I62 q63 q64 q65 => ?_)
      · replace hE := hE.1 c61 I62 q63 q64 q65 q66
        refine s68 (inRd rfl) (fun c67 => absurd c67 (by decide)) (fun _ => ?_)
        refine xG gb303.2.2.2.1 ?_
        refine s6 (p := 91) rfl ?_
        refine s51 sh91 (by decide) (by decide) rf91_74 ?_
        refine s4 (x := x1) rfl ?_
        refine s6 (p := 91) rfl ?_
        refine s50 (v := ld I62 91 90) sh91 (by decide) (by decide) (oI_ld _ _ _) ?_
        obtain ⟨g68, hE⟩ := hE
        refine s44 sh139 (by decide) g68 rfl ?_
        refine s6 (p := 91) rfl ?_
        refine s51 sh91 (by decide) (by decide) rf91_75 ?_
        refine s4 (x := x1) rfl ?_
        refine s0 ?_
        refine s44 sh140 (by decide) g68 rfl ?_
        refine s4 (x := 0) rfl ?_
        refine s68 (inRd rfl) (fun _ => ?_) (fun c69 => absurd (by decide) c69)
        refine s6 (p := 91) rfl ?_
        refine s0 ?_
        obtain ⟨g70, hE⟩ := hE
        obtain ⟨g71, hE⟩ := hE
        obtain ⟨g72, hE⟩ := hE
        obtain ⟨g73, hE⟩ := hE
        obtain ⟨I74, q76⟩ : ∃ i : mI, i = (u2 (u2 I62 139 x1.toNat (oI (ld I62 91 90))) 140 x1.toNat (oI 0)) := ⟨_, rfl⟩
        obtain ⟨A75, q77⟩ : ∃ i : aS, i = (u2 (u2 A 139 x1.toNat (ld I62 91 90)) 140 x1.toNat 0) := ⟨_, rfl⟩
        have q78 : RM I74 A75 := by rw [q76, q77]; exact (RM.setS (RM.setS q64 g70 139 x1.toNat (ld_inR _ _ _) g71) g72 140 x1.toNat (inRd rfl) g73)
        replace hE := hE I74 A75 q76 q77 q78
        obtain ⟨T79, N80, p81, k82, hE⟩ := hE
        refine sI rc306 rfl (Nat.le_of_ble_eq_true rfl) ?_
        rw [← q76]
        refine k306 q78 k82 (inRd rfl) (fun c83 I84 q85 q86 q87 => ?_) (fun c83 I84 q85 q86 q87 => ?_)
        · replace hE := hE.1 c83 I84 q85 q86 q87
          refine s67 (inRd rfl) (fun c89 => absurd c89 (by decide)) (fun _ => ?_)
          refine s6 (p := 91) rfl ?_
          refine s4 (x := x1) rfl ?_
          refine sI rc307 rfl (Nat.le_of_ble_eq_true rfl) ?_
          refine CallI.mono hE ?_
          rintro _ _ ⟨y90, I91, A92, rfl, rfl, gy90, q93, hE⟩
          refine s68 gy90 (fun c94 => ?_) (fun c94 => ?_)
          · replace hE := hE.1 c94
            refine s79 ?_
            refine xG gb303.2.2.2.2.1 ?_
            refine s0 ?_
            refine s84 (by decide) ?_
            exact rqI_of hE
          · replace hE := hE.2 c94
            refine xG gb303.2.2.2.2.2 ?_
            refine s6 (p := 91) rfl ?_
            refine s0 ?_
            obtain ⟨T95, N96, p97, k98, hE⟩ := hE
            refine sI rc306 rfl (Nat.le_of_ble_eq_true rfl) ?_
            refine k306 q93 k98 (inRd rfl) (fun c99 I100 q101 q102 q103 => ?_) (fun c99 I100 q101 q102 q103 => ?_)
            · replace hE := hE.1 c99 I100 q101 q102 q103
              refine s84 (by decide) ?_
              exact rqI_of hE
            · replace hE := hE.2 c99 I100 q101 q102 q103
              refine s84 (by decide) ?_
              exact rqI_of hE
        · replace hE := hE.2 c83 I84 q85 q86 q87
          refine s67 (inRd rfl) (fun _ => ?_) (fun c105 => absurd (by decide) c105)
          refine xG gb303.2.2.2.2.1 ?_
          refine s0 ?_
          refine s84 (by decide) ?_
          exact rqI_of hE
      · replace hE := hE.2 c61 I62 q63 q64 q65
        refine s68 (inRd rfl) (fun _ => ?_) (fun c106 => absurd (by decide) c106)
        refine s79 ?_
        refine xG gb303.2.2.1 ?_
        refine s0 ?_
        refine s84 (by decide) ?_
        exact rqI_of hE
    · replace hE := hE.2 c50 I51 q52 q53 q54
      refine s67 (inRd rfl) (fun _ => ?_) (fun c107 => absurd (by decide) c107)
      refine xG gb303.2.2.1 ?_
      refine s0 ?_
      refine s84 (by decide) ?_
      exact rqI_of hE
