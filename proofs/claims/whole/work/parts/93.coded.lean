/-! the reference: bodies and codes written, as they are walked -/
set_option maxRecDepth 4000 in
theorem e325 {d L : Nat} {I : Nat → Nat → Int32} {R : Nat → Nat → Option Nat} {S : List (Nat × Nat)} {K : mM → Prop} {A : aS} (hR : RM I A) {x1 : Int} (hE : (0 ≤ x1 ∧ x1 < 360) ∧ (CallV d 322 [.ref 91, .long (bdW (A 140 x1.toNat))] (bd L I R S) (fun s => ∃ (I2 : mI), s = bd L I2 R S ∧ RM I2 A ∧ (((A 140 x1.toNat = 1) → ((A 141 x1.toNat = 1) → CallV d 322 [.ref 91, .long (Int64.ofInt 31650977444884084)] (bd L I2 R S) (fun s => ∃ (I6 : mI), s = bd L I6 R S ∧ RM I6 A ∧ (CallV d 322 [.ref 91, .long (Int64.ofInt 24947)] (bd L I6 R S) (fun s => ∃ (I9 : mI), s = bd L I9 R S ∧ RM I9 A ∧ (CallV d 324 [.ref 91, .int (oI (A 142 x1.toNat))] (bd L I9 R S) (fun s => ∃ (I15 : mI), s = bd L I15 R S ∧ RM I15 A ∧ (((A 143 x1.toNat = (-1)) → K (bd L I15 R S)) ∧ (¬ (A 143 x1.toNat = (-1)) → CallV d 322 [.ref 91, .long (Int64.ofInt 26982)] (bd L I15 R S) (fun s => ∃ (I19 : mI), s = bd L I19 R S ∧ RM I19 A ∧ (CallV d 327 [.ref 91, .int (oI (A 143 x1.toNat)), .int (oI 0)] (bd L I19 R S) (fun s => ∃ (I21 : mI), s = bd L I21 R S ∧ RM I21 A ∧ (K (bd L I21 R S))))))))))))) ∧ (¬ (A 141 x1.toNat = 1) → ((A 141 x1.toNat = 2) → CallV d 322 [.ref 91, .long (Int64.ofInt 1818326117)] (bd L I2 R S) (fun s => ∃ (I24 : mI), s = bd L I24 R S ∧ RM I24 A ∧ (CallV d 322 [.ref 91, .long (Int64.ofInt 24947)] (bd L I24 R S) (fun s => ∃ (I27 : mI), s = bd L I27 R S ∧ RM I27 A ∧ (CallV d 324 [.ref 91, .int (oI (A 142 x1.toNat))] (bd L I27 R S) (fun s => ∃ (I33 : mI), s = bd L I33 R S ∧ RM I33 A ∧ (((A 143 x1.toNat = (-1)) → K (bd L I33 R S)) ∧ (¬ (A 143 x1.toNat = (-1)) → CallV d 322 [.ref 91, .long (Int64.ofInt 26982)] (bd L I33 R S) (fun s => ∃ (I37 : mI), s = bd L I37 R S ∧ RM I37 A ∧ (CallV d 327 [.ref 91, .int (oI (A 143 x1.toNat)), .int (oI 0)] (bd L I37 R S) (fun s => ∃ (I39 : mI), s = bd L I39 R S ∧ RM I39 A ∧ (K (bd L I39 R S))))))))))))) ∧ (¬ (A 141 x1.toNat = 2) → CallV d 322 [.ref 91, .long (Int64.ofInt 2003792491)] (bd L I2 R S) (fun s => ∃ (I41 : mI), s = bd L I41 R S ∧ RM I41 A ∧ (CallV d 322 [.ref 91, .long (Int64.ofInt 24947)] (bd L I41 R S) (fun s => ∃ (I44 : mI), s = bd L I44 R S ∧ RM I44 A ∧ (CallV d 324 [.ref 91, .int (oI (A 142 x1.toNat))] (bd L I44 R S) (fun s => ∃ (I50 : mI), s = bd L I50 R S ∧ RM I50 A ∧ (((A 143 x1.toNat = (-1)) → K (bd L I50 R S)) ∧ (¬ (A 143 x1.toNat = (-1)) → CallV d 322 [.ref 91, .long (Int64.ofInt 26982)] (bd L I50 R S) (fun s => ∃ (I54 : mI), s = bd L I54 R S ∧ RM I54 A ∧ (CallV d 327 [.ref 91, .int (oI (A 143 x1.toNat)), .int (oI 0)] (bd L I54 R S) (fun s => ∃ (I56 : mI), s = bd L I56 R S ∧ RM I56 A ∧ (K (bd L I56 R S))))))))))))))) ∧ (¬ (A 140 x1.toNat = 1) → ((A 140 x1.toNat = 9) → ((A 143 x1.toNat = (-1)) → K (bd L I2 R S)) ∧ (¬ (A 143 x1.toNat = (-1)) → CallV d 322 [.ref 91, .long (Int64.ofInt 26982)] (bd L I2 R S) (fun s => ∃ (I71 : mI), s = bd L I71 R S ∧ RM I71 A ∧ (CallV d 327 [.ref 91, .int (oI (A 143 x1.toNat)), .int (oI 0)] (bd L I71 R S) (fun s => ∃ (I73 : mI), s = bd L I73 R S ∧ RM I73 A ∧ (K (bd L I73 R S))))))) ∧ (¬ (A 140 x1.toNat = 9) → CallV d 324 [.ref 91, .int (oI (A 141 x1.toNat))] (bd L I2 R S) (fun s => ∃ (I75 : mI), s = bd L I75 R S ∧ RM I75 A ∧ (((A 140 x1.toNat = 2) → CallV d 322 [.ref 91, .long (Int64.ofInt 24947)] (bd L I75 R S) (fun s => ∃ (I79 : mI), s = bd L I79 R S ∧ RM I79 A ∧ (CallV d 324 [.ref 91, .int (oI (A 142 x1.toNat))] (bd L I79 R S) (fun s => ∃ (I86 : mI), s = bd L I86 R S ∧ RM I86 A ∧ (((A 143 x1.toNat = (-1)) → K (bd L I86 R S)) ∧ (¬ (A 143 x1.toNat = (-1)) → CallV d 322 [.ref 91, .long (Int64.ofInt 26982)] (bd L I86 R S) (fun s => ∃ (I90 : mI), s = bd L I90 R S ∧ RM I90 A ∧ (CallV d 327 [.ref 91, .int (oI (A 143 x1.toNat)), .int (oI 0)] (bd L I90 R S) (fun s => ∃ (I92 : mI), s = bd L I92 R S ∧ RM I92 A ∧ (K (bd L I92 R S))))))))))) ∧ (¬ (A 140 x1.toNat = 2) → ((A 140 x1.toNat = 4) → CallV d 322 [.ref 91, .long (Int64.ofInt 474147546227)] (bd L I75 R S) (fun s => ∃ (I95 : mI), s = bd L I95 R S ∧ RM I95 A ∧ (CallV d 324 [.ref 91, .int (oI (A 142 x1.toNat))] (bd L I95 R S) (fun s => ∃ (I102 : mI), s = bd L I102 R S ∧ RM I102 A ∧ (((A 143 x1.toNat = (-1)) → K (bd L I102 R S)) ∧ (¬ (A 143 x1.toNat = (-1)) → CallV d 322 [.ref 91, .long (Int64.ofInt 26982)] (bd L I102 R S) (fun s => ∃ (I106 : mI), s = bd L I106 R S ∧ RM I106 A ∧ (CallV d 327 [.ref 91, .int (oI (A 143 x1.toNat)), .int (oI 0)] (bd L I106 R S) (fun s => ∃ (I108 : mI), s = bd L I108 R S ∧ RM I108 A ∧ (K (bd L I108 R S))))))))))) ∧ (¬ (A 140 x1.toNat = 4) → ((A 140 x1.toNat = 13) → CallV d 322 [.ref 91, .long (Int64.ofInt 26995)] (bd L I75 R S) (fun s => ∃ (I111 : mI), s = bd L I111 R S ∧ RM I111 A ∧ (CallV d 324 [.ref 91, .int (oI (A 142 x1.toNat))] (bd L I111 R S) (fun s => ∃ (I117 : mI), s = bd L I117 R S ∧ RM I117 A ∧ (((A 143 x1.toNat = (-1)) → K (bd L I117 R S)) ∧ (¬ (A 143 x1.toNat = (-1)) → CallV d 322 [.ref 91, .long (Int64.ofInt 26982)] (bd L I117 R S) (fun s => ∃ (I121 : mI), s = bd L I121 R S ∧ RM I121 A ∧ (CallV d 327 [.ref 91, .int (oI (A 143 x1.toNat)), .int (oI 0)] (bd L I121 R S) (fun s => ∃ (I123 : mI), s = bd L I123 R S ∧ RM I123 A ∧ (K (bd L I123 R S))))))))))) ∧ (¬ (A 140 x1.toNat = 13) → ((A 140 x1.toNat = 14) → CallV d 322 [.ref 91, .long (Int64.ofInt 26995)] (bd L I75 R S) (fun s => ∃ (I126 : mI), s = bd L I126 R S ∧ RM I126 A ∧ (CallV d 324 [.ref 91, .int (oI (A 142 x1.toNat))] (bd L I126 R S) (fun s => ∃ (I133 : mI), s = bd L I133 R S ∧ RM I133 A ∧ (((A 143 x1.toNat = (-1)) → K (bd L I133 R S)) ∧ (¬ (A 143 x1.toNat = (-1)) → CallV d 322 [.ref 91, .long (Int64.ofInt 26982)] (bd L I133 R S) (fun s => ∃ (I137 : mI), s = bd L I137 R S ∧ RM I137 A ∧ (CallV d 327 [.ref 91, .int (oI (A 143 x1.toNat)), .int (oI 0)] (bd L I137 R S) (fun s => ∃ (I139 : mI), s = bd L I139 R S ∧ RM I139 A ∧ (K (bd L I139 R S))))))))))) ∧ (¬ (A 140 x1.toNat = 14) → ((A 140 x1.toNat = 6) → CallV d 322 [.ref 91, .long (Int64.ofInt 7366002)] (bd L I75 R S) (fun s => ∃ (I147 : mI), s = bd L I147 R S ∧ RM I147 A ∧ (((A 142 x1.toNat = (-2)) → CallV d 322 [.ref 91, .long (Int64.ofInt 1751474532)] (bd L I147 R S) (fun s => ∃ (I150 : mI), s = bd L I150 R S ∧ RM I150 A ∧ (((A 142 x1.toNat < 0) → ((A 143 x1.toNat = (-1)) → K (bd L I150 R S)) ∧ (¬ (A 143 x1.toNat = (-1)) → CallV d 322 [.ref 91, .long (Int64.ofInt 26982)] (bd L I150 R S) (fun s => ∃ (I154 : mI), s = bd L I154 R S ∧ RM I154 A ∧ (CallV d 327 [.ref 91, .int (oI (A 143 x1.toNat)), .int (oI 0)] (bd L I154 R S) (fun s => ∃ (I156 : mI), s = bd L I156 R S ∧ RM I156 A ∧ (K (bd L I156 R S))))))) ∧ (¬ (A 142 x1.toNat < 0) → CallV d 324 [.ref 91, .int (oI (A 142 x1.toNat))] (bd L I150 R S) (fun s => ∃ (I158 : mI), s = bd L I158 R S ∧ RM I158 A ∧ (((A 143 x1.toNat = (-1)) → K (bd L I158 R S)) ∧ (¬ (A 143 x1.toNat = (-1)) → CallV d 322 [.ref 91, .long (Int64.ofInt 26982)] (bd L I158 R S) (fun s => ∃ (I161 : mI), s = bd L I161 R S ∧ RM I161 A ∧ (CallV d 327 [.ref 91, .int (oI (A 143 x1.toNat)), .int (oI 0)] (bd L I161 R S) (fun s => ∃ (I163 : mI), s = bd L I163 R S ∧ RM I163 A ∧ (K (bd L I163 R S)))))))))))) ∧ (¬ (A 142 x1.toNat = (-2)) → ((A 142 x1.toNat = (-3)) → CallV d 322 [.ref 91, .long (Int64.ofInt 426953501796)] (bd L I147 R S) (fun s => ∃ (I166 : mI), s = bd L I166 R S ∧ RM I166 A ∧ (((A 142 x1.toNat < 0) → ((A 143 x1.toNat = (-1)) → K (bd L I166 R S)) ∧ (¬ (A 143 x1.toNat = (-1)) → CallV d 322 [.ref 91, .long (Int64.ofInt 26982)] (bd L I166 R S) (fun s => ∃ (I170 : mI), s = bd L I170 R S ∧ RM I170 A ∧ (CallV d 327 [.ref 91, .int (oI (A 143 x1.toNat)), .int (oI 0)] (bd L I170 R S) (fun s => ∃ (I172 : mI), s = bd L I172 R S ∧ RM I172 A ∧ (K (bd L I172 R S))))))) ∧ (¬ (A 142 x1.toNat < 0) → CallV d 324 [.ref 91, .int (oI (A 142 x1.toNat))] (bd L I166 R S) (fun s => ∃ (I174 : mI), s = bd L I174 R S ∧ RM I174 A ∧ (((A 143 x1.toNat = (-1)) → K (bd L I174 R S)) ∧ (¬ (A 143 x1.toNat = (-1)) → CallV d 322 [.ref 91, .long (Int64.ofInt 26982)] (bd L I174 R S) (fun s => ∃ (I177 : mI), s = bd L I177 R S ∧ RM I177 A ∧ (CallV d 327 [.ref 91, .int (oI (A 143 x1.toNat)), .int (oI 0)] (bd L I177 R S) (fun s => ∃ (I179 : mI), s = bd L I179 R S ∧ RM I179 A ∧ (K (bd L I179 R S)))))))))))) ∧ (¬ (A 142 x1.toNat = (-3)) → CallV d 322 [.ref 91, .long (Int64.ofInt 1885434739)] (bd L I147 R S) (fun s => ∃ (I181 : mI), s = bd L I181 R S ∧ RM I181 A ∧ (((A 142 x1.toNat < 0) → ((A 143 x1.toNat = (-1)) → K (bd L I181 R S)) ∧ (¬ (A 143 x1.toNat = (-1)) → CallV d 322 [.ref 91, .long (Int64.ofInt 26982)] (bd L I181 R S) (fun s => ∃ (I185 : mI), s = bd L I185 R S ∧ RM I185 A ∧ (CallV d 327 [.ref 91, .int (oI (A 143 x1.toNat)), .int (oI 0)] (bd L I185 R S) (fun s => ∃ (I187 : mI), s = bd L I187 R S ∧ RM I187 A ∧ (K (bd L I187 R S))))))) ∧ (¬ (A 142 x1.toNat < 0) → CallV d 324 [.ref 91, .int (oI (A 142 x1.toNat))] (bd L I181 R S) (fun s => ∃ (I189 : mI), s = bd L I189 R S ∧ RM I189 A ∧ (((A 143 x1.toNat = (-1)) → K (bd L I189 R S)) ∧ (¬ (A 143 x1.toNat = (-1)) → CallV d 322 [.ref 91, .long (Int64.ofInt 26982)] (bd L I189 R S) (fun s => ∃ (I192 : mI), s = bd L I192 R S ∧ RM I192 A ∧ (CallV d 327 [.ref 91, .int (oI (A 143 x1.toNat)), .int (oI 0)] (bd L I192 R S) (fun s => ∃ (I194 : mI), s = bd L I194 R S ∧ RM I194 A ∧ (K (bd L I194 R S)))))))))))))))) ∧ (¬ (A 140 x1.toNat = 6) → ((A 143 x1.toNat = (-1)) → K (bd L I75 R S)) ∧ (¬ (A 143 x1.toNat = (-1)) → CallV d 322 [.ref 91, .long (Int64.ofInt 26982)] (bd L I75 R S) (fun s => ∃ (I197 : mI), s = bd L I197 R S ∧ RM I197 A ∧ (CallV d 327 [.ref 91, .int (oI (A 143 x1.toNat)), .int (oI 0)] (bd L I197 R S) (fun s => ∃ (I199 : mI), s = bd L I199 R S ∧ RM I199 A ∧ (K (bd L I199 R S))))))))))))))))))) : CallV (d + 1) 325 [.ref 91, .int (oI x1)] (bd L I R S) K := by
  refine cV_of (ls := [.ref 91, .int (oI x1)]) rfl ?_
  refine xG gb325.1 ?_
  refine s6 (p := 91) rfl ?_
  refine s6 (p := 91) rfl ?_
  refine s51 sh91 (by decide) (by decide) rf91_75 ?_
  refine s4 (x := x1) rfl ?_
  obtain ⟨g1, hE⟩ := hE
  refine s40 (v := A 140 x1.toNat) sh140 g1 rfl (rdM hR.1 rfl) ?_
  refine sL rc326 rfl (Nat.le_of_ble_eq_true rfl) ?_
  refine k326 (inA hR.1 (a := 140) (k := x1.toNat) rfl) ?_
  refine sV rc322 rfl (Nat.le_of_ble_eq_true rfl) ?_
  refine CallV.mono hE ?_
  rintro _ ⟨I2, rfl, q3, hE⟩
  refine s6 (p := 91) rfl ?_
  refine s51 sh91 (by decide) (by decide) rf91_75 ?_
  refine s4 (x := x1) rfl ?_
  refine s40 (v := A 140 x1.toNat) sh140 g1 rfl (rdM q3.1 rfl) ?_
  refine s0 ?_
  refine s62 (inA q3.1 (a := 140) (k := x1.toNat) rfl) (inRd rfl) (fun c4 => ?_) (fun c4 => ?_)
  · replace hE := hE.1 c4
    refine s6 (p := 91) rfl ?_
    refine s6 (p := 91) rfl ?_
    refine s51 sh91 (by decide) (by decide) rf91_76 ?_
    refine s4 (x := x1) rfl ?_
    refine s40 (v := A 141 x1.toNat) sh141 g1 rfl (rdM q3.1 rfl) ?_
    refine s0 ?_
    refine s62 (inA q3.1 (a := 141) (k := x1.toNat) rfl) (inRd rfl) (fun c5 => ?_) (fun c5 => ?_)
    · replace hE := hE.1 c5
      refine s2 ?_
      refine s60 ?_
      refine xG gb325.2.2.2.1 ?_
      refine sV rc322 rfl (Nat.le_of_ble_eq_true rfl) ?_
      refine CallV.mono hE ?_
      rintro _ ⟨I6, rfl, q7, hE⟩
      refine s60 ?_
      refine xG gb325.2.2.2.2.2.1 ?_
      refine s6 (p := 91) rfl ?_
      refine s51 sh91 (by decide) (by decide) rf91_75 ?_
      refine s4 (x := x1) rfl ?_
      refine s40 (v := A 140 x1.toNat) sh140 g1 rfl (rdM q7.1 rfl) ?_
      refine s0 ?_
      refine s61 (inA q7.1 (a := 140) (k := x1.toNat) rfl) (inRd rfl) (fun _ => ?_) (fun c8 => absurd c4 c8)
      refine xG gb325.2.2.2.2.2.2.1 ?_
      refine s6 (p := 91) rfl ?_
      refine s2 ?_
      refine sV rc322 rfl (Nat.le_of_ble_eq_true rfl) ?_
      refine CallV.mono hE ?_
      rintro _ ⟨I9, rfl, q10, hE⟩
      refine s79 ?_
      refine xG gb325.2.2.2.2.2.2.2.1 ?_
      refine s6 (p := 91) rfl ?_
      refine s51 sh91 (by decide) (by decide) rf91_75 ?_
      refine s4 (x := x1) rfl ?_
      refine s40 (v := A 140 x1.toNat) sh140 g1 rfl (rdM q10.1 rfl) ?_
      refine s0 ?_
      refine s62 (inA q10.1 (a := 140) (k := x1.toNat) rfl) (inRd rfl) (fun c11 => absurd c11 (fun h => absurd (h.symm.trans c4) (by decide))) (fun _ => ?_)
      refine xG gb325.2.2.2.2.2.2.2.2.1 ?_
      refine s6 (p := 91) rfl ?_
      refine s51 sh91 (by decide) (by decide) rf91_75 ?_
      refine s4 (x := x1) rfl ?_
      refine s40 (v := A 140 x1.toNat) sh140 g1 rfl (rdM q10.1 rfl) ?_
      refine s0 ?_
      refine s61 (inA q10.1 (a := 140) (k := x1.toNat) rfl) (inRd rfl) (fun c12 => absurd c12 (fun h => absurd (h.symm.trans c4) (by decide))) (fun _ => ?_)
      refine s6 (p := 91) rfl ?_
      refine s51 sh91 (by decide) (by decide) rf91_75 ?_
      refine s4 (x := x1) rfl ?_
      refine s40 (v := A 140 x1.toNat) sh140 g1 rfl (rdM q10.1 rfl) ?_
      refine s0 ?_
      refine s62 (inA q10.1 (a := 140) (k := x1.toNat) rfl) (inRd rfl) (fun c13 => absurd c13 (fun h => absurd (h.symm.trans c4) (by decide))) (fun _ => ?_)
      refine xG gb325.2.2.2.2.2.2.2.2.2.2.1 ?_
      refine s6 (p := 91) rfl ?_
      refine s51 sh91 (by decide) (by decide) rf91_75 ?_
      refine s4 (x := x1) rfl ?_
      refine s40 (v := A 140 x1.toNat) sh140 g1 rfl (rdM q10.1 rfl) ?_
      refine s0 ?_
      refine s61 (inA q10.1 (a := 140) (k := x1.toNat) rfl) (inRd rfl) (fun _ => ?_) (fun c14 => absurd c4 c14)
      refine xG gb325.2.2.2.2.2.2.2.2.2.2.2.1 ?_
      refine s6 (p := 91) rfl ?_
      refine s6 (p := 91) rfl ?_
      refine s51 sh91 (by decide) (by decide) rf91_77 ?_
      refine s4 (x := x1) rfl ?_
      refine s40 (v := A 142 x1.toNat) sh142 g1 rfl (rdM q10.1 rfl) ?_
      refine sV rc324 rfl (Nat.le_of_ble_eq_true rfl) ?_
      refine CallV.mono hE ?_
      rintro _ ⟨I15, rfl, q16, hE⟩
      refine s79 ?_
      refine xG gb325.2.2.2.2.2.2.2.2.2.2.2.2.1 ?_
      refine s6 (p := 91) rfl ?_
      refine s51 sh91 (by decide) (by decide) rf91_75 ?_
      refine s4 (x := x1) rfl ?_
      refine s40 (v := A 140 x1.toNat) sh140 g1 rfl (rdM q16.1 rfl) ?_
      refine s0 ?_
      refine s62 (inA q16.1 (a := 140) (k := x1.toNat) rfl) (inRd rfl) (fun c17 => absurd c17 (fun h => absurd (h.symm.trans c4) (by decide))) (fun _ => ?_)
      refine xG gb325.2.2.2.2.2.2.2.2.2.2.2.2.2.2.2.2.1 ?_
      refine s6 (p := 91) rfl ?_
      refine s51 sh91 (by decide) (by decide) rf91_78 ?_
      refine s4 (x := x1) rfl ?_
      refine s40 (v := A 143 x1.toNat) sh143 g1 rfl (rdM q16.1 rfl) ?_
      refine s0 ?_
      refine s62 (inA q16.1 (a := 143) (k := x1.toNat) rfl) (inRd rfl) (fun c18 => ?_) (fun c18 => ?_)
      · replace hE := hE.1 c18
        refine s83 ?_
        exact rqV_of hE
      · replace hE := hE.2 c18
        refine xG gb325.2.2.2.2.2.2.2.2.2.2.2.2.2.2.2.2.2 ?_
        refine s6 (p := 91) rfl ?_
        refine s2 ?_
        refine sV rc322 rfl (Nat.le_of_ble_eq_true rfl) ?_
        refine CallV.mono hE ?_
        rintro _ ⟨I19, rfl, q20, hE⟩
        refine s6 (p := 91) rfl ?_
        refine s6 (p := 91) rfl ?_
        refine s51 sh91 (by decide) (by decide) rf91_78 ?_
        refine s4 (x := x1) rfl ?_
        refine s40 (v := A 143 x1.toNat) sh143 g1 rfl (rdM q20.1 rfl) ?_
        refine s0 ?_
        refine sV rc327 rfl (Nat.le_of_ble_eq_true rfl) ?_
        refine CallV.mono hE ?_
        rintro _ ⟨I21, rfl, q22, hE⟩
        refine s83 ?_
        exact rqV_of hE
    · replace hE := hE.2 c5
      refine xG gb325.2.1 ?_
      refine s6 (p := 91) rfl ?_
      refine s51 sh91 (by decide) (by decide) rf91_76 ?_
      refine s4 (x := x1) rfl ?_
      refine s40 (v := A 141 x1.toNat) sh141 g1 rfl (rdM q3.1 rfl) ?_
      refine s0 ?_
      refine s62 (inA q3.1 (a := 141) (k := x1.toNat) rfl) (inRd rfl) (fun c23 => ?_) (fun c23 => ?_)
      · replace hE := hE.1 c23
        refine s2 ?_
        refine s60 ?_
        refine xG gb325.2.2.2.1 ?_
        refine sV rc322 rfl (Nat.le_of_ble_eq_true rfl) ?_
        refine CallV.mono hE ?_
        rintro _ ⟨I24, rfl, q25, hE⟩
        refine s60 ?_
        refine xG gb325.2.2.2.2.2.1 ?_
        refine s6 (p := 91) rfl ?_
        refine s51 sh91 (by decide) (by decide) rf91_75 ?_
        refine s4 (x := x1) rfl ?_
        refine s40 (v := A 140 x1.toNat) sh140 g1 rfl (rdM q25.1 rfl) ?_
        refine s0 ?_
        refine s61 (inA q25.1 (a := 140) (k := x1.toNat) rfl) (inRd rfl) (fun _ => ?_) (fun c26 => absurd c4 c26)
        refine xG gb325.2.2.2.2.2.2.1 ?_
        refine s6 (p := 91) rfl ?_
        refine s2 ?_
        refine sV rc322 rfl (Nat.le_of_ble_eq_true rfl) ?_
        refine CallV.mono hE ?_
        rintro _ ⟨I27, rfl, q28, hE⟩
        refine s79 ?_
        refine xG gb325.2.2.2.2.2.2.2.1 ?_
        refine s6 (p := 91) rfl ?_
        refine s51 sh91 (by decide) (by decide) rf91_75 ?_
        refine s4 (x := x1) rfl ?_
        refine s40 (v := A 140 x1.toNat) sh140 g1 rfl (rdM q28.1 rfl) ?_
        refine s0 ?_
        refine s62 (inA q28.1 (a := 140) (k := x1.toNat) rfl) (inRd rfl) (fun c29 => absurd c29 (fun h => absurd (h.symm.trans c4) (by decide))) (fun _ => ?_)
        refine xG gb325.2.2.2.2.2.2.2.2.1 ?_
        refine s6 (p := 91) rfl ?_
        refine s51 sh91 (by decide) (by decide) rf91_75 ?_
        refine s4 (x := x1) rfl ?_
        refine s40 (v := A 140 x1.toNat) sh140 g1 rfl (rdM q28.1 rfl) ?_
        refine s0 ?_
        refine s61 (inA q28.1 (a := 140) (k := x1.toNat) rfl) (inRd rfl) (fun c30 => absurd c30 (fun h => absurd (h.symm.trans c4) (by decide))) (fun _ => ?_)
        refine s6 (p := 91) rfl ?_
        refine s51 sh91 (by decide) (by decide) rf91_75 ?_
        refine s4 (x := x1) rfl ?_
        refine s40 (v := A 140 x1.toNat) sh140 g1 rfl (rdM q28.1 rfl) ?_
        refine s0 ?_
        refine s62 (inA q28.1 (a := 140) (k := x1.toNat) rfl) (inRd rfl) (fun c31 => absurd c31 (fun h => absurd (h.symm.trans c4) (by decide))) (fun _ => ?_)
        refine xG gb325.2.2.2.2.2.2.2.2.2.2.1 ?_
        refine s6 (p := 91) rfl ?_
        refine s51 sh91 (by decide) (by decide) rf91_75 ?_
        refine s4 (x := x1) rfl ?_
        refine s40 (v := A 140 x1.toNat) sh140 g1 rfl (rdM q28.1 rfl) ?_
        refine s0 ?_
        refine s61 (inA q28.1 (a := 140) (k := x1.toNat) rfl) (inRd rfl) (fun _ => ?_) (fun c32 => absurd c4 c32)
        refine xG gb325.2.2.2.2.2.2.2.2.2.2.2.1 ?_
        refine s6 (p := 91) rfl ?_
        refine s6 (p := 91) rfl ?_
        refine s51 sh91 (by decide) (by decide) rf91_77 ?_
        refine s4 (x := x1) rfl ?_
        refine s40 (v := A 142 x1.toNat) sh142 g1 rfl (rdM q28.1 rfl) ?_
        refine sV rc324 rfl (Nat.le_of_ble_eq_true rfl) ?_
        refine CallV.mono hE ?_
        rintro _ ⟨I33, rfl, q34, hE⟩
        refine s79 ?_
        refine xG gb325.2.2.2.2.2.2.2.2.2.2.2.2.1 ?_
        refine s6 (p := 91) rfl ?_
        refine s51 sh91 (by decide) (by decide) rf91_75 ?_
        refine s4 (x := x1) rfl ?_
        refine s40 (v := A 140 x1.toNat) sh140 g1 rfl (rdM q34.1 rfl) ?_
        refine s0 ?_
        refine s62 (inA q34.1 (a := 140) (k := x1.toNat) rfl) (inRd rfl) (fun c35 => absurd c35 (fun h => absurd (h.symm.trans c4) (by decide))) (fun _ => ?_)
        refine xG gb325.2.2.2.2.2.2.2.2.2.2.2.2.2.2.2.2.1 ?_
        refine s6 (p := 91) rfl ?_
        refine s51 sh91 (by decide) (by decide) rf91_78 ?_
        refine s4 (x := x1) rfl ?_
        refine s40 (v := A 143 x1.toNat) sh143 g1 rfl (rdM q34.1 rfl) ?_
        refine s0 ?_
        refine s62 (inA q34.1 (a := 143) (k := x1.toNat) rfl) (inRd rfl) (fun c36 => ?_) (fun c36 => ?_)
        · replace hE := hE.1 c36
          refine s83 ?_
          exact rqV_of hE
        · replace hE := hE.2 c36
          refine xG gb325.2.2.2.2.2.2.2.2.2.2.2.2.2.2.2.2.2 ?_
          refine s6 (p := 91) rfl ?_
          refine s2 ?_
          refine sV rc322 rfl (Nat.le_of_ble_eq_true rfl) ?_
          refine CallV.mono hE ?_
          rintro _ ⟨I37, rfl, q38, hE⟩
          refine s6 (p := 91) rfl ?_
          refine s6 (p := 91) rfl ?_
          refine s51 sh91 (by decide) (by decide) rf91_78 ?_
          refine s4 (x := x1) rfl ?_
          refine s40 (v := A 143 x1.toNat) sh143 g1 rfl (rdM q38.1 rfl) ?_
          refine s0 ?_
          refine sV rc327 rfl (Nat.le_of_ble_eq_true rfl) ?_
          refine CallV.mono hE ?_
          rintro _ ⟨I39, rfl, q40, hE⟩
          refine s83 ?_
          exact rqV_of hE
      · replace hE := hE.2 c23
        refine xG gb325.2.2.1 ?_
        refine s2 ?_
        refine s79 ?_
        refine xG gb325.2.2.2.1 ?_
        refine sV rc322 rfl (Nat.le_of_ble_eq_true rfl) ?_
        refine CallV.mono hE ?_
        rintro _ ⟨I41, rfl, q42, hE⟩
        refine s60 ?_
        refine xG gb325.2.2.2.2.2.1 ?_
        refine s6 (p := 91) rfl ?_
        refine s51 sh91 (by decide) (by decide) rf91_75 ?_
        refine s4 (x := x1) rfl ?_
        refine s40 (v := A 140 x1.toNat) sh140 g1 rfl (rdM q42.1 rfl) ?_
        refine s0 ?_
        refine s61 (inA q42.1 (a := 140) (k := x1.toNat) rfl) (inRd rfl) (fun _ => ?_) (fun c43 => absurd c4 c43)
        refine xG gb325.2.2.2.2.2.2.1 ?_
        refine s6 (p := 91) rfl ?_
        refine s2 ?_
        refine sV rc322 rfl (Nat.le_of_ble_eq_true rfl) ?_
        refine CallV.mono hE ?_
        rintro _ ⟨I44, rfl, q45, hE⟩
        refine s79 ?_
        refine xG gb325.2.2.2.2.2.2.2.1 ?_
        refine s6 (p := 91) rfl ?_
        refine s51 sh91 (by decide) (by decide) rf91_75 ?_
        refine s4 (x := x1) rfl ?_
        refine s40 (v := A 140 x1.toNat) sh140 g1 rfl (rdM q45.1 rfl) ?_
        refine s0 ?_
        refine s62 (inA q45.1 (a := 140) (k := x1.toNat) rfl) (inRd rfl) (fun c46 => absurd c46 (fun h => absurd (h.symm.trans c4) (by decide))) (fun _ => ?_)
        refine xG gb325.2.2.2.2.2.2.2.2.1 ?_
        refine s6 (p := 91) rfl ?_
        refine s51 sh91 (by decide) (by decide) rf91_75 ?_
        refine s4 (x := x1) rfl ?_
        refine s40 (v := A 140 x1.toNat) sh140 g1 rfl (rdM q45.1 rfl) ?_
        refine s0 ?_
        refine s61 (inA q45.1 (a := 140) (k := x1.toNat) rfl) (inRd rfl) (fun c47 => absurd c47 (fun h => absurd (h.symm.trans c4) (by decide))) (fun _ => ?_)
        refine s6 (p := 91) rfl ?_
        refine s51 sh91 (by decide) (by decide) rf91_75 ?_
        refine s4 (x := x1) rfl ?_
        refine s40 (v := A 140 x1.toNat) sh140 g1 rfl (rdM q45.1 rfl) ?_
        refine s0 ?_
        refine s62 (inA q45.1 (a := 140) (k := x1.toNat) rfl) (inRd rfl) (fun c48 => absurd c48 (fun h => absurd (h.symm.trans c4) (by decide))) (fun _ => ?_)
        refine xG gb325.2.2.2.2.2.2.2.2.2.2.1 ?_
        refine s6 (p := 91) rfl ?_
        refine s51 sh91 (by decide) (by decide) rf91_75 ?_
        refine s4 (x := x1) rfl ?_
        refine s40 (v := A 140 x1.toNat) sh140 g1 rfl (rdM q45.1 rfl) ?_
        refine s0 ?_
        refine s61 (inA q45.1 (a := 140) (k := x1.toNat) rfl) (inRd rfl) (fun _ => ?_) (fun c49 => absurd c4 c49)
        refine xG gb325.2.2.2.2.2.2.2.2.2.2.2.1 ?_
        refine s6 (p := 91) rfl ?_
        refine s6 (p := 91) rfl ?_
        refine s51 sh91 (by decide) (by decide) rf91_77 ?_
        refine s4 (x := x1) rfl ?_
        refine s40 (v := A 142 x1.toNat) sh142 g1 rfl (rdM q45.1 rfl) ?_
        refine sV rc324 rfl (Nat.le_of_ble_eq_true rfl) ?_
        refine CallV.mono hE ?_
        rintro _ ⟨I50, rfl, q51, hE⟩
        refine s79 ?_
        refine xG gb325.2.2.2.2.2.2.2.2.2.2.2.2.1 ?_
        refine s6 (p := 91) rfl ?_
        refine s51 sh91 (by decide) (by decide) rf91_75 ?_
        refine s4 (x := x1) rfl ?_
        refine s40 (v := A 140 x1.toNat) sh140 g1 rfl (rdM q51.1 rfl) ?_
        refine s0 ?_
        refine s62 (inA q51.1 (a := 140) (k := x1.toNat) rfl) (inRd rfl) (fun c52 => absurd c52 (fun h => absurd (h.symm.trans c4) (by decide))) (fun _ => ?_)
        refine xG gb325.2.2.2.2.2.2.2.2.2.2.2.2.2.2.2.2.1 ?_
        refine s6 (p := 91) rfl ?_
        refine s51 sh91 (by decide) (by decide) rf91_78 ?_
        refine s4 (x := x1) rfl ?_
        refine s40 (v := A 143 x1.toNat) sh143 g1 rfl (rdM q51.1 rfl) ?_
        refine s0 ?_
        refine s62 (inA q51.1 (a := 143) (k := x1.toNat) rfl) (inRd rfl) (fun c53 => ?_) (fun c53 => ?_)
        · replace hE := hE.1 c53
          refine s83 ?_
          exact rqV_of hE
        · replace hE := hE.2 c53
          refine xG gb325.2.2.2.2.2.2.2.2.2.2.2.2.2.2.2.2.2 ?_
          refine s6 (p := 91) rfl ?_
          refine s2 ?_
          refine sV rc322 rfl (Nat.le_of_ble_eq_true rfl) ?_
          refine CallV.mono hE ?_
          rintro _ ⟨I54, rfl, q55, hE⟩
          refine s6 (p := 91) rfl ?_
          refine s6 (p := 91) rfl ?_
          refine s51 sh91 (by decide) (by decide) rf91_78 ?_
          refine s4 (x := x1) rfl ?_
          refine s40 (v := A 143 x1.toNat) sh143 g1 rfl (rdM q55.1 rfl) ?_
          refine s0 ?_
          refine sV rc327 rfl (Nat.le_of_ble_eq_true rfl) ?_
          refine CallV.mono hE ?_
          rintro _ ⟨I56, rfl, q57, hE⟩
          refine s83 ?_
          exact rqV_of hE
  · replace hE := hE.2 c4
    refine xG gb325.2.2.2.2.1 ?_
    refine s6 (p := 91) rfl ?_
    refine s51 sh91 (by decide) (by decide) rf91_75 ?_
    refine s4 (x := x1) rfl ?_
    refine s40 (v := A 140 x1.toNat) sh140 g1 rfl (rdM q3.1 rfl) ?_
    refine s0 ?_
    refine s61 (inA q3.1 (a := 140) (k := x1.toNat) rfl) (inRd rfl) (fun c58 => ?_) (fun c58 => ?_)
    · replace hE := hE.1 c58
      refine xG gb325.2.2.2.2.2.1 ?_
      refine s6 (p := 91) rfl ?_
      refine s51 sh91 (by decide) (by decide) rf91_75 ?_
      refine s4 (x := x1) rfl ?_
      refine s40 (v := A 140 x1.toNat) sh140 g1 rfl (rdM q3.1 rfl) ?_
      refine s0 ?_
      refine s61 (inA q3.1 (a := 140) (k := x1.toNat) rfl) (inRd rfl) (fun c59 => absurd c59 c4) (fun _ => ?_)
      refine s6 (p := 91) rfl ?_
      refine s51 sh91 (by decide) (by decide) rf91_75 ?_
      refine s4 (x := x1) rfl ?_
      refine s40 (v := A 140 x1.toNat) sh140 g1 rfl (rdM q3.1 rfl) ?_
      refine s0 ?_
      refine s62 (inA q3.1 (a := 140) (k := x1.toNat) rfl) (inRd rfl) (fun c60 => absurd c60 (fun h => absurd (h.symm.trans c58) (by decide))) (fun _ => ?_)
      refine xG gb325.2.2.2.2.2.2.2.1 ?_
      refine s6 (p := 91) rfl ?_
      refine s51 sh91 (by decide) (by decide) rf91_75 ?_
      refine s4 (x := x1) rfl ?_
      refine s40 (v := A 140 x1.toNat) sh140 g1 rfl (rdM q3.1 rfl) ?_
      refine s0 ?_
      refine s62 (inA q3.1 (a := 140) (k := x1.toNat) rfl) (inRd rfl) (fun c61 => absurd c61 (fun h => absurd (h.symm.trans c58) (by decide))) (fun _ => ?_)
      refine xG gb325.2.2.2.2.2.2.2.2.1 ?_
      refine s6 (p := 91) rfl ?_
      refine s51 sh91 (by decide) (by decide) rf91_75 ?_
      refine s4 (x := x1) rfl ?_
      refine s40 (v := A 140 x1.toNat) sh140 g1 rfl (rdM q3.1 rfl) ?_
      refine s0 ?_
      refine s61 (inA q3.1 (a := 140) (k := x1.toNat) rfl) (inRd rfl) (fun c62 => absurd c62 (fun h => absurd (h.symm.trans c58) (by decide))) (fun _ => ?_)
      refine s6 (p := 91) rfl ?_
      refine s51 sh91 (by decide) (by decide) rf91_75 ?_
      refine s4 (x := x1) rfl ?_
      refine s40 (v := A 140 x1.toNat) sh140 g1 rfl (rdM q3.1 rfl) ?_
      refine s0 ?_
      refine s62 (inA q3.1 (a := 140) (k := x1.toNat) rfl) (inRd rfl) (fun c63 => absurd c63 (fun h => absurd (h.symm.trans c58) (by decide))) (fun _ => ?_)
      refine xG gb325.2.2.2.2.2.2.2.2.2.2.1 ?_
      refine s6 (p := 91) rfl ?_
      refine s51 sh91 (by decide) (by decide) rf91_75 ?_
      refine s4 (x := x1) rfl ?_
      refine s40 (v := A 140 x1.toNat) sh140 g1 rfl (rdM q3.1 rfl) ?_
      refine s0 ?_
      refine s61 (inA q3.1 (a := 140) (k := x1.toNat) rfl) (inRd rfl) (fun c64 => absurd c64 c4) (fun _ => ?_)
      refine s6 (p := 91) rfl ?_
      refine s51 sh91 (by decide) (by decide) rf91_75 ?_
      refine s4 (x := x1) rfl ?_
      refine s40 (v := A 140 x1.toNat) sh140 g1 rfl (rdM q3.1 rfl) ?_
      refine s0 ?_
      refine s61 (inA q3.1 (a := 140) (k := x1.toNat) rfl) (inRd rfl) (fun c65 => absurd c65 (fun h => absurd (h.symm.trans c58) (by decide))) (fun _ => ?_)
      refine s6 (p := 91) rfl ?_
      refine s51 sh91 (by decide) (by decide) rf91_75 ?_
      refine s4 (x := x1) rfl ?_
      refine s40 (v := A 140 x1.toNat) sh140 g1 rfl (rdM q3.1 rfl) ?_
      refine s0 ?_
      refine s61 (inA q3.1 (a := 140) (k := x1.toNat) rfl) (inRd rfl) (fun c66 => absurd c66 (fun h => absurd (h.symm.trans c58) (by decide))) (fun _ => ?_)
      refine s6 (p := 91) rfl ?_
      refine s51 sh91 (by decide) (by decide) rf91_75 ?_
      refine s4 (x := x1) rfl ?_
      refine s40 (v := A 140 x1.toNat) sh140 g1 rfl (rdM q3.1 rfl) ?_
      refine s0 ?_
      refine s61 (inA q3.1 (a := 140) (k := x1.toNat) rfl) (inRd rfl) (fun c67 => absurd c67 (fun h => absurd (h.symm.trans c58) (by decide))) (fun _ => ?_)
      refine s6 (p := 91) rfl ?_
      refine s51 sh91 (by decide) (by decide) rf91_75 ?_
      refine s4 (x := x1) rfl ?_
      refine s40 (v := A 140 x1.toNat) sh140 g1 rfl (rdM q3.1 rfl) ?_
      refine s0 ?_
      refine s62 (inA q3.1 (a := 140) (k := x1.toNat) rfl) (inRd rfl) (fun c68 => absurd c68 (fun h => absurd (h.symm.trans c58) (by decide))) (fun _ => ?_)
      refine xG gb325.2.2.2.2.2.2.2.2.2.2.2.2.1 ?_
      refine s6 (p := 91) rfl ?_
      refine s51 sh91 (by decide) (by decide) rf91_75 ?_
      refine s4 (x := x1) rfl ?_
      refine s40 (v := A 140 x1.toNat) sh140 g1 rfl (rdM q3.1 rfl) ?_
      refine s0 ?_
      refine s62 (inA q3.1 (a := 140) (k := x1.toNat) rfl) (inRd rfl) (fun c69 => absurd c69 (fun h => absurd (h.symm.trans c58) (by decide))) (fun _ => ?_)
      refine xG gb325.2.2.2.2.2.2.2.2.2.2.2.2.2.2.2.2.1 ?_
      refine s6 (p := 91) rfl ?_
      refine s51 sh91 (by decide) (by decide) rf91_78 ?_
      refine s4 (x := x1) rfl ?_
      refine s40 (v := A 143 x1.toNat) sh143 g1 rfl (rdM q3.1 rfl) ?_
      refine s0 ?_
      refine s62 (inA q3.1 (a := 143) (k := x1.toNat) rfl) (inRd rfl) (fun c70 => ?_) (fun c70 => ?_)
      · replace hE := hE.1 c70
        refine s83 ?_
        exact rqV_of hE
      · replace hE := hE.2 c70
        refine xG gb325.2.2.2.2.2.2.2.2.2.2.2.2.2.2.2.2.2 ?_
        refine s6 (p := 91) rfl ?_
        refine s2 ?_
        refine sV rc322 rfl (Nat.le_of_ble_eq_true rfl) ?_
        refine CallV.mono hE ?_
        rintro _ ⟨I71, rfl, q72, hE⟩
        refine s6 (p := 91) rfl ?_
        refine s6 (p := 91) rfl ?_
        refine s51 sh91 (by decide) (by decide) rf91_78 ?_
        refine s4 (x := x1) rfl ?_
        refine s40 (v := A 143 x1.toNat) sh143 g1 rfl (rdM q72.1 rfl) ?_
        refine s0 ?_
        refine sV rc327 rfl (Nat.le_of_ble_eq_true rfl) ?_
        refine CallV.mono hE ?_
        rintro _ ⟨I73, rfl, q74, hE⟩
        refine s83 ?_
        exact rqV_of hE
    · replace hE := hE.2 c58
      refine s6 (p := 91) rfl ?_
      refine s6 (p := 91) rfl ?_
      refine s51 sh91 (by decide) (by decide) rf91_76 ?_
      refine s4 (x := x1) rfl ?_
      refine s40 (v := A 141 x1.toNat) sh141 g1 rfl (rdM q3.1 rfl) ?_
      refine sV rc324 rfl (Nat.le_of_ble_eq_true rfl) ?_
      refine CallV.mono hE ?_
      rintro _ ⟨I75, rfl, q76, hE⟩
      refine s79 ?_
      refine xG gb325.2.2.2.2.2.1 ?_
      refine s6 (p := 91) rfl ?_
      refine s51 sh91 (by decide) (by decide) rf91_75 ?_
      refine s4 (x := x1) rfl ?_
      refine s40 (v := A 140 x1.toNat) sh140 g1 rfl (rdM q76.1 rfl) ?_
      refine s0 ?_
      refine s61 (inA q76.1 (a := 140) (k := x1.toNat) rfl) (inRd rfl) (fun c77 => absurd c77 c4) (fun _ => ?_)
      refine s6 (p := 91) rfl ?_
      refine s51 sh91 (by decide) (by decide) rf91_75 ?_
      refine s4 (x := x1) rfl ?_
      refine s40 (v := A 140 x1.toNat) sh140 g1 rfl (rdM q76.1 rfl) ?_
      refine s0 ?_
      refine s62 (inA q76.1 (a := 140) (k := x1.toNat) rfl) (inRd rfl) (fun c78 => ?_) (fun c78 => ?_)
      · replace hE := hE.1 c78
        refine s79 ?_
        refine xG gb325.2.2.2.2.2.2.1 ?_
        refine s6 (p := 91) rfl ?_
        refine s2 ?_
        refine sV rc322 rfl (Nat.le_of_ble_eq_true rfl) ?_
        refine CallV.mono hE ?_
        rintro _ ⟨I79, rfl, q80, hE⟩
        refine s79 ?_
        refine xG gb325.2.2.2.2.2.2.2.1 ?_
        refine s6 (p := 91) rfl ?_
        refine s51 sh91 (by decide) (by decide) rf91_75 ?_
        refine s4 (x := x1) rfl ?_
        refine s40 (v := A 140 x1.toNat) sh140 g1 rfl (rdM q80.1 rfl) ?_
        refine s0 ?_
        refine s62 (inA q80.1 (a := 140) (k := x1.toNat) rfl) (inRd rfl) (fun c81 => absurd c81 (fun h => absurd (h.symm.trans c78) (by decide))) (fun _ => ?_)
        refine xG gb325.2.2.2.2.2.2.2.2.1 ?_
        refine s6 (p := 91) rfl ?_
        refine s51 sh91 (by decide) (by decide) rf91_75 ?_
        refine s4 (x := x1) rfl ?_
        refine s40 (v := A 140 x1.toNat) sh140 g1 rfl (rdM q80.1 rfl) ?_
        refine s0 ?_
        refine s61 (inA q80.1 (a := 140) (k := x1.toNat) rfl) (inRd rfl) (fun c82 => absurd c82 (fun h => absurd (h.symm.trans c78) (by decide))) (fun _ => ?_)
        refine s6 (p := 91) rfl ?_
        refine s51 sh91 (by decide) (by decide) rf91_75 ?_
        refine s4 (x := x1) rfl ?_
        refine s40 (v := A 140 x1.toNat) sh140 g1 rfl (rdM q80.1 rfl) ?_
        refine s0 ?_
        refine s62 (inA q80.1 (a := 140) (k := x1.toNat) rfl) (inRd rfl) (fun c83 => absurd c83 (fun h => absurd (h.symm.trans c78) (by decide))) (fun _ => ?_)
        refine xG gb325.2.2.2.2.2.2.2.2.2.2.1 ?_
        refine s6 (p := 91) rfl ?_
        refine s51 sh91 (by decide) (by decide) rf91_75 ?_
        refine s4 (x := x1) rfl ?_
        refine s40 (v := A 140 x1.toNat) sh140 g1 rfl (rdM q80.1 rfl) ?_
        refine s0 ?_
        refine s61 (inA q80.1 (a := 140) (k := x1.toNat) rfl) (inRd rfl) (fun c84 => absurd c84 c4) (fun _ => ?_)
        refine s6 (p := 91) rfl ?_
        refine s51 sh91 (by decide) (by decide) rf91_75 ?_
        refine s4 (x := x1) rfl ?_
        refine s40 (v := A 140 x1.toNat) sh140 g1 rfl (rdM q80.1 rfl) ?_
        refine s0 ?_
        refine s61 (inA q80.1 (a := 140) (k := x1.toNat) rfl) (inRd rfl) (fun _ => ?_) (fun c85 => absurd c78 c85)
        refine xG gb325.2.2.2.2.2.2.2.2.2.2.2.1 ?_
        refine s6 (p := 91) rfl ?_
        refine s6 (p := 91) rfl ?_
        refine s51 sh91 (by decide) (by decide) rf91_77 ?_
        refine s4 (x := x1) rfl ?_
        refine s40 (v := A 142 x1.toNat) sh142 g1 rfl (rdM q80.1 rfl) ?_
        refine sV rc324 rfl (Nat.le_of_ble_eq_true rfl) ?_
        refine CallV.mono hE ?_
        rintro _ ⟨I86, rfl, q87, hE⟩
        refine s79 ?_
        refine xG gb325.2.2.2.2.2.2.2.2.2.2.2.2.1 ?_
        refine s6 (p := 91) rfl ?_
        refine s51 sh91 (by decide) (by decide) rf91_75 ?_
        refine s4 (x := x1) rfl ?_
        refine s40 (v := A 140 x1.toNat) sh140 g1 rfl (rdM q87.1 rfl) ?_
        refine s0 ?_
        refine s62 (inA q87.1 (a := 140) (k := x1.toNat) rfl) (inRd rfl) (fun c88 => absurd c88 (fun h => absurd (h.symm.trans c78) (by decide))) (fun _ => ?_)
        refine xG gb325.2.2.2.2.2.2.2.2.2.2.2.2.2.2.2.2.1 ?_
        refine s6 (p := 91) rfl ?_
        refine s51 sh91 (by decide) (by decide) rf91_78 ?_
        refine s4 (x := x1) rfl ?_
        refine s40 (v := A 143 x1.toNat) sh143 g1 rfl (rdM q87.1 rfl) ?_
        refine s0 ?_
        refine s62 (inA q87.1 (a := 143) (k := x1.toNat) rfl) (inRd rfl) (fun c89 => ?_) (fun c89 => ?_)
        · replace hE := hE.1 c89
          refine s83 ?_
          exact rqV_of hE
        · replace hE := hE.2 c89
          refine xG gb325.2.2.2.2.2.2.2.2.2.2.2.2.2.2.2.2.2 ?_
          refine s6 (p := 91) rfl ?_
          refine s2 ?_
          refine sV rc322 rfl (Nat.le_of_ble_eq_true rfl) ?_
          refine CallV.mono hE ?_
          rintro _ ⟨I90, rfl, q91, hE⟩
          refine s6 (p := 91) rfl ?_
          refine s6 (p := 91) rfl ?_
          refine s51 sh91 (by decide) (by decide) rf91_78 ?_
          refine s4 (x := x1) rfl ?_
          refine s40 (v := A 143 x1.toNat) sh143 g1 rfl (rdM q91.1 rfl) ?_
          refine s0 ?_
          refine sV rc327 rfl (Nat.le_of_ble_eq_true rfl) ?_
          refine CallV.mono hE ?_
          rintro _ ⟨I92, rfl, q93, hE⟩
          refine s83 ?_
          exact rqV_of hE
      · replace hE := hE.2 c78
        refine xG gb325.2.2.2.2.2.2.2.1 ?_
        refine s6 (p := 91) rfl ?_
        refine s51 sh91 (by decide) (by decide) rf91_75 ?_
        refine s4 (x := x1) rfl ?_
        refine s40 (v := A 140 x1.toNat) sh140 g1 rfl (rdM q76.1 rfl) ?_
        refine s0 ?_
        refine s62 (inA q76.1 (a := 140) (k := x1.toNat) rfl) (inRd rfl) (fun c94 => ?_) (fun c94 => ?_)
        · replace hE := hE.1 c94
          refine s6 (p := 91) rfl ?_
          refine s2 ?_
          refine sV rc322 rfl (Nat.le_of_ble_eq_true rfl) ?_
          refine CallV.mono hE ?_
          rintro _ ⟨I95, rfl, q96, hE⟩
          refine s79 ?_
          refine xG gb325.2.2.2.2.2.2.2.2.1 ?_
          refine s6 (p := 91) rfl ?_
          refine s51 sh91 (by decide) (by decide) rf91_75 ?_
          refine s4 (x := x1) rfl ?_
          refine s40 (v := A 140 x1.toNat) sh140 g1 rfl (rdM q96.1 rfl) ?_
          refine s0 ?_
          refine s61 (inA q96.1 (a := 140) (k := x1.toNat) rfl) (inRd rfl) (fun c97 => absurd c97 (fun h => absurd (h.symm.trans c94) (by decide))) (fun _ => ?_)
          refine s6 (p := 91) rfl ?_
          refine s51 sh91 (by decide) (by decide) rf91_75 ?_
          refine s4 (x := x1) rfl ?_
          refine s40 (v := A 140 x1.toNat) sh140 g1 rfl (rdM q96.1 rfl) ?_
          refine s0 ?_
          refine s62 (inA q96.1 (a := 140) (k := x1.toNat) rfl) (inRd rfl) (fun c98 => absurd c98 (fun h => absurd (h.symm.trans c94) (by decide))) (fun _ => ?_)
          refine xG gb325.2.2.2.2.2.2.2.2.2.2.1 ?_
          refine s6 (p := 91) rfl ?_
          refine s51 sh91 (by decide) (by decide) rf91_75 ?_
          refine s4 (x := x1) rfl ?_
          refine s40 (v := A 140 x1.toNat) sh140 g1 rfl (rdM q96.1 rfl) ?_
          refine s0 ?_
          refine s61 (inA q96.1 (a := 140) (k := x1.toNat) rfl) (inRd rfl) (fun c99 => absurd c99 c4) (fun _ => ?_)
          refine s6 (p := 91) rfl ?_
          refine s51 sh91 (by decide) (by decide) rf91_75 ?_
          refine s4 (x := x1) rfl ?_
          refine s40 (v := A 140 x1.toNat) sh140 g1 rfl (rdM q96.1 rfl) ?_
          refine s0 ?_
          refine s61 (inA q96.1 (a := 140) (k := x1.toNat) rfl) (inRd rfl) (fun c100 => absurd c100 c78) (fun _ => ?_)
          refine s6 (p := 91) rfl ?_
          refine s51 sh91 (by decide) (by decide) rf91_75 ?_
          refine s4 (x := x1) rfl ?_
          refine s40 (v := A 140 x1.toNat) sh140 g1 rfl (rdM q96.1 rfl) ?_
          refine s0 ?_
          refine s61 (inA q96.1 (a := 140) (k := x1.toNat) rfl) (inRd rfl) (fun _ => ?_) (fun c101 => absurd c94 c101)
          refine xG gb325.2.2.2.2.2.2.2.2.2.2.2.1 ?_
          refine s6 (p := 91) rfl ?_
          refine s6 (p := 91) rfl ?_
          refine s51 sh91 (by decide) (by decide) rf91_77 ?_
          refine s4 (x := x1) rfl ?_
          refine s40 (v := A 142 x1.toNat) sh142 g1 rfl (rdM q96.1 rfl) ?_
          refine sV rc324 rfl (Nat.le_of_ble_eq_true rfl) ?_
          refine CallV.mono hE ?_
          rintro _ ⟨I102, rfl, q103, hE⟩
          refine s79 ?_
          refine xG gb325.2.2.2.2.2.2.2.2.2.2.2.2.1 ?_
          refine s6 (p := 91) rfl ?_
          refine s51 sh91 (by decide) (by decide) rf91_75 ?_
          refine s4 (x := x1) rfl ?_
          refine s40 (v := A 140 x1.toNat) sh140 g1 rfl (rdM q103.1 rfl) ?_
          refine s0 ?_
          refine s62 (inA q103.1 (a := 140) (k := x1.toNat) rfl) (inRd rfl) (fun c104 => absurd c104 (fun h => absurd (h.symm.trans c94) (by decide))) (fun _ => ?_)
          refine xG gb325.2.2.2.2.2.2.2.2.2.2.2.2.2.2.2.2.1 ?_
          refine s6 (p := 91) rfl ?_
          refine s51 sh91 (by decide) (by decide) rf91_78 ?_
          refine s4 (x := x1) rfl ?_
          refine s40 (v := A 143 x1.toNat) sh143 g1 rfl (rdM q103.1 rfl) ?_
          refine s0 ?_
          refine s62 (inA q103.1 (a := 143) (k := x1.toNat) rfl) (inRd rfl) (fun c105 => ?_) (fun c105 => ?_)
          · replace hE := hE.1 c105
            refine s83 ?_
            exact rqV_of hE
          · replace hE := hE.2 c105
            refine xG gb325.2.2.2.2.2.2.2.2.2.2.2.2.2.2.2.2.2 ?_
            refine s6 (p := 91) rfl ?_
            refine s2 ?_
            refine sV rc322 rfl (Nat.le_of_ble_eq_true rfl) ?_
            refine CallV.mono hE ?_
            rintro _ ⟨I106, rfl, q107, hE⟩
            refine s6 (p := 91) rfl ?_
            refine s6 (p := 91) rfl ?_
            refine s51 sh91 (by decide) (by decide) rf91_78 ?_
            refine s4 (x := x1) rfl ?_
            refine s40 (v := A 143 x1.toNat) sh143 g1 rfl (rdM q107.1 rfl) ?_
            refine s0 ?_
            refine sV rc327 rfl (Nat.le_of_ble_eq_true rfl) ?_
            refine CallV.mono hE ?_
            rintro _ ⟨I108, rfl, q109, hE⟩
            refine s83 ?_
            exact rqV_of hE
        · replace hE := hE.2 c94
          refine xG gb325.2.2.2.2.2.2.2.2.1 ?_
          refine s6 (p := 91) rfl ?_
          refine s51 sh91 (by decide) (by decide) rf91_75 ?_
          refine s4 (x := x1) rfl ?_
          refine s40 (v := A 140 x1.toNat) sh140 g1 rfl (rdM q76.1 rfl) ?_
          refine s0 ?_
          refine s61 (inA q76.1 (a := 140) (k := x1.toNat) rfl) (inRd rfl) (fun c110 => ?_) (fun c110 => ?_)
          · replace hE := hE.1 c110
            refine xG gb325.2.2.2.2.2.2.2.2.2.1 ?_
            refine s6 (p := 91) rfl ?_
            refine s2 ?_
            refine sV rc322 rfl (Nat.le_of_ble_eq_true rfl) ?_
            refine CallV.mono hE ?_
            rintro _ ⟨I111, rfl, q112, hE⟩
            refine s79 ?_
            refine xG gb325.2.2.2.2.2.2.2.2.2.2.1 ?_
            refine s6 (p := 91) rfl ?_
            refine s51 sh91 (by decide) (by decide) rf91_75 ?_
            refine s4 (x := x1) rfl ?_
            refine s40 (v := A 140 x1.toNat) sh140 g1 rfl (rdM q112.1 rfl) ?_
            refine s0 ?_
            refine s61 (inA q112.1 (a := 140) (k := x1.toNat) rfl) (inRd rfl) (fun c113 => absurd c113 c4) (fun _ => ?_)
            refine s6 (p := 91) rfl ?_
            refine s51 sh91 (by decide) (by decide) rf91_75 ?_
            refine s4 (x := x1) rfl ?_
            refine s40 (v := A 140 x1.toNat) sh140 g1 rfl (rdM q112.1 rfl) ?_
            refine s0 ?_
            refine s61 (inA q112.1 (a := 140) (k := x1.toNat) rfl) (inRd rfl) (fun c114 => absurd c114 c78) (fun _ => ?_)
            refine s6 (p := 91) rfl ?_
            refine s51 sh91 (by decide) (by decide) rf91_75 ?_
            refine s4 (x := x1) rfl ?_
            refine s40 (v := A 140 x1.toNat) sh140 g1 rfl (rdM q112.1 rfl) ?_
            refine s0 ?_
            refine s61 (inA q112.1 (a := 140) (k := x1.toNat) rfl) (inRd rfl) (fun c115 => absurd c115 c94) (fun _ => ?_)
            refine s6 (p := 91) rfl ?_
            refine s51 sh91 (by decide) (by decide) rf91_75 ?_
            refine s4 (x := x1) rfl ?_
            refine s40 (v := A 140 x1.toNat) sh140 g1 rfl (rdM q112.1 rfl) ?_
            refine s0 ?_
            refine s61 (inA q112.1 (a := 140) (k := x1.toNat) rfl) (inRd rfl) (fun _ => ?_) (fun c116 => absurd c110 c116)
            refine xG gb325.2.2.2.2.2.2.2.2.2.2.2.1 ?_
            refine s6 (p := 91) rfl ?_
            refine s6 (p := 91) rfl ?_
            refine s51 sh91 (by decide) (by decide) rf91_77 ?_
            refine s4 (x := x1) rfl ?_
            refine s40 (v := A 142 x1.toNat) sh142 g1 rfl (rdM q112.1 rfl) ?_
            refine sV rc324 rfl (Nat.le_of_ble_eq_true rfl) ?_
            refine CallV.mono hE ?_
            rintro _ ⟨I117, rfl, q118, hE⟩
            refine s79 ?_
            refine xG gb325.2.2.2.2.2.2.2.2.2.2.2.2.1 ?_
            refine s6 (p := 91) rfl ?_
            refine s51 sh91 (by decide) (by decide) rf91_75 ?_
            refine s4 (x := x1) rfl ?_
            refine s40 (v := A 140 x1.toNat) sh140 g1 rfl (rdM q118.1 rfl) ?_
            refine s0 ?_
            refine s62 (inA q118.1 (a := 140) (k := x1.toNat) rfl) (inRd rfl) (fun c119 => absurd c119 (fun h => absurd (h.symm.trans c110) (by decide))) (fun _ => ?_)
            refine xG gb325.2.2.2.2.2.2.2.2.2.2.2.2.2.2.2.2.1 ?_
            refine s6 (p := 91) rfl ?_
            refine s51 sh91 (by decide) (by decide) rf91_78 ?_
            refine s4 (x := x1) rfl ?_
            refine s40 (v := A 143 x1.toNat) sh143 g1 rfl (rdM q118.1 rfl) ?_
            refine s0 ?_
            refine s62 (inA q118.1 (a := 143) (k := x1.toNat) rfl) (inRd rfl) (fun c120 => ?_) (fun c120 => ?_)
            · replace hE := hE.1 c120
              refine s83 ?_
              exact rqV_of hE
            · replace hE := hE.2 c120
              refine xG gb325.2.2.2.2.2.2.2.2.2.2.2.2.2.2.2.2.2 ?_
              refine s6 (p := 91) rfl ?_
              refine s2 ?_
              refine sV rc322 rfl (Nat.le_of_ble_eq_true rfl) ?_
              refine CallV.mono hE ?_
              rintro _ ⟨I121, rfl, q122, hE⟩
              refine s6 (p := 91) rfl ?_
              refine s6 (p := 91) rfl ?_
              refine s51 sh91 (by decide) (by decide) rf91_78 ?_
              refine s4 (x := x1) rfl ?_
              refine s40 (v := A 143 x1.toNat) sh143 g1 rfl (rdM q122.1 rfl) ?_
              refine s0 ?_
              refine sV rc327 rfl (Nat.le_of_ble_eq_true rfl) ?_
              refine CallV.mono hE ?_
              rintro _ ⟨I123, rfl, q124, hE⟩
              refine s83 ?_
              exact rqV_of hE
          · replace hE := hE.2 c110
            refine s6 (p := 91) rfl ?_
            refine s51 sh91 (by decide) (by decide) rf91_75 ?_
            refine s4 (x := x1) rfl ?_
            refine s40 (v := A 140 x1.toNat) sh140 g1 rfl (rdM q76.1 rfl) ?_
            refine s0 ?_
            refine s62 (inA q76.1 (a := 140) (k := x1.toNat) rfl) (inRd rfl) (fun c125 => ?_) (fun c125 => ?_)
            · replace hE := hE.1 c125
              refine s79 ?_
              refine xG gb325.2.2.2.2.2.2.2.2.2.1 ?_
              refine s6 (p := 91) rfl ?_
              refine s2 ?_
              refine sV rc322 rfl (Nat.le_of_ble_eq_true rfl) ?_
              refine CallV.mono hE ?_
              rintro _ ⟨I126, rfl, q127, hE⟩
              refine s79 ?_
              refine xG gb325.2.2.2.2.2.2.2.2.2.2.1 ?_
              refine s6 (p := 91) rfl ?_
              refine s51 sh91 (by decide) (by decide) rf91_75 ?_
              refine s4 (x := x1) rfl ?_
              refine s40 (v := A 140 x1.toNat) sh140 g1 rfl (rdM q127.1 rfl) ?_
              refine s0 ?_
              refine s61 (inA q127.1 (a := 140) (k := x1.toNat) rfl) (inRd rfl) (fun c128 => absurd c128 c4) (fun _ => ?_)
              refine s6 (p := 91) rfl ?_
              refine s51 sh91 (by decide) (by decide) rf91_75 ?_
              refine s4 (x := x1) rfl ?_
              refine s40 (v := A 140 x1.toNat) sh140 g1 rfl (rdM q127.1 rfl) ?_
              refine s0 ?_
              refine s61 (inA q127.1 (a := 140) (k := x1.toNat) rfl) (inRd rfl) (fun c129 => absurd c129 c78) (fun _ => ?_)
              refine s6 (p := 91) rfl ?_
              refine s51 sh91 (by decide) (by decide) rf91_75 ?_
              refine s4 (x := x1) rfl ?_
              refine s40 (v := A 140 x1.toNat) sh140 g1 rfl (rdM q127.1 rfl) ?_
              refine s0 ?_
              refine s61 (inA q127.1 (a := 140) (k := x1.toNat) rfl) (inRd rfl) (fun c130 => absurd c130 c94) (fun _ => ?_)
              refine s6 (p := 91) rfl ?_
              refine s51 sh91 (by decide) (by decide) rf91_75 ?_
              refine s4 (x := x1) rfl ?_
              refine s40 (v := A 140 x1.toNat) sh140 g1 rfl (rdM q127.1 rfl) ?_
              refine s0 ?_
              refine s61 (inA q127.1 (a := 140) (k := x1.toNat) rfl) (inRd rfl) (fun c131 => absurd c131 c110) (fun _ => ?_)
              refine s6 (p := 91) rfl ?_
              refine s51 sh91 (by decide) (by decide) rf91_75 ?_
              refine s4 (x := x1) rfl ?_
              refine s40 (v := A 140 x1.toNat) sh140 g1 rfl (rdM q127.1 rfl) ?_
              refine s0 ?_
              refine s62 (inA q127.1 (a := 140) (k := x1.toNat) rfl) (inRd rfl) (fun _ => ?_) (fun c132 => absurd c125 c132)
              refine s79 ?_
              refine xG gb325.2.2.2.2.2.2.2.2.2.2.2.1 ?_
              refine s6 (p := 91) rfl ?_
              refine s6 (p := 91) rfl ?_
              refine s51 sh91 (by decide) (by decide) rf91_77 ?_
              refine s4 (x := x1) rfl ?_
              refine s40 (v := A 142 x1.toNat) sh142 g1 rfl (rdM q127.1 rfl) ?_
              refine sV rc324 rfl (Nat.le_of_ble_eq_true rfl) ?_
              refine CallV.mono hE ?_
              rintro _ ⟨I133, rfl, q134, hE⟩
              refine s79 ?_
              refine xG gb325.2.2.2.2.2.2.2.2.2.2.2.2.1 ?_
              refine s6 (p := 91) rfl ?_
              refine s51 sh91 (by decide) (by decide) rf91_75 ?_
              refine s4 (x := x1) rfl ?_
              refine s40 (v := A 140 x1.toNat) sh140 g1 rfl (rdM q134.1 rfl) ?_
              refine s0 ?_
              refine s62 (inA q134.1 (a := 140) (k := x1.toNat) rfl) (inRd rfl) (fun c135 => absurd c135 (fun h => absurd (h.symm.trans c125) (by decide))) (fun _ => ?_)
              refine xG gb325.2.2.2.2.2.2.2.2.2.2.2.2.2.2.2.2.1 ?_
              refine s6 (p := 91) rfl ?_
              refine s51 sh91 (by decide) (by decide) rf91_78 ?_
              refine s4 (x := x1) rfl ?_
              refine s40 (v := A 143 x1.toNat) sh143 g1 rfl (rdM q134.1 rfl) ?_
              refine s0 ?_
              refine s62 (inA q134.1 (a := 143) (k := x1.toNat) rfl) (inRd rfl) (fun c136 => ?_) (fun c136 => ?_)
              · replace hE := hE.1 c136
                refine s83 ?_
                exact rqV_of hE
              · replace hE := hE.2 c136
                refine xG gb325.2.2.2.2.2.2.2.2.2.2.2.2.2.2.2.2.2 ?_
                refine s6 (p := 91) rfl ?_
                refine s2 ?_
                refine sV rc322 rfl (Nat.le_of_ble_eq_true rfl) ?_
                refine CallV.mono hE ?_
                rintro _ ⟨I137, rfl, q138, hE⟩
                refine s6 (p := 91) rfl ?_
                refine s6 (p := 91) rfl ?_
                refine s51 sh91 (by decide) (by decide) rf91_78 ?_
                refine s4 (x := x1) rfl ?_
                refine s40 (v := A 143 x1.toNat) sh143 g1 rfl (rdM q138.1 rfl) ?_
                refine s0 ?_
                refine sV rc327 rfl (Nat.le_of_ble_eq_true rfl) ?_
                refine CallV.mono hE ?_
                rintro _ ⟨I139, rfl, q140, hE⟩
                refine s83 ?_
                exact rqV_of hE
            · replace hE := hE.2 c125
              refine xG gb325.2.2.2.2.2.2.2.2.2.2.1 ?_
              refine s6 (p := 91) rfl ?_
              refine s51 sh91 (by decide) (by decide) rf91_75 ?_
              refine s4 (x := x1) rfl ?_
              refine s40 (v := A 140 x1.toNat) sh140 g1 rfl (rdM q76.1 rfl) ?_
              refine s0 ?_
              refine s61 (inA q76.1 (a := 140) (k := x1.toNat) rfl) (inRd rfl) (fun c141 => absurd c141 c4) (fun _ => ?_)
              refine s6 (p := 91) rfl ?_
              refine s51 sh91 (by decide) (by decide) rf91_75 ?_
              refine s4 (x := x1) rfl ?_
              refine s40 (v := A 140 x1.toNat) sh140 g1 rfl (rdM q76.1 rfl) ?_
              refine s0 ?_
              refine s61 (inA q76.1 (a := 140) (k := x1.toNat) rfl) (inRd rfl) (fun c142 => absurd c142 c78) (fun _ => ?_)
              refine s6 (p := 91) rfl ?_
              refine s51 sh91 (by decide) (by decide) rf91_75 ?_
              refine s4 (x := x1) rfl ?_
              refine s40 (v := A 140 x1.toNat) sh140 g1 rfl (rdM q76.1 rfl) ?_
              refine s0 ?_
              refine s61 (inA q76.1 (a := 140) (k := x1.toNat) rfl) (inRd rfl) (fun c143 => absurd c143 c94) (fun _ => ?_)
              refine s6 (p := 91) rfl ?_
              refine s51 sh91 (by decide) (by decide) rf91_75 ?_
              refine s4 (x := x1) rfl ?_
              refine s40 (v := A 140 x1.toNat) sh140 g1 rfl (rdM q76.1 rfl) ?_
              refine s0 ?_
              refine s61 (inA q76.1 (a := 140) (k := x1.toNat) rfl) (inRd rfl) (fun c144 => absurd c144 c110) (fun _ => ?_)
              refine s6 (p := 91) rfl ?_
              refine s51 sh91 (by decide) (by decide) rf91_75 ?_
              refine s4 (x := x1) rfl ?_
              refine s40 (v := A 140 x1.toNat) sh140 g1 rfl (rdM q76.1 rfl) ?_
              refine s0 ?_
              refine s62 (inA q76.1 (a := 140) (k := x1.toNat) rfl) (inRd rfl) (fun c145 => absurd c145 c125) (fun _ => ?_)
              refine xG gb325.2.2.2.2.2.2.2.2.2.2.2.2.1 ?_
              refine s6 (p := 91) rfl ?_
              refine s51 sh91 (by decide) (by decide) rf91_75 ?_
              refine s4 (x := x1) rfl ?_
              refine s40 (v := A 140 x1.toNat) sh140 g1 rfl (rdM q76.1 rfl) ?_
              refine s0 ?_
              refine s62 (inA q76.1 (a := 140) (k := x1.toNat) rfl) (inRd rfl) (fun c146 => ?_) (fun c146 => ?_)
              · replace hE := hE.1 c146
                refine s6 (p := 91) rfl ?_
                refine s2 ?_
                refine sV rc322 rfl (Nat.le_of_ble_eq_true rfl) ?_
                refine CallV.mono hE ?_
                rintro _ ⟨I147, rfl, q148, hE⟩
                refine s6 (p := 91) rfl ?_
                refine s6 (p := 91) rfl ?_
                refine s51 sh91 (by decide) (by decide) rf91_77 ?_
                refine s4 (x := x1) rfl ?_
                refine s40 (v := A 142 x1.toNat) sh142 g1 rfl (rdM q148.1 rfl) ?_
                refine s0 ?_
                refine s62 (inA q148.1 (a := 142) (k := x1.toNat) rfl) (inRd rfl) (fun c149 => ?_) (fun c149 => ?_)
                · replace hE := hE.1 c149
                  refine s2 ?_
                  refine s60 ?_
                  refine xG gb325.2.2.2.2.2.2.2.2.2.2.2.2.2.2.2.1 ?_
                  refine sV rc322 rfl (Nat.le_of_ble_eq_true rfl) ?_
                  refine CallV.mono hE ?_
                  rintro _ ⟨I150, rfl, q151, hE⟩
                  refine s6 (p := 91) rfl ?_
                  refine s51 sh91 (by decide) (by decide) rf91_77 ?_
                  refine s4 (x := x1) rfl ?_
                  refine s40 (v := A 142 x1.toNat) sh142 g1 rfl (rdM q151.1 rfl) ?_
                  refine s69 (inA q151.1 (a := 142) (k := x1.toNat) rfl) (fun c152 => ?_) (fun c152 => ?_)
                  · replace hE := hE.1 c152
                    refine xG gb325.2.2.2.2.2.2.2.2.2.2.2.2.2.2.2.2.1 ?_
                    refine s6 (p := 91) rfl ?_
                    refine s51 sh91 (by decide) (by decide) rf91_78 ?_
                    refine s4 (x := x1) rfl ?_
                    refine s40 (v := A 143 x1.toNat) sh143 g1 rfl (rdM q151.1 rfl) ?_
                    refine s0 ?_
                    refine s62 (inA q151.1 (a := 143) (k := x1.toNat) rfl) (inRd rfl) (fun c153 => ?_) (fun c153 => ?_)
                    · replace hE := hE.1 c153
                      refine s83 ?_
                      exact rqV_of hE
                    · replace hE := hE.2 c153
                      refine xG gb325.2.2.2.2.2.2.2.2.2.2.2.2.2.2.2.2.2 ?_
                      refine s6 (p := 91) rfl ?_
                      refine s2 ?_
                      refine sV rc322 rfl (Nat.le_of_ble_eq_true rfl) ?_
                      refine CallV.mono hE ?_
                      rintro _ ⟨I154, rfl, q155, hE⟩
                      refine s6 (p := 91) rfl ?_
                      refine s6 (p := 91) rfl ?_
                      refine s51 sh91 (by decide) (by decide) rf91_78 ?_
                      refine s4 (x := x1) rfl ?_
                      refine s40 (v := A 143 x1.toNat) sh143 g1 rfl (rdM q155.1 rfl) ?_
                      refine s0 ?_
                      refine sV rc327 rfl (Nat.le_of_ble_eq_true rfl) ?_
                      refine CallV.mono hE ?_
                      rintro _ ⟨I156, rfl, q157, hE⟩
                      refine s83 ?_
                      exact rqV_of hE
                  · replace hE := hE.2 c152
                    refine s6 (p := 91) rfl ?_
                    refine s6 (p := 91) rfl ?_
                    refine s51 sh91 (by decide) (by decide) rf91_77 ?_
                    refine s4 (x := x1) rfl ?_
                    refine s40 (v := A 142 x1.toNat) sh142 g1 rfl (rdM q151.1 rfl) ?_
                    refine sV rc324 rfl (Nat.le_of_ble_eq_true rfl) ?_
                    refine CallV.mono hE ?_
                    rintro _ ⟨I158, rfl, q159, hE⟩
                    refine s79 ?_
                    refine xG gb325.2.2.2.2.2.2.2.2.2.2.2.2.2.2.2.2.1 ?_
                    refine s6 (p := 91) rfl ?_
                    refine s51 sh91 (by decide) (by decide) rf91_78 ?_
                    refine s4 (x := x1) rfl ?_
                    refine s40 (v := A 143 x1.toNat) sh143 g1 rfl (rdM q159.1 rfl) ?_
                    refine s0 ?_
                    refine s62 (inA q159.1 (a := 143) (k := x1.toNat) rfl) (inRd rfl) (fun c160 => ?_) (fun c160 => ?_)
                    · replace hE := hE.1 c160
                      refine s83 ?_
                      exact rqV_of hE
                    · replace hE := hE.2 c160
                      refine xG gb325.2.2.2.2.2.2.2.2.2.2.2.2.2.2.2.2.2 ?_
                      refine s6 (p := 91) rfl ?_
                      refine s2 ?_
                      refine sV rc322 rfl (Nat.le_of_ble_eq_true rfl) ?_
                      refine CallV.mono hE ?_
                      rintro _ ⟨I161, rfl, q162, hE⟩
                      refine s6 (p := 91) rfl ?_
                      refine s6 (p := 91) rfl ?_
                      refine s51 sh91 (by decide) (by decide) rf91_78 ?_
                      refine s4 (x := x1) rfl ?_
                      refine s40 (v := A 143 x1.toNat) sh143 g1 rfl (rdM q162.1 rfl) ?_
                      refine s0 ?_
                      refine sV rc327 rfl (Nat.le_of_ble_eq_true rfl) ?_
                      refine CallV.mono hE ?_
                      rintro _ ⟨I163, rfl, q164, hE⟩
                      refine s83 ?_
                      exact rqV_of hE
                · replace hE := hE.2 c149
                  refine xG gb325.2.2.2.2.2.2.2.2.2.2.2.2.2.1 ?_
                  refine s6 (p := 91) rfl ?_
                  refine s51 sh91 (by decide) (by decide) rf91_77 ?_
                  refine s4 (x := x1) rfl ?_
                  refine s40 (v := A 142 x1.toNat) sh142 g1 rfl (rdM q148.1 rfl) ?_
                  refine s0 ?_
                  refine s62 (inA q148.1 (a := 142) (k := x1.toNat) rfl) (inRd rfl) (fun c165 => ?_) (fun c165 => ?_)
                  · replace hE := hE.1 c165
                    refine s2 ?_
                    refine s60 ?_
                    refine xG gb325.2.2.2.2.2.2.2.2.2.2.2.2.2.2.2.1 ?_
                    refine sV rc322 rfl (Nat.le_of_ble_eq_true rfl) ?_
                    refine CallV.mono hE ?_
                    rintro _ ⟨I166, rfl, q167, hE⟩
                    refine s6 (p := 91) rfl ?_
                    refine s51 sh91 (by decide) (by decide) rf91_77 ?_
                    refine s4 (x := x1) rfl ?_
                    refine s40 (v := A 142 x1.toNat) sh142 g1 rfl (rdM q167.1 rfl) ?_
                    refine s69 (inA q167.1 (a := 142) (k := x1.toNat) rfl) (fun c168 => ?_) (fun c168 => ?_)
                    · replace hE := hE.1 c168
                      refine xG gb325.2.2.2.2.2.2.2.2.2.2.2.2.2.2.2.2.1 ?_
                      refine s6 (p := 91) rfl ?_
                      refine s51 sh91 (by decide) (by decide) rf91_78 ?_
                      refine s4 (x := x1) rfl ?_
                      refine s40 (v := A 143 x1.toNat) sh143 g1 rfl (rdM q167.1 rfl) ?_
                      refine s0 ?_
                      refine s62 (inA q167.1 (a := 143) (k := x1.toNat) rfl) (inRd rfl) (fun c169 => ?_) (fun c169 => ?_)
                      · replace hE := hE.1 c169
                        refine s83 ?_
                        exact rqV_of hE
                      · replace hE := hE.2 c169
                        refine xG gb325.2.2.2.2.2.2.2.2.2.2.2.2.2.2.2.2.2 ?_
                        refine s6 (p := 91) rfl ?_
                        refine s2 ?_
                        refine sV rc322 rfl (Nat.le_of_ble_eq_true rfl) ?_
                        refine CallV.mono hE ?_
                        rintro _ ⟨I170, rfl, q171, hE⟩
                        refine s6 (p := 91) rfl ?_
                        refine s6 (p := 91) rfl ?_
                        refine s51 sh91 (by decide) (by decide) rf91_78 ?_
                        refine s4 (x := x1) rfl ?_
                        refine s40 (v := A 143 x1.toNat) sh143 g1 rfl (rdM q171.1 rfl) ?_
                        refine s0 ?_
                        refine sV rc327 rfl (Nat.le_of_ble_eq_true rfl) ?_
                        refine CallV.mono hE ?_
                        rintro _ ⟨I172, rfl, q173, hE⟩
                        refine s83 ?_
                        exact rqV_of hE
                    · replace hE := hE.2 c168
                      refine s6 (p := 91) rfl ?_
                      refine s6 (p := 91) rfl ?_
                      refine s51 sh91 (by decide) (by decide) rf91_77 ?_
                      refine s4 (x := x1) rfl ?_
                      refine s40 (v := A 142 x1.toNat) sh142 g1 rfl (rdM q167.1 rfl) ?_
                      refine sV rc324 rfl (Nat.le_of_ble_eq_true rfl) ?_
                      refine CallV.mono hE ?_
                      rintro _ ⟨I174, rfl, q175, hE⟩
                      refine s79 ?_
                      refine xG gb325.2.2.2.2.2.2.2.2.2.2.2.2.2.2.2.2.1 ?_
                      refine s6 (p := 91) rfl ?_
                      refine s51 sh91 (by decide) (by decide) rf91_78 ?_
                      refine s4 (x := x1) rfl ?_
                      refine s40 (v := A 143 x1.toNat) sh143 g1 rfl (rdM q175.1 rfl) ?_
                      refine s0 ?_
                      refine s62 (inA q175.1 (a := 143) (k := x1.toNat) rfl) (inRd rfl) (fun c176 => ?_) (fun c176 => ?_)
                      · replace hE := hE.1 c176
                        refine s83 ?_
                        exact rqV_of hE
                      · replace hE := hE.2 c176
                        refine xG gb325.2.2.2.2.2.2.2.2.2.2.2.2.2.2.2.2.2 ?_
                        refine s6 (p := 91) rfl ?_
                        refine s2 ?_
                        refine sV rc322 rfl (Nat.le_of_ble_eq_true rfl) ?_
                        refine CallV.mono hE ?_
                        rintro _ ⟨I177, rfl, q178, hE⟩
                        refine s6 (p := 91) rfl ?_
                        refine s6 (p := 91) rfl ?_
                        refine s51 sh91 (by decide) (by decide) rf91_78 ?_
                        refine s4 (x := x1) rfl ?_
                        refine s40 (v := A 143 x1.toNat) sh143 g1 rfl (rdM q178.1 rfl) ?_
                        refine s0 ?_
                        refine sV rc327 rfl (Nat.le_of_ble_eq_true rfl) ?_
                        refine CallV.mono hE ?_
                        rintro _ ⟨I179, rfl, q180, hE⟩
                        refine s83 ?_
                        exact rqV_of hE
                  · replace hE := hE.2 c165
                    refine xG gb325.2.2.2.2.2.2.2.2.2.2.2.2.2.2.1 ?_
                    refine s2 ?_
                    refine s79 ?_
                    refine xG gb325.2.2.2.2.2.2.2.2.2.2.2.2.2.2.2.1 ?_
                    refine sV rc322 rfl (Nat.le_of_ble_eq_true rfl) ?_
                    refine CallV.mono hE ?_
                    rintro _ ⟨I181, rfl, q182, hE⟩
                    refine s6 (p := 91) rfl ?_
                    refine s51 sh91 (by decide) (by decide) rf91_77 ?_
                    refine s4 (x := x1) rfl ?_
                    refine s40 (v := A 142 x1.toNat) sh142 g1 rfl (rdM q182.1 rfl) ?_
                    refine s69 (inA q182.1 (a := 142) (k := x1.toNat) rfl) (fun c183 => ?_) (fun c183 => ?_)
                    · replace hE := hE.1 c183
                      refine xG gb325.2.2.2.2.2.2.2.2.2.2.2.2.2.2.2.2.1 ?_
                      refine s6 (p := 91) rfl ?_
                      refine s51 sh91 (by decide) (by decide) rf91_78 ?_
                      refine s4 (x := x1) rfl ?_
                      refine s40 (v := A 143 x1.toNat) sh143 g1 rfl (rdM q182.1 rfl) ?_
                      refine s0 ?_
                      refine s62 (inA q182.1 (a := 143) (k := x1.toNat) rfl) (inRd rfl) (fun c184 => ?_) (fun c184 => ?_)
                      · replace hE := hE.1 c184
                        refine s83 ?_
                        exact rqV_of hE
                      · replace hE := hE.2 c184
                        refine xG gb325.2.2.2.2.2.2.2.2.2.2.2.2.2.2.2.2.2 ?_
                        refine s6 (p := 91) rfl ?_
                        refine s2 ?_
                        refine sV rc322 rfl (Nat.le_of_ble_eq_true rfl) ?_
                        refine CallV.mono hE ?_
                        rintro _ ⟨I185, rfl, q186, hE⟩
                        refine s6 (p := 91) rfl ?_
                        refine s6 (p := 91) rfl ?_
                        refine s51 sh91 (by decide) (by decide) rf91_78 ?_
                        refine s4 (x := x1) rfl ?_
                        refine s40 (v := A 143 x1.toNat) sh143 g1 rfl (rdM q186.1 rfl) ?_
                        refine s0 ?_
                        refine sV rc327 rfl (Nat.le_of_ble_eq_true rfl) ?_
                        refine CallV.mono hE ?_
                        rintro _ ⟨I187, rfl, q188, hE⟩
                        refine s83 ?_
                        exact rqV_of hE
                    · replace hE := hE.2 c183
                      refine s6 (p := 91) rfl ?_
                      refine s6 (p := 91) rfl ?_
                      refine s51 sh91 (by decide) (by decide) rf91_77 ?_
                      refine s4 (x := x1) rfl ?_
                      refine s40 (v := A 142 x1.toNat) sh142 g1 rfl (rdM q182.1 rfl) ?_
                      refine sV rc324 rfl (Nat.le_of_ble_eq_true rfl) ?_
                      refine CallV.mono hE ?_
                      rintro _ ⟨I189, rfl, q190, hE⟩
                      refine s79 ?_
                      refine xG gb325.2.2.2.2.2.2.2.2.2.2.2.2.2.2.2.2.1 ?_
                      refine s6 (p := 91) rfl ?_
                      refine s51 sh91 (by decide) (by decide) rf91_78 ?_
                      refine s4 (x := x1) rfl ?_
                      refine s40 (v := A 143 x1.toNat) sh143 g1 rfl (rdM q190.1 rfl) ?_
                      refine s0 ?_
                      refine s62 (inA q190.1 (a := 143) (k := x1.toNat) rfl) (inRd rfl) (fun c191 => ?_) (fun c191 => ?_)
                      · replace hE := hE.1 c191
                        refine s83 ?_
                        exact rqV_of hE
                      · replace hE := hE.2 c191
                        refine xG gb325.2.2.2.2.2.2.2.2.2.2.2.2.2.2.2.2.2 ?_
                        refine s6 (p := 91) rfl ?_
                        refine s2 ?_
                        refine sV rc322 rfl (Nat.le_of_ble_eq_true rfl) ?_
                        refine CallV.mono hE ?_
                        rintro _ ⟨I192, rfl, q193, hE⟩
                        refine s6 (p := 91) rfl ?_
                        refine s6 (p := 91) rfl ?_
                        refine s51 sh91 (by decide) (by decide) rf91_78 ?_
                        refine s4 (x := x1) rfl ?_
                        refine s40 (v := A 143 x1.toNat) sh143 g1 rfl (rdM q193.1 rfl) ?_
                        refine s0 ?_
                        refine sV rc327 rfl (Nat.le_of_ble_eq_true rfl) ?_
                        refine CallV.mono hE ?_
                        rintro _ ⟨I194, rfl, q195, hE⟩
                        refine s83 ?_
                        exact rqV_of hE
              · replace hE := hE.2 c146
                refine xG gb325.2.2.2.2.2.2.2.2.2.2.2.2.2.2.2.2.1 ?_
                refine s6 (p := 91) rfl ?_
                refine s51 sh91 (by decide) (by decide) rf91_78 ?_
                refine s4 (x := x1) rfl ?_
                refine s40 (v := A 143 x1.toNat) sh143 g1 rfl (rdM q76.1 rfl) ?_
                refine s0 ?_
                refine s62 (inA q76.1 (a := 143) (k := x1.toNat) rfl) (inRd rfl) (fun c196 => ?_) (fun c196 => ?_)
                · replace hE := hE.1 c196
                  refine s83 ?_
                  exact rqV_of hE
                · replace hE := hE.2 c196
                  refine xG gb325.2.2.2.2.2.2.2.2.2.2.2.2.2.2.2.2.2 ?_
                  refine s6 (p := 91) rfl ?_
                  refine s2 ?_
                  refine sV rc322 rfl (Nat.le_of_ble_eq_true rfl) ?_
                  refine CallV.mono hE ?_
                  rintro _ ⟨I197, rfl, q198, hE⟩
                  refine s6 (p := 91) rfl ?_
                  refine s6 (p := 91) rfl ?_
                  refine s51 sh91 (by decide) (by decide) rf91_78 ?_
                  refine s4 (x := x1) rfl ?_
                  refine s40 (v := A 143 x1.toNat) sh143 g1 rfl (rdM q198.1 rfl) ?_
                  refine s0 ?_
                  refine sV rc327 rfl (Nat.le_of_ble_eq_true rfl) ?_
                  refine CallV.mono hE ?_
                  rintro _ ⟨I199, rfl, q200, hE⟩
                  refine s83 ?_
                  exact rqV_of hE
def h321_2 (d L : Nat) (I : Nat → Nat → Int32) (R : Nat → Nat → Option Nat) (S : List (Nat × Nat)) (Q : Option Value → mM → Prop) (x1 : Int) (x2 : Int) (x3 : Int) (w4 : Value) : Prop := Wp d (gb 321 2) [.ref 91, .int (oI x1), .int (oI x2), .int (oI x3), w4] [] (bd L I R S) Q
set_option maxRecDepth 4000 in
theorem e321_2 {d L : Nat} {I : Nat → Nat → Int32} {R : Nat → Nat → Option Nat} {S : List (Nat × Nat)} {Q : Option Value → mM → Prop} {A : aS} (hR : RM I A) {x1 : Int} {x2 : Int} {x3 : Int} {w4 : Value} (hE : inR x3 ∧ (((60 < x3) → inR x2 ∧ (((x2 = (-1)) → Q (some (.int (oI (ld I 91 92)))) (bd L I R S)) ∧ (¬ (x2 = (-1)) → inR (ld I 91 92 - 1) ∧ (((0 ≤ x2 ∧ x2 ≤ ld I 91 92 - 1) → (0 ≤ x2 ∧ x2 < 8000) ∧ (Q (some (.int (oI (ld I 154 x2.toNat)))) (bd L I R S))) ∧ (¬ (0 ≤ x2 ∧ x2 ≤ ld I 91 92 - 1) → Q (some (.int (oI (-1)))) (bd L I R S)))))) ∧ (¬ (60 < x3) → WfC A ∧ ((0 ≤ x1 ∧ x1 ≤ 7) ∧ ((0 ≤ x3 ∧ x3 ≤ 60) ∧ (∀ (I13 : mI), (Fr [151] [(91, 87)] I I13) → (RM I13 A) → inR (cdS A x1 x3) ∧ (((cdS A x1 x3 = (-1)) → h321_2 (d + 2) L I13 R S Q x1 x2 (x3 + 1) (.int (oI (cdS A x1 x3)))) ∧ (¬ (cdS A x1 x3 = (-1)) → CallV (d + 1) 322 [.ref 91, .long (Int64.ofInt 109317142704997)] (bd L I13 R S) (fun s => ∃ (I18 : mI), s = bd L I18 R S ∧ RM I18 A ∧ (CallV (d + 1) 324 [.ref 91, .int (oI x3)] (bd L I18 R S) (fun s => ∃ (I20 : mI), s = bd L I20 R S ∧ RM I20 A ∧ (CallV (d + 1) 323 [.ref 91, .int (oI 58)] (bd L I20 R S) (fun s => ∃ (I22 : mI), s = bd L I22 R S ∧ RM I22 A ∧ (CallV (d + 1) 325 [.ref 91, .int (oI (cdS A x1 x3))] (bd L I22 R S) (fun s => ∃ (I24 : mI), s = bd L I24 R S ∧ RM I24 A ∧ (CallV (d + 1) 323 [.ref 91, .int (oI 59)] (bd L I24 R S) (fun s => ∃ (I26 : mI), s = bd L I26 R S ∧ RM I26 A ∧ (h321_2 (d + 2) L I26 R S Q x1 x2 (x3 + 1) (.int (oI (cdS A x1 x3))))))))))))))))))))) : h321_2 (d + 2) L I R S Q x1 x2 x3 w4 := by
  unfold h321_2
  refine xG gb321.2.2.1 ?_
  refine s4 (x := x3) rfl ?_
  refine s0 ?_
  obtain ⟨g1, hE⟩ := hE
  refine s65 g1 (inRd rfl) (fun c2 => ?_) (fun c2 => ?_)
  · replace hE := hE.1 c2
    refine xG gb321.2.2.2.2.2.1 ?_
    refine s4 (x := x2) rfl ?_
    refine s0 ?_
    obtain ⟨g3, hE⟩ := hE
    refine s62 g3 (inRd rfl) (fun c4 => ?_) (fun c4 => ?_)
    · replace hE := hE.1 c4
      refine s6 (p := 91) rfl ?_
      refine s50 (v := ld I 91 92) sh91 (by decide) (by decide) (oI_ld _ _ _) ?_
      refine s60 ?_
      refine xG gb321.2.2.2.2.2.2.2.2 ?_
      refine s80 ?_
      exact hE
    · replace hE := hE.2 c4
      refine xG gb321.2.2.2.2.2.2.1 ?_
      refine s4 (x := x2) rfl ?_
      refine s0 ?_
      refine s6 (p := 91) rfl ?_
      refine s50 (v := ld I 91 92) sh91 (by decide) (by decide) (oI_ld _ _ _) ?_
      refine s0 ?_
      refine s17 ?_
      obtain ⟨g5, hE⟩ := hE
      refine sI rc210 rfl (Nat.le_of_ble_eq_true rfl) ?_
      refine k210 g3 (inRd rfl) g5 (fun c6 => ?_) (fun c6 => ?_)
      · replace hE := hE.1 c6
        refine s67 (inRd rfl) (fun c7 => absurd c7 (by decide)) (fun _ => ?_)
        refine s6 (p := 91) rfl ?_
        refine s51 sh91 (by decide) (by decide) rf91_91 ?_
        refine s4 (x := x2) rfl ?_
        obtain ⟨g8, hE⟩ := hE
        refine s41 (v := ld I 154 x2.toNat) sh154 g8 rfl (oI_ld _ _ _) ?_
        refine s60 ?_
        refine xG gb321.2.2.2.2.2.2.2.2 ?_
        refine s80 ?_
        exact hE
      · replace hE := hE.2 c6
        refine s67 (inRd rfl) (fun _ => ?_) (fun c9 => absurd (by decide) c9)
        refine xG gb321.2.2.2.2.2.2.2.1 ?_
        refine s0 ?_
        refine s79 ?_
        refine xG gb321.2.2.2.2.2.2.2.2 ?_
        refine s80 ?_
        exact hE
  · replace hE := hE.2 c2
    refine s6 (p := 91) rfl ?_
    refine s4 (x := x1) rfl ?_
    refine s4 (x := x3) rfl ?_
    obtain ⟨g10, hE⟩ := hE
    obtain ⟨g11, hE⟩ := hE
    obtain ⟨g12, hE⟩ := hE
    refine sI rc221 rfl (Nat.le_of_ble_eq_true rfl) ?_
    refine k221 hR g10 g11 g12 (fun I13 q14 q15 => ?_)
    replace hE := hE I13 q14 q15
    refine s7 (ls' := [.ref 91, .int (oI x1), .int (oI x2), .int (oI x3), .int (oI (cdS A x1 x3))]) (Nat.le_of_ble_eq_true rfl) rfl ?_
    refine s4 (x := cdS A x1 x3) rfl ?_
    refine s0 ?_
    obtain ⟨g16, hE⟩ := hE
    refine s62 g16 (inRd rfl) (fun c17 => ?_) (fun c17 => ?_)
    · replace hE := hE.1 c17
      refine s60 ?_
      refine xG gb321.2.2.2.2.1 ?_
      refine s10 (x := x3) (ls' := [.ref 91, .int (oI x1), .int (oI x2), .int (oI (x3 + 1)), .int (oI (cdS A x1 x3))]) rfl rfl ?_
      refine s60 ?_
      exact hE
    · replace hE := hE.2 c17
      refine xG gb321.2.2.2.1 ?_
      refine s6 (p := 91) rfl ?_
      refine s2 ?_
      refine sV rc322 rfl (Nat.le_of_ble_eq_true rfl) ?_
      refine CallV.mono hE ?_
      rintro _ ⟨I18, rfl, q19, hE⟩
      refine s6 (p := 91) rfl ?_
      refine s4 (x := x3) rfl ?_
      refine sV rc324 rfl (Nat.le_of_ble_eq_true rfl) ?_
      refine CallV.mono hE ?_
      rintro _ ⟨I20, rfl, q21, hE⟩
      refine s6 (p := 91) rfl ?_
      refine s0 ?_
      refine sV rc323 rfl (Nat.le_of_ble_eq_true rfl) ?_
      refine CallV.mono hE ?_
      rintro _ ⟨I22, rfl, q23, hE⟩
      refine s6 (p := 91) rfl ?_
      refine s4 (x := cdS A x1 x3) rfl ?_
      refine sV rc325 rfl (Nat.le_of_ble_eq_true rfl) ?_
      refine CallV.mono hE ?_
      rintro _ ⟨I24, rfl, q25, hE⟩
      refine s6 (p := 91) rfl ?_
      refine s0 ?_
      refine sV rc323 rfl (Nat.le_of_ble_eq_true rfl) ?_
      refine CallV.mono hE ?_
      rintro _ ⟨I26, rfl, q27, hE⟩
      refine s79 ?_
      refine xG gb321.2.2.2.2.1 ?_
      refine s10 (x := x3) (ls' := [.ref 91, .int (oI x1), .int (oI x2), .int (oI (x3 + 1)), .int (oI (cdS A x1 x3))]) rfl rfl ?_
      refine s60 ?_
      exact hE
set_option maxRecDepth 4000 in
theorem e321 {d L : Nat} {I : Nat → Nat → Int32} {R : Nat → Nat → Option Nat} {S : List (Nat × Nat)} {K : Int32 → mM → Prop} {A : aS} (hR : RM I A) {x1 : Int} {x2 : Int} (hE : inR x1 ∧ (((0 ≤ x1 ∧ x1 ≤ 7) → h321_2 (d + 2) L (u2 (u2 I 91 92 (oI 0)) 91 93 (oI 0)) R S (rqI K) x1 x2 1 mUn) ∧ (¬ (0 ≤ x1 ∧ x1 ≤ 7) → K (oI (-1)) (bd L I R S)))) : CallI (d + 2) 321 [.ref 91, .int (oI x1), .int (oI x2)] (bd L I R S) K := by
  refine cI_of (ls := [.ref 91, .int (oI x1), .int (oI x2), mUn, mUn]) rfl ?_
  refine xG gb321.1 ?_
  refine s4 (x := x1) rfl ?_
  refine sI rc250 rfl (Nat.le_of_ble_eq_true rfl) ?_
  refine cI_of (ls := [.int (oI x1)]) rfl ?_
  refine xG gb250 ?_
  refine s4 (x := x1) rfl ?_
  refine s0 ?_
  refine s0 ?_
  obtain ⟨g1, hE⟩ := hE
  refine sI rc210 rfl (Nat.le_of_ble_eq_true rfl) ?_
  refine k210 g1 (inRd rfl) (inRd rfl) (fun c2 => ?_) (fun c2 => ?_)
  · replace hE := hE.1 c2
    refine s84 (by decide) ?_
    refine rqI_of ?_
    refine s68 (inRd rfl) (fun c3 => absurd c3 (by decide)) (fun _ => ?_)
    refine xG gb321.2.1 ?_
    refine s6 (p := 91) rfl ?_
    refine s0 ?_
    refine s52 sh91 (by decide) (by decide) ?_
    refine s6 (p := 91) rfl ?_
    refine s0 ?_
    refine s49 sh91 (by decide) (by decide) (by decide) ?_
    refine s0 ?_
    refine s7 (ls' := [.ref 91, .int (oI x1), .int (oI x2), .int (oI 1), mUn]) (Nat.le_of_ble_eq_true rfl) rfl ?_
    refine s79 ?_
    exact hE
  · replace hE := hE.2 c2
    refine s84 (by decide) ?_
    refine rqI_of ?_
    refine s68 (inRd rfl) (fun _ => ?_) (fun c4 => absurd (by decide) c4)
    refine s0 ?_
    refine s80 ?_
    exact rqI_of hE
