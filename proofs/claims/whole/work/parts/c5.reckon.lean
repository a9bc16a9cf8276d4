def h161_3 (d L : Nat) (I : Nat → Nat → Int32) (R : Nat → Nat → Option Nat) (S : List (Nat × Nat)) (Q : Option Value → mM → Prop) (x1 : Int) (x2 : Int) (x3 : Int) (x4 : Int) (x5 : Int) (w6 : Value) (w7 : Value) (w8 : Value) : Prop := Wp d (gb 161 3) [.ref 70, .int (oI x1), .int (oI x2), .int (oI x3), .int (oI x4), .int (oI x5), w6, w7, w8] [] (bd L I R S) Q
def h161_6 (d L : Nat) (I : Nat → Nat → Int32) (R : Nat → Nat → Option Nat) (S : List (Nat × Nat)) (Q : Option Value → mM → Prop) (w1 : Value) (w2 : Value) (w3 : Value) (w4 : Value) (w5 : Value) (w6 : Value) (w7 : Value) (x8 : Int) : Prop := Wp d (gb 161 6) [.ref 70, w1, w2, w3, w4, w5, w6, w7, .int (oI x8)] [] (bd L I R S) Q
set_option maxRecDepth 4000 in
theorem e161_3 {d L : Nat} {I : Nat → Nat → Int32} {R : Nat → Nat → Option Nat} {S : List (Nat × Nat)} {Q : Option Value → mM → Prop} {A : aS} (hC : RC R S I A) {x1 : Int} {x2 : Int} {x3 : Int} {x4 : Int} {x5 : Int} {w6 : Value} {w7 : Value} {w8 : Value} (hE : CallV (d + 25) 162 [.ref 70] (bd L (u2 (u2 (u2 (u2 (u2 (u2 (u2 I 70 15 (oI x1)) 70 16 (oI x2)) 70 17 (oI x3)) 70 18 (oI x4)) 70 19 (oI x5)) 70 9 (oI 0)) 70 14 (oI 0)) R S) (fun s => ∃ (I1 : mI), s = bd L I1 R S ∧ RC R S I1 A ∧ (WfC A ∧ ((0 ≤ ld I1 70 17 ∧ ld I1 70 17 ≤ 7) ∧ (inR (tlS A zE (ld I1 70 17) 139 1 (-1)) ∧ (((tlS A zE (ld I1 70 17) 139 1 (-1) = (-1)) → CallV (d + 25) 163 [.ref 70] (bd L (u2 I1 70 13 (oI (-1))) R S) (fun s => ∃ (I8 : mI), s = bd L I8 R S ∧ RC R S I8 A ∧ (h161_6 (d + 26) L I8 R S Q (.int (oI x1)) (.int (oI x2)) (.int (oI x3)) (.int (oI x4)) (.int (oI x5)) (mNl w6) (.int (oI (tlS A zE (ld I1 70 17) 139 1 (-1)))) 0))) ∧ (¬ (tlS A zE (ld I1 70 17) 139 1 (-1) = (-1)) → WfT A ∧ (CallV (d + 25) 163 [.ref 70] (bd L (u2 I1 70 13 (oI ((tlS A zE (ld I1 70 17) 139 1 (-1)) * (1 + (hnL A (ld I1 70 15) (ld I1 70 16) (A 91 40).toNat - 1))))) R S) (fun s => ∃ (I12 : mI), s = bd L I12 R S ∧ RC R S I12 A ∧ (h161_6 (d + 26) L I12 R S Q (.int (oI x1)) (.int (oI x2)) (.int (oI x3)) (.int (oI x4)) (.int (oI x5)) (mNl w6) (.int (oI (tlS A zE (ld I1 70 17) 139 1 (-1)))) 0)))))))))) : h161_3 (d + 26) L I R S Q x1 x2 x3 x4 x5 w6 w7 w8 := by
  unfold h161_3
  refine xG gb161.2.2.2.1 ?_
  refine s6 (p := 70) rfl ?_
  refine s4 (x := x1) rfl ?_
  refine s52 sh70 (by decide) (by decide) ?_
  refine s6 (p := 70) rfl ?_
  refine s4 (x := x2) rfl ?_
  refine s52 sh70 (by decide) (by decide) ?_
  refine s6 (p := 70) rfl ?_
  refine s4 (x := x3) rfl ?_
  refine s52 sh70 (by decide) (by decide) ?_
  refine s6 (p := 70) rfl ?_
  refine s4 (x := x4) rfl ?_
  refine s52 sh70 (by decide) (by decide) ?_
  refine s6 (p := 70) rfl ?_
  refine s4 (x := x5) rfl ?_
  refine s52 sh70 (by decide) (by decide) ?_
  refine s6 (p := 70) rfl ?_
  refine s0 ?_
  refine s52 sh70 (by decide) (by decide) ?_
  refine s6 (p := 70) rfl ?_
  refine s0 ?_
  refine s52 sh70 (by decide) (by decide) ?_
  refine s6 (p := 70) rfl ?_
  refine sV rc162 rfl (Nat.le_of_ble_eq_true rfl) ?_
  refine CallV.mono hE ?_
  rintro _ ⟨I1, rfl, q2, hE⟩
  refine s6 (p := 70) rfl ?_
  refine s51 sh70 (by decide) (by decide) rf70_1 ?_
  refine s6 (p := 70) rfl ?_
  refine s50 (v := ld I1 70 17) sh70 (by decide) (by decide) (oI_ld _ _ _) ?_
  refine s0 ?_
  refine s0 ?_
  refine s0 ?_
  refine sI rc96 rfl (Nat.le_of_ble_eq_true rfl) ?_
  refine cI_of (ls := [.ref 43, .int (oI (ld I1 70 17)), .int (oI 139), .int (oI 1), .int (oI (-1))]) rfl ?_
  refine xG gb96 ?_
  refine s6 (p := 43) rfl ?_
  refine s4 (x := ld I1 70 17) rfl ?_
  refine s4 (x := 139) rfl ?_
  refine s4 (x := 1) rfl ?_
  refine s6 (p := 43) rfl ?_
  refine s51 sh43 (by decide) (by decide) rf43_13 ?_
  refine s4 (x := (-1)) rfl ?_
  obtain ⟨g4, hE⟩ := hE
  obtain ⟨g5, hE⟩ := hE
  refine sI rc97 rfl (Nat.le_of_ble_eq_true rfl) ?_
  refine k97a58 q2 g4 (RC.zE q2) g5 (⟨by decide, by decide⟩ : (130 : Int) ≤ 139 ∧ (139 : Int) ≤ 144) (inRd rfl) ?_
  refine s80 ?_
  refine rqI_of ?_
  refine s7 (ls' := [.ref 70, .int (oI x1), .int (oI x2), .int (oI x3), .int (oI x4), .int (oI x5), mNl w6, .int (oI (tlS A zE (ld I1 70 17) 139 1 (-1))), w8]) (Nat.le_of_ble_eq_true rfl) rfl ?_
  refine s6 (p := 70) rfl ?_
  refine s4 (x := tlS A zE (ld I1 70 17) 139 1 (-1)) rfl ?_
  refine s0 ?_
  obtain ⟨g6, hE⟩ := hE
  refine s62 g6 (inRd rfl) (fun c7 => ?_) (fun c7 => ?_)
  · replace hE := hE.1 c7
    refine s0 ?_
    refine s60 ?_
    refine xG gb161.2.2.2.2.2.1 ?_
    refine s52 sh70 (by decide) (by decide) ?_
    refine s6 (p := 70) rfl ?_
    refine sV rc163 rfl (Nat.le_of_ble_eq_true rfl) ?_
    refine CallV.mono hE ?_
    rintro _ ⟨I8, rfl, q9, hE⟩
    refine s0 ?_
    refine s7 (ls' := [.ref 70, .int (oI x1), .int (oI x2), .int (oI x3), .int (oI x4), .int (oI x5), mNl w6, .int (oI (tlS A zE (ld I1 70 17) 139 1 (-1))), .int (oI 0)]) (Nat.le_of_ble_eq_true rfl) rfl ?_
    refine s79 ?_
    exact hE
  · replace hE := hE.2 c7
    refine xG gb161.2.2.2.2.1 ?_
    refine s4 (x := tlS A zE (ld I1 70 17) 139 1 (-1)) rfl ?_
    refine s0 ?_
    refine s6 (p := 70) rfl ?_
    refine s51 sh70 (by decide) (by decide) rf70_0 ?_
    refine s6 (p := 70) rfl ?_
    refine s50 (v := ld I1 70 15) sh70 (by decide) (by decide) (oI_ld _ _ _) ?_
    refine s6 (p := 70) rfl ?_
    refine s50 (v := ld I1 70 16) sh70 (by decide) (by decide) (oI_ld _ _ _) ?_
    obtain ⟨g11, hE⟩ := hE
    refine sI rc82 rfl (Nat.le_of_ble_eq_true rfl) ?_
    refine k82 q2 g11 (ld_inR _ _ _) (ld_inR _ _ _) ?_
    refine s16 ?_
    refine s18 ?_
    refine s79 ?_
    refine xG gb161.2.2.2.2.2.1 ?_
    refine s52 sh70 (by decide) (by decide) ?_
    refine s6 (p := 70) rfl ?_
    refine sV rc163 rfl (Nat.le_of_ble_eq_true rfl) ?_
    refine CallV.mono hE ?_
    rintro _ ⟨I12, rfl, q13, hE⟩
    refine s0 ?_
    refine s7 (ls' := [.ref 70, .int (oI x1), .int (oI x2), .int (oI x3), .int (oI x4), .int (oI x5), mNl w6, .int (oI (tlS A zE (ld I1 70 17) 139 1 (-1))), .int (oI 0)]) (Nat.le_of_ble_eq_true rfl) rfl ?_
    refine s79 ?_
    exact hE
set_option maxRecDepth 4000 in
theorem e161_6 {d L : Nat} {I : Nat → Nat → Int32} {R : Nat → Nat → Option Nat} {S : List (Nat × Nat)} {Q : Option Value → mM → Prop} {A : aS} (hC : RC R S I A) {w1 : Value} {w2 : Value} {w3 : Value} {w4 : Value} {w5 : Value} {w6 : Value} {w7 : Value} {x8 : Int} (hE : inR x8 ∧ (((x8 < A 91 1) → (0 ≤ x8 ∧ x8 < 40) ∧ (((ld I 76 x8.toNat = 0) → h161_6 (d + 1) L I R S Q w1 w2 w3 w4 w5 w6 (mNl w7) (x8 + 1)) ∧ (¬ (ld I 76 x8.toNat = 0) → CallV d 165 [.ref 70, .int (oI x8)] (bd L I R S) (fun s => ∃ (I5 : mI), s = bd L I5 R S ∧ RC R S I5 A ∧ (h161_6 (d + 1) L I5 R S Q w1 w2 w3 w4 w5 w6 (mNl w7) (x8 + 1)))))) ∧ (¬ (x8 < A 91 1) → CallV d 166 [.ref 70] (bd L I R S) (fun s => ∃ (I8 : mI), s = bd L I8 R S ∧ RC R S I8 A ∧ (Q none (bd L I8 R S)))))) : h161_6 (d + 1) L I R S Q w1 w2 w3 w4 w5 w6 w7 x8 := by
  unfold h161_6
  refine xG gb161.2.2.2.2.2.2.1 ?_
  refine s4 (x := x8) rfl ?_
  refine s6 (p := 70) rfl ?_
  refine s51 sh70 (by decide) (by decide) rf70_0 ?_
  refine s50 (v := A 91 1) sh21 (by decide) (by decide) (rdC hC.1 rfl) ?_
  obtain ⟨g1, hE⟩ := hE
  refine s64 g1 (inC hC.1 (a := 21) (k := 9) rfl) (fun c2 => ?_) (fun c2 => ?_)
  · replace hE := hE.1 c2
    refine s6 (p := 70) rfl ?_
    refine s51 sh70 (by decide) (by decide) rf70_8 ?_
    refine s4 (x := x8) rfl ?_
    obtain ⟨g3, hE⟩ := hE
    refine s42 (v := ld I 76 x8.toNat) sh76 g3 rfl (oI_ld _ _ _) ?_
    refine s67 (ld_inR _ _ _) (fun c4 => ?_) (fun c4 => ?_)
    · replace hE := hE.1 c4
      refine xG gb161.2.2.2.2.2.2.2.1 ?_
      refine s10 (x := x8) (ls' := [.ref 70, w1, w2, w3, w4, w5, w6, mNl w7, .int (oI (x8 + 1))]) rfl rfl ?_
      refine s60 ?_
      exact hE
    · replace hE := hE.2 c4
      refine s6 (p := 70) rfl ?_
      refine s4 (x := x8) rfl ?_
      refine sV rc165 rfl (Nat.le_of_ble_eq_true rfl) ?_
      refine CallV.mono hE ?_
      rintro _ ⟨I5, rfl, q6, hE⟩
      refine s79 ?_
      refine xG gb161.2.2.2.2.2.2.2.1 ?_
      refine s10 (x := x8) (ls' := [.ref 70, w1, w2, w3, w4, w5, w6, mNl w7, .int (oI (x8 + 1))]) rfl rfl ?_
      refine s60 ?_
      exact hE
  · replace hE := hE.2 c2
    refine xG gb161.2.2.2.2.2.2.2.2 ?_
    refine s6 (p := 70) rfl ?_
    refine sV rc166 rfl (Nat.le_of_ble_eq_true rfl) ?_
    refine CallV.mono hE ?_
    rintro _ ⟨I8, rfl, q9, hE⟩
    refine s83 ?_
    exact hE
set_option maxRecDepth 4000 in
theorem e161 {d L : Nat} {I : Nat → Nat → Int32} {R : Nat → Nat → Option Nat} {S : List (Nat × Nat)} {K : mM → Prop} {A : aS} (hC : RC R S I A) {x1 : Int} {x2 : Int} {x3 : Int} {x4 : Int} {x5 : Int} (hE : inR x1 ∧ (((ld I 70 15 = x1) → inR x2 ∧ (((ld I 70 16 = x2) → inR x3 ∧ (((ld I 70 17 = x3) → inR x4 ∧ (((ld I 70 18 = x4) → inR x5 ∧ (((ld I 70 19 = x5) → K (bd L I R S)) ∧ (¬ (ld I 70 19 = x5) → h161_3 d L I R S (rqV K) x1 x2 x3 x4 x5 (.int (oI 0)) mUn mUn))) ∧ (¬ (ld I 70 18 = x4) → h161_3 d L I R S (rqV K) x1 x2 x3 x4 x5 (.int (oI 0)) mUn mUn))) ∧ (¬ (ld I 70 17 = x3) → h161_3 d L I R S (rqV K) x1 x2 x3 x4 x5 (.int (oI 0)) mUn mUn))) ∧ (¬ (ld I 70 16 = x2) → h161_3 d L I R S (rqV K) x1 x2 x3 x4 x5 (.int (oI 0)) mUn mUn))) ∧ (¬ (ld I 70 15 = x1) → h161_3 d L I R S (rqV K) x1 x2 x3 x4 x5 (.int (oI 0)) mUn mUn))) : CallV d 161 [.ref 70, .int (oI x1), .int (oI x2), .int (oI x3), .int (oI x4), .int (oI x5)] (bd L I R S) K := by
  refine cV_of (ls := [.ref 70, .int (oI x1), .int (oI x2), .int (oI x3), .int (oI x4), .int (oI x5), mUn, mUn, mUn]) rfl ?_
  refine xG gb161.1 ?_
  refine s6 (p := 70) rfl ?_
  refine s50 (v := ld I 70 15) sh70 (by decide) (by decide) (oI_ld _ _ _) ?_
  refine s4 (x := x1) rfl ?_
  obtain ⟨g1, hE⟩ := hE
  refine s62 (ld_inR _ _ _) g1 (fun c2 => ?_) (fun c2 => ?_)
  · replace hE := hE.1 c2
    refine s6 (p := 70) rfl ?_
    refine s50 (v := ld I 70 16) sh70 (by decide) (by decide) (oI_ld _ _ _) ?_
    refine s4 (x := x2) rfl ?_
    obtain ⟨g3, hE⟩ := hE
    refine s62 (ld_inR _ _ _) g3 (fun c4 => ?_) (fun c4 => ?_)
    · replace hE := hE.1 c4
      refine s6 (p := 70) rfl ?_
      refine s50 (v := ld I 70 17) sh70 (by decide) (by decide) (oI_ld _ _ _) ?_
      refine s4 (x := x3) rfl ?_
      obtain ⟨g5, hE⟩ := hE
      refine s62 (ld_inR _ _ _) g5 (fun c6 => ?_) (fun c6 => ?_)
      · replace hE := hE.1 c6
        refine s6 (p := 70) rfl ?_
        refine s50 (v := ld I 70 18) sh70 (by decide) (by decide) (oI_ld _ _ _) ?_
        refine s4 (x := x4) rfl ?_
        obtain ⟨g7, hE⟩ := hE
        refine s62 (ld_inR _ _ _) g7 (fun c8 => ?_) (fun c8 => ?_)
        · replace hE := hE.1 c8
          refine s6 (p := 70) rfl ?_
          refine s50 (v := ld I 70 19) sh70 (by decide) (by decide) (oI_ld _ _ _) ?_
          refine s4 (x := x5) rfl ?_
          obtain ⟨g9, hE⟩ := hE
          refine s62 (ld_inR _ _ _) g9 (fun c10 => ?_) (fun c10 => ?_)
          · replace hE := hE.1 c10
            refine s0 ?_
            refine s60 ?_
            refine xG gb161.2.2.1 ?_
            refine s7 (ls' := [.ref 70, .int (oI x1), .int (oI x2), .int (oI x3), .int (oI x4), .int (oI x5), .int (oI 1), mUn, mUn]) (Nat.le_of_ble_eq_true rfl) rfl ?_
            refine s4 (x := 1) rfl ?_
            refine s67 (inRd rfl) (fun c11 => absurd c11 (by decide)) (fun _ => ?_)
            refine s83 ?_
            exact rqV_of hE
          · replace hE := hE.2 c10
            refine xG gb161.2.1 ?_
            refine s0 ?_
            refine s79 ?_
            refine xG gb161.2.2.1 ?_
            refine s7 (ls' := [.ref 70, .int (oI x1), .int (oI x2), .int (oI x3), .int (oI x4), .int (oI x5), .int (oI 0), mUn, mUn]) (Nat.le_of_ble_eq_true rfl) rfl ?_
            refine s4 (x := 0) rfl ?_
            refine s67 (inRd rfl) (fun _ => ?_) (fun c12 => absurd (by decide) c12)
            exact hE
        · replace hE := hE.2 c8
          refine xG gb161.2.1 ?_
          refine s0 ?_
          refine s79 ?_
          refine xG gb161.2.2.1 ?_
          refine s7 (ls' := [.ref 70, .int (oI x1), .int (oI x2), .int (oI x3), .int (oI x4), .int (oI x5), .int (oI 0), mUn, mUn]) (Nat.le_of_ble_eq_true rfl) rfl ?_
          refine s4 (x := 0) rfl ?_
          refine s67 (inRd rfl) (fun _ => ?_) (fun c13 => absurd (by decide) c13)
          exact hE
      · replace hE := hE.2 c6
        refine xG gb161.2.1 ?_
        refine s0 ?_
        refine s79 ?_
        refine xG gb161.2.2.1 ?_
        refine s7 (ls' := [.ref 70, .int (oI x1), .int (oI x2), .int (oI x3), .int (oI x4), .int (oI x5), .int (oI 0), mUn, mUn]) (Nat.le_of_ble_eq_true rfl) rfl ?_
        refine s4 (x := 0) rfl ?_
        refine s67 (inRd rfl) (fun _ => ?_) (fun c14 => absurd (by decide) c14)
        exact hE
    · replace hE := hE.2 c4
      refine xG gb161.2.1 ?_
      refine s0 ?_
      refine s79 ?_
      refine xG gb161.2.2.1 ?_
      refine s7 (ls' := [.ref 70, .int (oI x1), .int (oI x2), .int (oI x3), .int (oI x4), .int (oI x5), .int (oI 0), mUn, mUn]) (Nat.le_of_ble_eq_true rfl) rfl ?_
      refine s4 (x := 0) rfl ?_
      refine s67 (inRd rfl) (fun _ => ?_) (fun c15 => absurd (by decide) c15)
      exact hE
  · replace hE := hE.2 c2
    refine xG gb161.2.1 ?_
    refine s0 ?_
    refine s79 ?_
    refine xG gb161.2.2.1 ?_
    refine s7 (ls' := [.ref 70, .int (oI x1), .int (oI x2), .int (oI x3), .int (oI x4), .int (oI x5), .int (oI 0), mUn, mUn]) (Nat.le_of_ble_eq_true rfl) rfl ?_
    refine s4 (x := 0) rfl ?_
    refine s67 (inRd rfl) (fun _ => ?_) (fun c16 => absurd (by decide) c16)
    exact hE
section
variable {d L : Nat} {I I0 : mI} {R : mR} {S : mSh} {Q : Option Value → mM → Prop} {A : aS} {c day known kind half year subj code : Int}
/-- what is reckoned of the children ahead of k -/
def GaC (A : aS) (I : mI) (school year code kn : Int) (k : Nat) : Prop := (ld I 70 15 = school ∧ ld I 70 16 = year ∧ ld I 70 17 = code) ∧ (WnP I (100 * year) (100 * year + 99) kn ∧ ShP A I (100 * year) (100 * year + 99) kn) ∧ ld I 70 11 = opS A school year kn ∧ ld I 70 12 = puL A school year kn k ∧ ∀ j : Nat, j < k → ld I 75 j = stS A j year kn ∧ ld I 76 j = (if onS A j (100 * year + 99) kn = school then 1 else 0) ∧ (onS A j (100 * year + 99) kn = school → ld I 74 j = yrS A j year code (stS A j year kn) kn)
theorem l162 {sc kn : Int} (hW : WfA A) (hP : WfP A) (hWC : WfC A) (hs : 0 ≤ sc ∧ sc < 6) (hy : 0 ≤ year ∧ year ≤ 7) (hcd : 0 ≤ code ∧ code ≤ 7) (hkn : 0 ≤ kn ∧ kn ≤ 799) (hK : ∀ I1, Fr [60, 61, 62, 63, 64, 65, 66, 67, 69, 74, 75, 76] [(59, 16), (70, 12)] I0 I1 → RC R S I1 A → GaC A I1 sc year code kn (A 91 1).toNat → Q none (bd L (u2 I1 70 10 (oI (avS A sc year code kn))) R S)) : ∀ (n k : Nat) (I : mI), k + n = (A 91 1).toNat → Fr [60, 61, 62, 63, 64, 65, 66, 67, 69, 74, 75, 76] [(59, 16), (70, 12)] I0 I → RC R S I A → GaC A I sc year code kn k → h162_1 (d + 28) L I R S Q (suL A sc year code kn k) k := by
  have h40 := hW.2.1
  have ow := opL_in (A := A) (year := year) (known := kn) (school := sc) 100
  have ow2 : 0 ≤ opS A sc year kn ∧ opS A sc year kn ≤ 100 := ow
  intro n
  induction n with
  | zero =>
    intro k I hk hf hC hg
    have su := suL_in hWC (year := year) (code := code) (known := kn) (school := sc) k
    have hk2 := hK I hf hC (by rw [← show k = (A 91 1).toNat by omega]; exact hg)
    unfold avS at hk2
    rw [← show k = (A 91 1).toNat by omega] at hk2
    refine e162_1 (d := d) hC ?_
    rw [hg.2.2.1]
    refine ⟨by unfold inR; omega, fun q => by exfalso; omega, fun _ => ⟨fun q => ?_, fun q => ⟨?_, by unfold inR; omega, by omega, ?_⟩⟩⟩
    · rw [if_pos q] at hk2; exact hk2
    · have hm : 4 * opS A sc year kn * (k : Int) ≤ 4 * 100 * 40 := Int.mul_le_mul (by omega) (by omega) (by omega) (by omega)
      unfold inR; omega
    · rw [if_neg q] at hk2; exact hk2
  | succ n ih =>
    intro k I hk hf hC hg
    obtain ⟨⟨g15, g16, g17⟩, ⟨gw, gs⟩, g11, g12, gj⟩ := hg
    have hkc : (0 : Int) ≤ k ∧ (k : Int) < A 91 1 := by omega
    have si := stS_in hP hkc (year := year) (known := kn)
    have rs : inR (stS A k year kn) := by unfold inR; omega
    have ey : year * 100 + 100 - 1 = 100 * year + 99 := by omega
    refine e162_1 (d := d) hC ?_
    rw [g16, gw.2.2, Int.toNat_natCast]
    refine ⟨by unfold inR; omega, fun _ => ⟨hW, hP, hWC, hkc, hy, hkn, fun I9 f9 st9 => ⟨by omega, _, _, _, ?_, (gw.fr f9 rfl rfl rfl).fr (frA _ 75 k _) rfl rfl rfl, fun I18 f18 c18 l18 => ?_⟩⟩, fun q => by exfalso; omega⟩
    · unfold WnOk; omega
    · have f19 : Fr [60, 61, 62, 63, 64, 65, 66, 67, 69, 74, 75, 76] [(59, 16), (70, 12)] I I18 := ((f9.sub rfl rfl).wr rfl).trans (f18.sub rfl rfl)
      have w18 : WnP I18 (100 * year) (100 * year + 99) kn := ((gw.fr f9 rfl rfl rfl).fr (frA _ 75 k _) rfl rfl rfl).fr f18 rfl rfl rfl
      have s18 : ShP A I18 (100 * year) (100 * year + 99) kn := ((gs.fr f9 (fun _ => rfl)).fr (frA _ 75 k _) (fun _ => rfl)).fr f18 (fun _ => rfl)
      have h15 : ld I18 70 15 = sc := by rw [f19.ld rfl]; exact g15
      have h16 : ld I18 70 16 = year := by rw [f19.ld rfl]; exact g16
      have h17 : ld I18 70 17 = code := by rw [f19.ld rfl]; exact g17
      have h12 : ld I18 70 12 = puL A sc year kn k := by rw [f18.ld rfl, ld_o (by decide), f9.ld rfl]; exact g12
      have h75 : ∀ j : Nat, ld I18 75 j = if j = k then stS A k year kn else ld I 75 j := fun j => by rw [f18.ld rfl, ld_w rs, f9.ld rfl]
      have h74 : ∀ j : Nat, ld I18 74 j = ld I 74 j := fun j => by rw [f18.ld rfl, ld_o (by decide), f9.ld rfl]
      have h76 : ∀ j : Nat, ld I18 76 j = ld I 76 j := fun j => by rw [f18.ld rfl, ld_o (by decide), f9.ld rfl]
      have h69 : ld I18 69 year.toNat = stS A k year kn := by
        rw [f18.ld rfl, ld_o (by decide), st9 year.toNat (by omega), show ((year.toNat : Nat) : Int) = year by omega]
      have on := (l18 99 (by omega)).1
      have on : ld I18 62 99 = onS A k (100 * year + 99) kn := on
      have rg : RgP A I18 k (100 * year) (100 * year + 99) kn := ⟨by unfold WnOk; omega, w18, s18, l18, c18⟩
      have hC18 := (((hC.fr f9 rfl).scr (a := 75) (k := k) (x := oI (stS A k year kn)) rfl).fr f18 rfl)
      rw [h16, h15, h17, w18.1, w18.2.1, ey, show (100 * year + 99 - 100 * year).toNat = 99 by omega, on]
      refine ⟨by unfold inR; omega, fun _ => ⟨by omega, ite_01 (Or.inr rfl) (Or.inl rfl), hcd, (k : Int), year, kn, stS A k year kn, rg.fr (frA _ 76 k _) rfl rfl rfl rfl (fun _ => rfl) (fun _ => ⟨rfl, rfl, rfl, rfl, rfl⟩), hkc, hy, by rw [ld_o (by decide)]; exact h69, fun I36 f36 => ?_⟩, fun q => by exfalso; omega⟩
      have ri : inR (if onS A k (100 * year + 99) kn = sc then (1 : Int) else 0) := ite_in (inRd rfl) (inRd rfl)
      have f37 : Fr [60, 61, 62, 63, 64, 65, 66, 67, 69, 74, 75, 76] [(59, 16), (70, 12)] I I36 := (f19.wr rfl).trans (f36.sub rfl rfl)
      have r36 : RgP A I36 k (100 * year) (100 * year + 99) kn := (rg.fr (frA _ 76 k _) rfl rfl rfl rfl (fun _ => rfl) (fun _ => ⟨rfl, rfl, rfl, rfl, rfl⟩)).f60 f36
      have k76 : ∀ j : Nat, ld I36 76 j = if j = k then (if onS A k (100 * year + 99) kn = sc then 1 else 0) else ld I 76 j := fun j => by rw [f36.ld rfl, ld_w ri, h76]
      have k75 : ∀ j : Nat, ld I36 75 j = if j = k then stS A k year kn else ld I 75 j := fun j => by rw [f36.ld rfl, ld_o (by decide), h75]
      have k74 : ∀ j : Nat, ld I36 74 j = ld I 74 j := fun j => by rw [f36.ld rfl, ld_o (by decide), h74]
      have k12 : ld I36 70 12 = puL A sc year kn k := by rw [f36.ld rfl, ld_o (by decide), h12]
      have k17 : ld I36 70 17 = code := by rw [f37.ld rfl]; exact g17
      have k69 : ld I36 69 year.toNat = stS A k year kn := by rw [f36.ld rfl, ld_o (by decide), h69]
      have hC36 : RC R S I36 A := (hC18.scr rfl).fr f36 rfl
      have eu : puL A sc year kn (k + 1) = puL A sc year kn k + (if onS A k (100 * year + 99) kn = sc then 1 else 0) := rfl
      have pu : 0 ≤ puL A sc year kn k ∧ puL A sc year kn k ≤ k := by
        have : ∀ j : Nat, 0 ≤ puL A sc year kn j ∧ puL A sc year kn j ≤ j := by
          intro j
          induction j with
          | zero => show (0 : Int) ≤ 0 ∧ (0 : Int) ≤ ((0 : Nat) : Int); omega
          | succ j ihj => show 0 ≤ puL A sc year kn j + (if onS A j (100 * year + 99) kn = sc then 1 else 0) ∧ puL A sc year kn j + (if onS A j (100 * year + 99) kn = sc then 1 else 0) ≤ ((j + 1 : Nat) : Int); split <;> omega
        exact this k
      have es : suL A sc year code kn (k + 1) = suL A sc year code kn k + saL A sc k year code (stS A k year kn) kn 100 := rfl
      rw [k76 k, if_pos rfl, k17]
      refine ⟨fun q => ?_, fun q => ⟨hcd, (k : Int), year, kn, stS A k year kn, r36.fr (fr1 _ 70 12 _) rfl rfl rfl rfl (fun _ => rfl) (fun _ => ⟨rfl, rfl, rfl, rfl, rfl⟩), hkc, hy, by rw [ld_o (by decide)]; exact k69, fun I48 f48 => ?_⟩⟩
      · have hno : ¬ onS A k (100 * year + 99) kn = sc := fun e => by rw [if_pos e] at q; omega
        have := ih (k + 1) I36 (by omega) (hf.trans f37) hC36 ⟨⟨by rw [f37.ld rfl]; exact g15, by rw [f37.ld rfl]; exact g16, k17⟩, ⟨r36.2.1, r36.2.2.1⟩, by rw [f37.ld rfl]; exact g11, by rw [k12, eu, if_neg hno, Int.add_zero], fun j hj => ?_⟩
        · rw [es, show ((k + 1 : Nat) : Int) = (k : Int) + 1 by omega] at this; exact this
        · rw [k75, k76, k74]
          by_cases e : j = k
          · subst e
            rw [if_pos rfl, if_pos rfl]
            exact ⟨rfl, rfl, fun h => absurd h hno⟩
          · rw [if_neg e, if_neg e]; exact gj j (by omega)
      · have hyes : onS A k (100 * year + 99) kn = sc := Classical.byContradiction (fun e => q (by rw [if_neg e]))
        have hC48 : RC R S I48 A := (hC36.scr rfl).fr f48 rfl
        have f49 : Fr [60, 61, 62, 63, 64, 65, 66, 67, 69, 74, 75, 76] [(59, 16), (70, 12)] I I48 := (f37.wr rfl).trans (f48.sub rfl rfl)
        have yi := yhS_in hWC (c := (k : Int)) (year := year) (code := code) (known := kn) (std := stS A k year kn) 200 (Nat.le_refl _)
        have ry : inR (yrS A k year code (stS A k year kn) kn) := by
          have e9 : yhS A k year code (stS A k year kn) kn 200 = yrS A k year code (stS A k year kn) kn := by unfold yhS; rw [if_neg (by decide), Int.add_zero]; rfl
          rw [e9] at yi; unfold inR; omega
        have rp : inR (puL A sc year kn k + 1) := by unfold inR; omega
        have f50 : Fr [60, 61, 62, 63, 64, 65, 66, 67, 69, 74, 75, 76] [(59, 16), (70, 12)] I (u2 I48 74 k (oI (yrS A k year code (stS A k year kn) kn))) := f49.wr rfl
        have r48 : RgP A I48 k (100 * year) (100 * year + 99) kn := (r36.fr (fr1 _ 70 12 _) rfl rfl rfl rfl (fun _ => rfl) (fun _ => ⟨rfl, rfl, rfl, rfl, rfl⟩)).f60 f48
        have := ih (k + 1) (u2 I48 74 k (oI (yrS A k year code (stS A k year kn) kn))) (by omega) (hf.trans f50) (hC48.scr rfl) ⟨⟨by rw [f50.ld rfl]; exact g15, by rw [f50.ld rfl]; exact g16, by rw [f50.ld rfl]; exact g17⟩, ⟨r48.2.1.fr (frA _ 74 k _) rfl rfl rfl, r48.2.2.1.fr (frA _ 74 k _) (fun _ => rfl)⟩, by rw [f50.ld rfl]; exact g11, ?_, fun j hj => ?_⟩
        · rw [es, show ((k + 1 : Nat) : Int) = (k : Int) + 1 by omega] at this; exact this
        · rw [ld_o (by decide), f48.ld rfl, k12, ld_w rp, if_pos rfl, eu, if_pos hyes]
        · rw [ld_o (a := 74) (b := 75) (by decide), ld_o (a := 74) (b := 76) (by decide), ld_w ry, f48.ld rfl, f48.ld rfl, ld_o (by decide), ld_o (by decide), k75, k76]
          by_cases e : j = k
          · subst e
            rw [if_pos rfl, if_pos rfl, if_pos rfl]
            exact ⟨rfl, rfl, fun _ => rfl⟩
          · rw [if_neg e, if_neg e, if_neg e, f48.ld rfl, ld_o (by decide), k74]; exact gj j (by omega)
theorem k162 {sc kn : Int} {K : mM → Prop} (hC : RC R S I A) (hW : WfA A) (hP : WfP A) (hWC : WfC A) (hs : 0 ≤ sc ∧ sc < 6) (hy : 0 ≤ year ∧ year ≤ 7) (hcd : 0 ≤ code ∧ code ≤ 7) (hkn : 0 ≤ kn ∧ kn ≤ 799) (h15 : ld I 70 15 = sc) (h16 : ld I 70 16 = year) (h17 : ld I 70 17 = code) (h18 : ld I 70 18 = kn) (hK : ∀ I1, Fr [60, 61, 62, 63, 64, 65, 66, 67, 68, 69, 74, 75, 76] [(59, 13), (59, 14), (59, 15), (59, 16), (70, 10), (70, 11), (70, 12)] I I1 → RC R S I1 A → GaC A I1 sc year code kn (A 91 1).toNat → ld I1 70 10 = avS A sc year code kn → K (bd L I1 R S)) : CallV (d + 28) 162 [.ref 70] (bd L I R S) K := by
  have ow := opL_in (A := A) (year := year) (known := kn) (school := sc) 100
  have ow2 : 0 ≤ opS A sc year kn ∧ opS A sc year kn ≤ 100 := ow
  have ai := avS_in hW hWC (school := sc) (year := year) (code := code) (known := kn)
  have ra : inR (avS A sc year code kn) := by unfold inR; omega
  refine e162 (d := d + 24) hC ?_
  rw [h16, h18]
  refine ⟨hW, by unfold WnOk; omega, fun I3 f3 w3 s3 => ?_⟩
  have e1 : year * 100 + 100 - 1 = 100 * year + 99 := by omega
  have e2 : year * 100 = 100 * year := by omega
  rw [e1, e2] at w3 s3
  rw [f3.ld rfl, h15]
  refine ⟨hs, year, kn, hy, w3, s3, ?_⟩
  have ro : inR (opS A sc year kn) := by unfold inR; omega
  have f4 : Fr [60, 61, 62, 63, 64, 65, 66, 67, 68, 69, 74, 75, 76] [(59, 13), (59, 14), (59, 15), (59, 16), (70, 10), (70, 11), (70, 12)] I (u2 (u2 I3 70 11 (oI (opS A sc year kn))) 70 12 (oI 0)) := ((f3.sub rfl rfl).wr rfl).wr rfl
  refine l162 (d := d) (I0 := u2 (u2 I3 70 11 (oI (opS A sc year kn))) 70 12 (oI 0)) hW hP hWC hs hy hcd hkn (fun I1 f1 hC1 hg => rqV_of (hK _ ((f4.trans (f1.sub rfl rfl)).wr rfl) (hC1.scr rfl) ?_ ?_)) (A 91 1).toNat 0 _ (by omega) (Fr.refl _ _ _) (((hC.fr f3 rfl).scr rfl).scr rfl) ⟨⟨?_, ?_, ?_⟩, ⟨(w3.fr (fr1 _ 70 11 _) rfl rfl rfl).fr (fr1 _ 70 12 _) rfl rfl rfl, (s3.fr (fr1 _ 70 11 _) (fun _ => rfl)).fr (fr1 _ 70 12 _) (fun _ => rfl)⟩, ?_, ?_, fun j hj => by omega⟩
  · have fx : Fr [] [(70, 10)] I1 (u2 I1 70 10 (oI (avS A sc year code kn))) := fr1 _ _ _ _
    obtain ⟨⟨g15, g16, g17⟩, ⟨gw, gs⟩, g11, g12, gj⟩ := hg
    exact ⟨⟨by rw [fx.ld rfl]; exact g15, by rw [fx.ld rfl]; exact g16, by rw [fx.ld rfl]; exact g17⟩, ⟨gw.fr fx rfl rfl rfl, gs.fr fx (fun _ => rfl)⟩, by rw [fx.ld rfl]; exact g11, by rw [fx.ld rfl]; exact g12, fun j hj => by rw [fx.ld rfl, fx.ld rfl, fx.ld rfl]; exact gj j hj⟩
  · rw [ld_w ra, if_pos rfl]
  · rw [ld_w (inRd rfl), if_neg (by decide), ld_w ro, if_neg (by decide), f3.ld rfl]; exact h15
  · rw [ld_w (inRd rfl), if_neg (by decide), ld_w ro, if_neg (by decide), f3.ld rfl]; exact h16
  · rw [ld_w (inRd rfl), if_neg (by decide), ld_w ro, if_neg (by decide), f3.ld rfl]; exact h17
  · rw [ld_w (inRd rfl), if_neg (by decide), ld_w ro, if_pos rfl]
  · rw [ld_w (inRd rfl), if_pos rfl]; rfl
end
