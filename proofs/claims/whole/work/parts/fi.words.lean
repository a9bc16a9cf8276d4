set_option maxRecDepth 4000 in
theorem e42 {d L : Nat} {I : Nat → Nat → Int32} {R : Nat → Nat → Option Nat} {S : List (Nat × Nat)} {K : mM → Prop}   (hE : CallI d 128 [.ref 53] (bd L I R S) (fun y s => ∃ (y2 : Int) (I1 : mI), y = oI y2 ∧ s = bd L I1 R S ∧ inR y2 ∧ (((y2 = 0) → K (bd L I1 R S)) ∧ (¬ (y2 = 0) → CallI d 128 [.ref 53] (bd L I1 R S) (fun y s => ∃ (y5 : Int) (I4 : mI), y = oI y5 ∧ s = bd L I4 R S ∧ inR y5 ∧ (CallI d 129 [.ref 53, .int (oI (y5 - 1))] (bd L I4 R S) (fun y s => ∃ (y7 : Int) (I6 : mI), y = oI y7 ∧ s = bd L I6 R S ∧ inR y7 ∧ (((97 ≤ y7 ∧ y7 ≤ 122) → CallR d 130 [.ref 53, .int (oI 32)] (bd L I6 R S) (fun o13 s => ∃ (I10 : mI) (R11 : mR) (S12 : mSh), s = bd L I10 R11 S12 ∧ (K (bd L I10 R11 S12)))) ∧ (¬ (97 ≤ y7 ∧ y7 ≤ 122) → ((48 ≤ y7 ∧ y7 ≤ 57) → CallR d 130 [.ref 53, .int (oI 32)] (bd L I6 R S) (fun o20 s => ∃ (I17 : mI) (R18 : mR) (S19 : mSh), s = bd L I17 R18 S19 ∧ (K (bd L I17 R18 S19)))) ∧ (¬ (48 ≤ y7 ∧ y7 ≤ 57) → K (bd L I6 R S))))))))))) : CallV (d + 1) 42 [.ref 53] (bd L I R S) K := by
  refine cV_of (ls := [.ref 53, mUn]) rfl ?_
  refine xG gb42.1 ?_
  refine s6 (p := 53) rfl ?_
  refine sI rc128 rfl (Nat.le_of_ble_eq_true rfl) ?_
  refine CallI.mono hE ?_
  rintro _ _ ⟨y2, I1, rfl, rfl, gy2, hE⟩
  refine s68 gy2 (fun c3 => ?_) (fun c3 => ?_)
  · replace hE := hE.1 c3
    refine s83 ?_
    exact rqV_of hE
  · replace hE := hE.2 c3
    refine xG gb42.2.1 ?_
    refine s6 (p := 53) rfl ?_
    refine s6 (p := 53) rfl ?_
    refine sI rc128 rfl (Nat.le_of_ble_eq_true rfl) ?_
    refine CallI.mono hE ?_
    rintro _ _ ⟨y5, I4, rfl, rfl, gy5, hE⟩
    refine s0 ?_
    refine s17 ?_
    refine sI rc129 rfl (Nat.le_of_ble_eq_true rfl) ?_
    refine CallI.mono hE ?_
    rintro _ _ ⟨y7, I6, rfl, rfl, gy7, hE⟩
    refine s7 (ls' := [.ref 53, .int (oI y7)]) (Nat.le_of_ble_eq_true rfl) rfl ?_
    refine s4 (x := y7) rfl ?_
    refine sI rc39 rfl (Nat.le_of_ble_eq_true rfl) ?_
    refine k39 gy7 (fun c8 => ?_) (fun c8 => ?_)
    · replace hE := hE.1 c8
      refine s68 (inRd rfl) (fun c9 => absurd c9 (by decide)) (fun _ => ?_)
      refine xG gb42.2.2.1 ?_
      refine s6 (p := 53) rfl ?_
      refine s0 ?_
      refine sR rc130 rfl (Nat.le_of_ble_eq_true rfl) ?_
      refine CallR.mono hE ?_
      rintro o13 _ ⟨I10, R11, S12, rfl, hE⟩
      refine s12o ?_
      refine s79 ?_
      refine xG gb42.2.2.2 ?_
      refine s83 ?_
      exact rqV_of hE
    · replace hE := hE.2 c8
      refine s68 (inRd rfl) (fun _ => ?_) (fun c14 => absurd (by decide) c14)
      refine s4 (x := y7) rfl ?_
      refine sI rc40 rfl (Nat.le_of_ble_eq_true rfl) ?_
      refine k40 gy7 (fun c15 => ?_) (fun c15 => ?_)
      · replace hE := hE.1 c15
        refine s67 (inRd rfl) (fun c16 => absurd c16 (by decide)) (fun _ => ?_)
        refine s79 ?_
        refine xG gb42.2.2.1 ?_
        refine s6 (p := 53) rfl ?_
        refine s0 ?_
        refine sR rc130 rfl (Nat.le_of_ble_eq_true rfl) ?_
        refine CallR.mono hE ?_
        rintro o20 _ ⟨I17, R18, S19, rfl, hE⟩
        refine s12o ?_
        refine s79 ?_
        refine xG gb42.2.2.2 ?_
        refine s83 ?_
        exact rqV_of hE
      · replace hE := hE.2 c15
        refine s67 (inRd rfl) (fun _ => ?_) (fun c21 => absurd (by decide) c21)
        refine xG gb42.2.2.2 ?_
        refine s83 ?_
        exact rqV_of hE
def h41_3 (d L : Nat) (I : Nat → Nat → Int32) (R : Nat → Nat → Option Nat) (S : List (Nat × Nat)) (Q : Option Value → mM → Prop) (w1 : Value) (x2 : Int) (x3 : Int) : Prop := Wp d (gb 41 3) [.ref 53, w1, .int (oI x2), .int (oI x3)] [] (bd L I R S) Q
set_option maxRecDepth 4000 in
theorem e41_3 {d L : Nat} {I : Nat → Nat → Int32} {R : Nat → Nat → Option Nat} {S : List (Nat × Nat)} {Q : Option Value → mM → Prop}  {w1 : Value} {x2 : Int} {x3 : Int} (hE : inR x3 ∧ (inR (x2 + 8) ∧ (((x3 < x2 + 8) → CallI d 202 [.ref 2, .int (oI x3)] (bd L I R S) (fun y s => ∃ (y5 : Int) (I4 : mI), y = oI y5 ∧ s = bd L I4 R S ∧ inR y5 ∧ (((y5 = 32) → Q none (bd L I4 R S)) ∧ (¬ (y5 = 32) → CallI d 202 [.ref 2, .int (oI x3)] (bd L I4 R S) (fun y s => ∃ (y8 : Int) (I7 : mI), y = oI y8 ∧ s = bd L I7 R S ∧ inR y8 ∧ (CallR d 130 [.ref 53, .int (oI y8)] (bd L I7 R S) (fun o12 s => ∃ (I9 : mI) (R10 : mR) (S11 : mSh), s = bd L I9 R10 S11 ∧ (h41_3 (d + 1) L I9 R10 S11 Q w1 x2 (x3 + 1))))))))) ∧ (¬ (x3 < x2 + 8) → Q none (bd L I R S))))) : h41_3 (d + 1) L I R S Q w1 x2 x3 := by
  unfold h41_3
  refine xG gb41.2.2.2.1 ?_
  refine s4 (x := x3) rfl ?_
  refine s4 (x := x2) rfl ?_
  refine s0 ?_
  refine s16 ?_
  obtain ⟨g1, hE⟩ := hE
  obtain ⟨g2, hE⟩ := hE
  refine s64 g1 g2 (fun c3 => ?_) (fun c3 => ?_)
  · replace hE := hE.1 c3
    refine s56 ?_
    refine s4 (x := x3) rfl ?_
    refine sI rc202_2 rfl (Nat.le_of_ble_eq_true rfl) ?_
    refine CallI.mono hE ?_
    rintro _ _ ⟨y5, I4, rfl, rfl, gy5, hE⟩
    refine s0 ?_
    refine s61 gy5 (inRd rfl) (fun c6 => ?_) (fun c6 => ?_)
    · replace hE := hE.1 c6
      refine xG gb41.2.2.2.2 ?_
      refine s83 ?_
      exact hE
    · replace hE := hE.2 c6
      refine s6 (p := 53) rfl ?_
      refine s56 ?_
      refine s4 (x := x3) rfl ?_
      refine sI rc202_2 rfl (Nat.le_of_ble_eq_true rfl) ?_
      refine CallI.mono hE ?_
      rintro _ _ ⟨y8, I7, rfl, rfl, gy8, hE⟩
      refine sR rc130 rfl (Nat.le_of_ble_eq_true rfl) ?_
      refine CallR.mono hE ?_
      rintro o12 _ ⟨I9, R10, S11, rfl, hE⟩
      refine s12o ?_
      refine s10 (x := x3) (ls' := [.ref 53, w1, .int (oI x2), .int (oI (x3 + 1))]) rfl rfl ?_
      refine s60 ?_
      exact hE
  · replace hE := hE.2 c3
    refine xG gb41.2.2.2.2 ?_
    refine s83 ?_
    exact hE
set_option maxRecDepth 4000 in
theorem e41 {d L : Nat} {I : Nat → Nat → Int32} {R : Nat → Nat → Option Nat} {S : List (Nat × Nat)} {K : mM → Prop}  {x1 : Int} (hE : CallV d 42 [.ref 53] (bd L I R S) (fun s => ∃ (I1 : mI) (R2 : mR) (S3 : mSh), s = bd L I1 R2 S3 ∧ (inR ((x1 - 128) * 8) ∧ ((((x1 - 128) * 8 < 0) → K (bd L I1 R2 S3)) ∧ (¬ ((x1 - 128) * 8 < 0) → CallI d 200 [.ref 2] (bd L I1 R2 S3) (fun y s => ∃ (y7 : Int) (I6 : mI), y = oI y7 ∧ s = bd L I6 R2 S3 ∧ inR y7 ∧ (inR (((x1 - 128) * 8) + 8) ∧ (((y7 < ((x1 - 128) * 8) + 8) → K (bd L I6 R2 S3)) ∧ (¬ (y7 < ((x1 - 128) * 8) + 8) → h41_3 (d + 1) L I6 R2 S3 (rqV K) (.int (oI x1)) ((x1 - 128) * 8) ((x1 - 128) * 8)))))))))) : CallV (d + 1) 41 [.ref 53, .int (oI x1)] (bd L I R S) K := by
  refine cV_of (ls := [.ref 53, .int (oI x1), mUn, mUn]) rfl ?_
  refine xG gb41.1 ?_
  refine s6 (p := 53) rfl ?_
  refine sV rc42 rfl (Nat.le_of_ble_eq_true rfl) ?_
  refine CallV.mono hE ?_
  rintro _ ⟨I1, R2, S3, rfl, hE⟩
  refine s4 (x := x1) rfl ?_
  refine s0 ?_
  refine s17 ?_
  refine s0 ?_
  refine s18 ?_
  refine s7 (ls' := [.ref 53, .int (oI x1), .int (oI ((x1 - 128) * 8)), mUn]) (Nat.le_of_ble_eq_true rfl) rfl ?_
  refine s4 (x := (x1 - 128) * 8) rfl ?_
  obtain ⟨g4, hE⟩ := hE
  refine s69 g4 (fun c5 => ?_) (fun c5 => ?_)
  · replace hE := hE.1 c5
    refine xG gb41.2.1 ?_
    refine s83 ?_
    exact rqV_of hE
  · replace hE := hE.2 c5
    refine s4 (x := (x1 - 128) * 8) rfl ?_
    refine s0 ?_
    refine s16 ?_
    refine s56 ?_
    refine sI rc200_2 rfl (Nat.le_of_ble_eq_true rfl) ?_
    refine CallI.mono hE ?_
    rintro _ _ ⟨y7, I6, rfl, rfl, gy7, hE⟩
    obtain ⟨g8, hE⟩ := hE
    refine s66 g8 gy7 (fun c9 => ?_) (fun c9 => ?_)
    · replace hE := hE.1 c9
      refine s79 ?_
      refine xG gb41.2.1 ?_
      refine s83 ?_
      exact rqV_of hE
    · replace hE := hE.2 c9
      refine xG gb41.2.2.1 ?_
      refine s4 (x := (x1 - 128) * 8) rfl ?_
      refine s7 (ls' := [.ref 53, .int (oI x1), .int (oI ((x1 - 128) * 8)), .int (oI ((x1 - 128) * 8))]) (Nat.le_of_ble_eq_true rfl) rfl ?_
      refine s79 ?_
      exact hE
set_option maxRecDepth 4000 in
theorem e43 {d L : Nat} {I : Nat → Nat → Int32} {R : Nat → Nat → Option Nat} {S : List (Nat × Nat)} {K : mM → Prop}  {x1 : Int} (hE : CallV d 42 [.ref 53] (bd L I R S) (fun s => ∃ (I1 : mI) (R2 : mR) (S3 : mSh), s = bd L I1 R2 S3 ∧ (CallR d 131 [.ref 53, .int (oI x1)] (bd L I1 R2 S3) (fun o7 s => ∃ (I4 : mI) (R5 : mR) (S6 : mSh), s = bd L I4 R5 S6 ∧ (K (bd L I4 R5 S6)))))) : CallV (d + 1) 43 [.ref 53, .int (oI x1)] (bd L I R S) K := by
  refine cV_of (ls := [.ref 53, .int (oI x1)]) rfl ?_
  refine xG gb43 ?_
  refine s6 (p := 53) rfl ?_
  refine sV rc42 rfl (Nat.le_of_ble_eq_true rfl) ?_
  refine CallV.mono hE ?_
  rintro _ ⟨I1, R2, S3, rfl, hE⟩
  refine s6 (p := 53) rfl ?_
  refine s4 (x := x1) rfl ?_
  refine sR rc131 rfl (Nat.le_of_ble_eq_true rfl) ?_
  refine CallR.mono hE ?_
  rintro o7 _ ⟨I4, R5, S6, rfl, hE⟩
  refine s12o ?_
  refine s83 ?_
  exact rqV_of hE
set_option maxRecDepth 4000 in
theorem e132 {d L : Nat} {I : Nat → Nat → Int32} {R : Nat → Nat → Option Nat} {S : List (Nat × Nat)} {K : Option Nat → mM → Prop}   (hE : ∀ (p1 : Nat) (I2 : mI) (R3 : mR) (S4 : mSh), (AlC 17 4 I R S p1 I2 R3 S4) → (∃ (b6 m7 : Nat), (R3 53 0 = some b6) ∧ arB S4 b6 m7 ∧ (CallI d 128 [.ref 53] (bd L I2 R3 S4) (fun y s => ∃ (y11 : Int) (I10 : mI), y = oI y11 ∧ s = bd L I10 R3 S4 ∧ inR y11 ∧ (((ld I10 53 1 = 0) → CallR d 352 [.ref b6, .int (oI 0), .int (oI y11)] (bd L (u2 I10 p1 1 (oI 0)) R3 S4) (fun o18 s => ∃ (I15 : mI) (R16 : mR) (S17 : mSh), s = bd L I15 R16 S17 ∧ (obJ S17 p1 17 4 ∧ (K (some p1) (bd L I15 (u2 R16 p1 0 o18) S17))))) ∧ (¬ (ld I10 53 1 = 0) → ((ld I10 53 2 = 0) → CallR d 352 [.ref b6, .int (oI 0), .int (oI (iShl y11 1))] (bd L (u2 I10 p1 1 (oI 1)) R3 S4) (fun o26 s => ∃ (I23 : mI) (R24 : mR) (S25 : mSh), s = bd L I23 R24 S25 ∧ (obJ S25 p1 17 4 ∧ (K (some p1) (bd L I23 (u2 R24 p1 0 o26) S25))))) ∧ (¬ (ld I10 53 2 = 0) → False))))))) : CallR (d + 3) 132 [.ref 53] (bd L I R S) K := by
  refine cR_of (ls := [.ref 53]) rfl ?_
  refine xG gb132 ?_
  refine s58 rfl (fun p1 I2 R3 S4 a5 => ?_)
  replace hE := hE p1 I2 R3 S4 a5
  refine s13r ?_
  refine s6 (p := 53) rfl ?_
  refine sV (rcvO a5.ob rfl rfl) rfl (Nat.le_of_ble_eq_true rfl) ?_
  refine cV_of (ls := [.ref p1, .ref 53]) rfl ?_
  refine xG gb205 ?_
  refine s6 (p := p1) rfl ?_
  refine s6 (p := 53) rfl ?_
  refine s3 ?_
  refine sV (rcvO a5.ob rfl rfl) rfl (Nat.le_of_ble_eq_true rfl) ?_
  refine cV_of (ls := [.ref p1, .ref 53, .null, mUn, mUn]) rfl ?_
  refine xG gb206.1 ?_
  refine s6 (p := p1) rfl ?_
  refine s107 (Nat.le_of_ble_eq_true rfl) ?_
  refine s6 (p := 53) rfl ?_
  refine sR rc340 rfl (Nat.le_of_ble_eq_true rfl) ?_
  refine cR_of (ls := [.ref 53]) rfl ?_
  refine xG gb340 ?_
  refine s6 (p := 53) rfl ?_
  obtain ⟨b6, m7, k8, k9, hE⟩ := hE
  refine s51o (o := some b6) sh53 (by decide) (by decide) (rf53p.trans k8) ?_
  refine s82o (o := some b6) ?_
  refine rqR_of (x := (some b6)) ?_
  refine s9 (ls' := [.ref p1, .ref 53, .null, .ref b6, mUn]) (Nat.le_of_ble_eq_true rfl) rfl ?_
  refine s6 (p := 53) rfl ?_
  refine sI rc128 rfl (Nat.le_of_ble_eq_true rfl) ?_
  refine CallI.mono hE ?_
  rintro _ _ ⟨y11, I10, rfl, rfl, gy11, hE⟩
  refine s7 (ls' := [.ref p1, .ref 53, .null, .ref b6, .int (oI y11)]) (Nat.le_of_ble_eq_true rfl) rfl ?_
  refine s6 (p := 53) rfl ?_
  refine sI rc335 rfl (Nat.le_of_ble_eq_true rfl) ?_
  refine cI_of (ls := [.ref 53]) rfl ?_
  refine xG gb335.1 ?_
  refine s54 ?_
  refine s67 (inRd rfl) (fun c12 => absurd c12 (by decide)) (fun _ => ?_)
  refine s6 (p := 53) rfl ?_
  refine s50 (v := ld I10 53 1) sh53 (by decide) (by decide) (oI_ld _ _ _) ?_
  refine s68 (ld_inR _ _ _) (fun c13 => ?_) (fun c13 => ?_)
  · replace hE := hE.1 c13
    refine s0 ?_
    refine s60 ?_
    refine xG gb335.2.2 ?_
    refine s84 (by decide) ?_
    refine rqI_of ?_
    refine s67 (inRd rfl) (fun c14 => absurd c14 (by decide)) (fun _ => ?_)
    refine s6 (p := p1) rfl ?_
    refine s0 ?_
    refine s49 a5.ob.sh a5.ob.sp (by decide) (by decide) ?_
    refine s6 (p := p1) rfl ?_
    refine s6 (p := b6) rfl ?_
    refine s0 ?_
    refine s4 (x := y11) rfl ?_
    refine sR rc352 rfl (Nat.le_of_ble_eq_true rfl) ?_
    refine CallR.mono hE ?_
    rintro o18 _ ⟨I15, R16, S17, rfl, hE⟩
    obtain ⟨o19, hE⟩ := hE
    refine s53 (o := o18) o19.sh o19.sp (by decide) o19.zr ?_
    refine s60 ?_
    refine xG gb206.2.2.2 ?_
    refine s83 ?_
    refine rqV_of ?_
    refine s83 ?_
    refine rqV_of ?_
    refine s82o (o := some p1) ?_
    exact rqR_of (x := (some p1)) hE
  · replace hE := hE.2 c13
    refine xG gb335.2.1 ?_
    refine s0 ?_
    refine s79 ?_
    refine xG gb335.2.2 ?_
    refine s84 (by decide) ?_
    refine rqI_of ?_
    refine s67 (inRd rfl) (fun _ => ?_) (fun c20 => absurd (by decide) c20)
    refine xG gb206.2.1 ?_
    refine s54 ?_
    refine s67 (inRd rfl) (fun c21 => absurd c21 (by decide)) (fun _ => ?_)
    refine s6 (p := 53) rfl ?_
    refine s50 (v := ld I10 53 2) sh53 (by decide) (by decide) (oI_ld _ _ _) ?_
    refine s67 (ld_inR _ _ _) (fun c22 => ?_) (fun c22 => ?_)
    · replace hE := hE.1 c22
      refine xG gb206.2.2.1 ?_
      refine s6 (p := p1) rfl ?_
      refine s0 ?_
      refine s49 a5.ob.sh a5.ob.sp (by decide) (by decide) ?_
      refine s6 (p := p1) rfl ?_
      refine s6 (p := b6) rfl ?_
      refine s0 ?_
      refine s4 (x := y11) rfl ?_
      refine s0 ?_
      refine s22 ?_
      refine sR rc352 rfl (Nat.le_of_ble_eq_true rfl) ?_
      refine CallR.mono hE ?_
      rintro o26 _ ⟨I23, R24, S25, rfl, hE⟩
      obtain ⟨o27, hE⟩ := hE
      refine s53 (o := o26) o27.sh o27.sp (by decide) o27.zr ?_
      refine s79 ?_
      refine xG gb206.2.2.2 ?_
      refine s83 ?_
      refine rqV_of ?_
      refine s83 ?_
      refine rqV_of ?_
      refine s82o (o := some p1) ?_
      exact rqR_of (x := (some p1)) hE
    · replace hE := hE.2 c22
      exact hE.elim
section
variable {d L : Nat} {I I1 I2 : mI} {R R1 R2 : mR} {S S1 S2 : mSh} {bs : List Int} {n n1 n2 b k e i : Nat} {x c v : Int} {K : mM → Prop}
def lst (bs : List Int) : Bool := match bs.getLast? with
  | some c => decide ((97 ≤ c ∧ c ≤ 122) ∨ (48 ≤ c ∧ c ≤ 57))
  | none => false
theorem lst_app {a b : List Int} (hb : ¬ b = []) : lst (a ++ b) = lst b := by
  unfold lst
  rw [List.getLast?_append]
  cases h : b.getLast? with
  | none => exact absurd (List.getLast?_eq_none_iff.mp h) hb
  | some c => rfl
def wdL (i : Nat) : List Int := (List.range (wl i)).map (fun j => wW (8 * i + j))
theorem wdL_len : (wdL i).length = wl i := by unfold wdL; rw [List.length_map, List.length_range]
theorem wdL_at {j : Nat} (h : j < wl i) : (wdL i)[j]? = some (wW (8 * i + j)) := by
  unfold wdL
  rw [List.getElem?_map, List.getElem?_range h]; rfl
theorem wB_t : ∀ i, i < 41 → wB (wc i) = wdL i := by decide +kernel
theorem lst_w : ∀ i, i < 41 → lst (wdL i) = true ∧ ¬ wdL i = [] := by decide +kernel
theorem lst_d (hv : 0 ≤ v ∧ v ≤ 9999) : lst (dB v) = true ∧ ¬ dB v = [] := by
  have hp := dB_pos (v := v)
  have hne : ¬ dB v = [] := fun e => by rw [e] at hp; exact absurd hp (by decide)
  refine ⟨?_, hne⟩
  unfold lst
  cases h : (dB v).getLast? with
  | none => exact absurd (List.getLast?_eq_none_iff.mp h) hne
  | some c =>
    rw [List.getLast?_eq_getElem?] at h
    have := dB_in hv h
    exact decide_eq_true (Or.inr this)
theorem k42 (hp : PenS I R S bs n) (hl : bs.length ≤ 1900) (hK : ∀ I1 R1 S1 n1, Gp I R S I1 R1 S1 n n1 → PenS I1 R1 S1 (bs ++ gpB (lst bs)) n1 → K (bd L I1 R1 S1)) : CallV (d + 6) 42 [.ref 53] (bd L I R S) K := by
  have hlr : inR (bs.length : Int) := ⟨by omega, by omega⟩
  refine e42 (d := d + 5) (k128 (d := d + 4) hp ⟨_, I, rfl, rfl, hlr, fun c0 => ?_, fun c0 => k128 (d := d + 4) hp ⟨_, I, rfl, rfl, hlr, ?_⟩⟩)
  · have e : bs = [] := List.eq_nil_of_length_eq_zero (by omega)
    subst e
    exact hK I R S n (Gp.refl I R S n) hp
  · obtain ⟨c, hc⟩ : ∃ c, bs[bs.length - 1]? = some c := ⟨_, List.getElem?_eq_getElem (by omega)⟩
    have hr : 0 ≤ c ∧ c ≤ 127 := by
      obtain ⟨-, -, -, -, -, b, -, -, hv, hr⟩ := hp
      have h1 := hv _ _ hc
      have h2 := hr (bs.length - 1)
      rw [h1] at h2; exact h2
    have hls : lst bs = decide ((97 ≤ c ∧ c ≤ 122) ∨ (48 ≤ c ∧ c ≤ 57)) := by
      unfold lst
      rw [List.getLast?_eq_getElem?, hc]
    rw [show (bs.length : Int) - 1 = ((bs.length - 1 : Nat) : Int) by omega]
    have sp : ((97 ≤ c ∧ c ≤ 122) ∨ (48 ≤ c ∧ c ≤ 57)) → CallR (d + 5) 130 [.ref 53, .int (oI 32)] (bd L I R S) (fun _ s => ∃ (I10 : mI) (R11 : mR) (S12 : mSh), s = bd L I10 R11 S12 ∧ (K (bd L I10 R11 S12))) := fun h9 => by
      refine k130 hp hl (by decide) (fun I1 R1 S1 n1 g p1 => ⟨I1, R1, S1, rfl, hK I1 R1 S1 n1 g ?_⟩)
      rw [hls, decide_eq_true h9]
      exact p1
    refine k129 (d := d + 2) hp hc ⟨c, I, rfl, rfl, ⟨by omega, by omega⟩, fun c1 => sp (Or.inl c1), fun c1 => ⟨fun c2 => sp (Or.inr c2), fun c2 => hK I R S n (Gp.refl I R S n) ?_⟩⟩
    rw [hls, decide_eq_false (by omega)]
    show PenS I R S (bs ++ []) n
    rw [List.append_nil]; exact hp
theorem l41 {Q : Option Value → mM → Prop} {I0 : mI} {R0 : mR} {S0 : mSh} {n0 : Nat} (hi : i < 41) (hl : (bs ++ wdL i).length ≤ 1900) (hQ : ∀ I1 R1 S1 n1, Gp I0 R0 S0 I1 R1 S1 n0 n1 → PenS I1 R1 S1 (bs ++ wdL i) n1 → Q none (bd L I1 R1 S1)) : ∀ (g j : Nat) (I : mI) (R : mR) (S : mSh) (n : Nat) (w1 : Value), j + g = wl i → Gp I0 R0 S0 I R S n0 n → PenS I R S (bs ++ (wdL i).take j) n → h41_3 (d + 6) L I R S Q w1 (8 * (i : Int)) (8 * (i : Int) + (j : Int)) := by
  obtain ⟨t0, t⟩ := wW_t i hi
  intro g
  induction g with
  | zero =>
    intro j I R S n w1 hj hg hp
    obtain rfl : j = wl i := by omega
    have hp2 : PenS I R S (bs ++ wdL i) n := by rw [List.take_of_length_le (by rw [wdL_len]; exact Nat.le_refl _)] at hp; exact hp
    have hcs := hp.2.2.2.2.1.1
    refine e41_3 (d := d + 5) ⟨⟨by omega, by omega⟩, ⟨by omega, by omega⟩, fun c => ?_, fun c => hQ I R S n hg hp2⟩
    have hw := (t (wl i) (by omega)).2 (Nat.le_refl _)
    refine k202w (d := d + 2) hcs ⟨by omega, by omega⟩ ⟨32, I, ?_, rfl, inRd rfl, fun _ => hQ I R S n hg hp2, fun c => absurd rfl c⟩
    rw [show (8 * (i : Int) + ((wl i : Nat) : Int)).toNat = 8 * i + wl i by omega, hw]
  | succ g ih =>
    intro j I R S n w1 hj hg hp
    have hcs := hp.2.2.2.2.1.1
    have hw := (t j (by omega)).1 (by omega)
    have ix : (8 * (i : Int) + (j : Int)).toNat = 8 * i + j := by omega
    have hin : inR (wW (8 * i + j)) := ⟨by omega, by omega⟩
    have htl : ((wdL i).take j).length = j := by rw [List.length_take, wdL_len]; omega
    rw [List.length_append, wdL_len] at hl
    have cst : 8 * (i : Int) + (j : Int) + 1 = 8 * (i : Int) + ((j + 1 : Nat) : Int) := by omega
    refine e41_3 (d := d + 5) ⟨⟨by omega, by omega⟩, ⟨by omega, by omega⟩, fun c => ?_, fun c => absurd (by omega) c⟩
    refine k202w (d := d + 2) hcs ⟨by omega, by omega⟩ ⟨wW (8 * i + j), I, by rw [ix], rfl, hin, fun c => absurd c (by omega), fun _ => ?_⟩
    refine k202w (d := d + 2) hcs ⟨by omega, by omega⟩ ⟨wW (8 * i + j), I, by rw [ix], rfl, hin, ?_⟩
    refine k130 hp (by rw [List.length_append, htl]; omega) ⟨by omega, by omega⟩ (fun I1 R1 S1 n1 g1 p1 => ⟨I1, R1, S1, rfl, ?_⟩)
    rw [cst]
    refine ih (j + 1) I1 R1 S1 n1 _ (by omega) (hg.trans g1) ?_
    rw [List.take_succ, wdL_at (by omega), ← List.append_assoc]
    exact p1
theorem k41 (hi : i < 41) (hx : x = 128 + (i : Int)) (hp : PenS I R S bs n) (hl : (bs ++ (gpB (lst bs) ++ wB (wc i))).length ≤ 1900) (hK : ∀ I1 R1 S1 n1, Gp I R S I1 R1 S1 n n1 → PenS I1 R1 S1 (bs ++ (gpB (lst bs) ++ wB (wc i))) n1 → K (bd L I1 R1 S1)) : CallV (d + 7) 41 [.ref 53, .int (oI x)] (bd L I R S) K := by
  rw [wB_t i hi, ← List.append_assoc] at hl hK
  have e8 : (x - 128) * 8 = 8 * (i : Int) := by omega
  refine e41 (d := d + 6) (k42 (d := d) hp (by rw [List.length_append] at hl; rw [List.length_append] at hl; omega) (fun I1 R1 S1 n1 g1 p1 => ⟨I1, R1, S1, rfl, ?_⟩))
  rw [e8]
  refine ⟨⟨by omega, by omega⟩, fun c => absurd c (by omega), fun _ => ?_⟩
  refine k200w (d := d + 5) p1.2.2.2.2.1.1.1 ⟨328, I1, rfl, rfl, inRd rfl, ⟨by omega, by omega⟩, fun c => absurd c (by omega), fun _ => ?_⟩
  have := l41 (d := d + 1) (bs := bs ++ gpB (lst bs)) (L := L) hi hl (fun I2 R2 S2 n2 g2 p2 => rqV_of (hK I2 R2 S2 n2 (g1.trans g2) p2)) (wl i) 0 I1 R1 S1 n1 (.int (oI x)) (by omega) (Gp.refl I1 R1 S1 n1) (by rw [List.take_zero, List.append_nil]; exact p1)
  rw [show 8 * (i : Int) + ((0 : Nat) : Int) = 8 * (i : Int) by omega] at this
  exact this
theorem k43 (hv : 0 ≤ v ∧ v ≤ 9999) (hp : PenS I R S bs n) (hl : (bs ++ (gpB (lst bs) ++ dB v)).length ≤ 1900) (hK : ∀ I1 R1 S1 n1, Gp I R S I1 R1 S1 n n1 → PenS I1 R1 S1 (bs ++ (gpB (lst bs) ++ dB v)) n1 → K (bd L I1 R1 S1)) : CallV (d + 7) 43 [.ref 53, .int (oI v)] (bd L I R S) K := by
  rw [← List.append_assoc] at hl hK
  rw [List.length_append] at hl
  refine e43 (d := d + 6) (k42 (d := d) hp (by rw [List.length_append] at hl; omega) (fun I1 R1 S1 n1 g1 p1 => ⟨I1, R1, S1, rfl, ?_⟩))
  exact k131 (d := d + 1) p1 (by omega) hv (fun I2 R2 S2 n2 g2 p2 => ⟨I2, R2, S2, rfl, hK I2 R2 S2 n2 (g1.trans g2) p2⟩)
/-- the text, and what its making changes: two new cells -/
def Gt (I : mI) (R : mR) (S : mSh) (I1 : mI) (R1 : mR) (S1 : mSh) (m : Nat) : Prop := (∃ X : mSh, S1 = S ++ X ∧ X.length ≤ 2 ∧ slS X ≤ 4 + m) ∧ (∀ a k, a < 155 + S.length → I1 a k = I a k) ∧ ∀ a k, a < 155 + S.length → R1 a k = R a k
theorem k132 {K : Option Nat → mM → Prop} (hp : PenS I R S bs n) (hK : ∀ q I1 R1 S1, Gt I R S I1 R1 S1 bs.length → StrO R1 S1 I1 q bs → 155 + S.length ≤ q → K (some q) (bd L I1 R1 S1)) : CallR (d + 8) 132 [.ref 53] (bd L I R S) K := by
  obtain ⟨h1, h3, hln, h16, hcs, b, hb, ha, hbv, hr⟩ := hp
  have hn4 := ha.2
  have hblt := ha.lt
  refine e132 (d := d + 5) (fun q I2 R2 S2 hal => ?_)
  obtain ⟨a1, a2, a3, a4, a5⟩ := hal
  have ec : ∀ k, ld I2 53 k = ld I 53 k := fun k => by unfold ld; rw [(a5 53 k (by omega)).1]
  have ib : ∀ j, I2 b j = I b j := fun j => (a5 b j (by omega)).1
  have haS : arB S2 b n := by rw [a2]; exact ha.app
  refine ⟨b, n, (a5 53 0 (by omega)).2.trans hb, haS, ?_⟩
  have hp2 : PenS I2 R2 S2 bs n := ⟨(ec 1).trans h1, (ec 3).trans h3, hln, h16, hcs.ag (fun a k h9 => (a5 a k (by omega)).1), b, (a5 53 0 (by omega)).2.trans hb, haS, fun j v hj => by unfold ld; rw [ib j]; exact hbv j v hj, fun j => by unfold ld; rw [ib j]; exact hr j⟩
  refine k128 (d := d + 4) hp2 ⟨_, I2, rfl, rfl, ⟨by omega, by omega⟩, fun _ => ?_, fun c => absurd ((ec 1).trans h1) c⟩
  have hr2 : ∀ j : Nat, 0 ≤ ld (u2 I2 q 1 (oI 0)) b j ∧ ld (u2 I2 q 1 (oI 0)) b j ≤ 127 := fun j => by
    rw [ld_o (by omega)]; unfold ld; rw [ib j]; exact hr j
  refine k352 (d := d + 1) haS hr2 hln (fun p3 I3 R3 S3 b1 b2 b3 b4 b5 => ⟨I3, R3, S3, rfl, ?_, hK q I3 _ S3 ?_ ?_ (by omega)⟩)
  · rw [b2]
    exact obJ.app ⟨by omega, by rw [a1, a2, show 155 + S.length - 155 = S.length by omega, List.getElem?_append_right (Nat.le_refl _), Nat.sub_self]; rfl⟩
  · have hl2 : S2.length = S.length + 1 := by rw [a2, List.length_append]; rfl
    refine ⟨⟨[(17, 4), (1, bs.length)], by rw [b2, a2, List.append_assoc]; rfl, Nat.le_refl _, ?_⟩, fun a k ha9 => ?_, fun a k ha9 => ?_⟩
    · show 4 + (bs.length + 0) ≤ _; omega
    · rw [b4 a k (by omega), v2_ne (by omega)]; exact (a5 a k (by omega)).1
    · rw [v2_ne (by omega), b5 a k (by omega)]; exact (a5 a k (by omega)).2
  · have hl2 : S2.length = S.length + 1 := by rw [a2, List.length_append]; rfl
    have hob : obJ S3 q 17 4 := by
      rw [b2]
      exact obJ.app ⟨by omega, by rw [a1, a2, show 155 + S.length - 155 = S.length by omega, List.getElem?_append_right (Nat.le_refl _), Nat.sub_self]; rfl⟩
    refine ⟨hob, ?_, fun j v hj => hbv j v hj ▸ hr j, p3, v2_eq, ⟨by omega, ?_⟩, fun j v hj => ?_, ?_⟩
    · show (I3 q 1).toInt = 0
      rw [b4 q 1 (by omega), v2_eq]; rfl
    · rw [b2, b1, show 155 + S2.length - 155 = S2.length by omega, List.getElem?_append_right (Nat.le_refl _), Nat.sub_self]; rfl
    · have hjl : j < bs.length := by
        apply Classical.byContradiction
        intro h9
        rw [List.getElem?_eq_none (by omega)] at hj
        cases hj
      show (I3 p3 j).toInt = v
      rw [b3 j hjl, v2_ne (by omega), ib j]
      exact hbv j v hj
    · rw [v2_ne (by omega), b5 53 0 (by omega), (a5 53 0 (by omega)).2, hb]
      intro h9
      have := Option.some.inj h9
      omega
end
