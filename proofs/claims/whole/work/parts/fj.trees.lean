set_option maxRecDepth 4000 in
theorem e199 {d L : Nat} {I : Nat → Nat → Int32} {R : Nat → Nat → Option Nat} {S : List (Nat × Nat)} {K : mM → Prop}  {p0 : Nat} {p1 : Nat} {x3 : Int} (hE : obJ S p0 16 5 ∧ (((ld I p0 0 = 163) → obJ S p1 16 5 ∧ (((ld I p1 0 = 164) → CallR d 130 [.ref 53, .int (oI 40)] (bd L I R S) (fun o9 s => ∃ (I6 : mI) (R7 : mR) (S8 : mSh), s = bd L I6 R7 S8 ∧ (obJ S8 p0 16 5 ∧ (CallV d 198 [.ref p0, .ref 53, .int (oI x3)] (bd L I6 R7 S8) (fun s => ∃ (I11 : mI) (R12 : mR) (S13 : mSh), s = bd L I11 R12 S13 ∧ (CallR d 130 [.ref 53, .int (oI 41)] (bd L I11 R12 S13) (fun o18 s => ∃ (I15 : mI) (R16 : mR) (S17 : mSh), s = bd L I15 R16 S17 ∧ (K (bd L I15 R16 S17))))))))) ∧ (¬ (ld I p1 0 = 164) → ((ld I p1 0 = 165) → CallR d 130 [.ref 53, .int (oI 40)] (bd L I R S) (fun o25 s => ∃ (I22 : mI) (R23 : mR) (S24 : mSh), s = bd L I22 R23 S24 ∧ (obJ S24 p0 16 5 ∧ (CallV d 198 [.ref p0, .ref 53, .int (oI x3)] (bd L I22 R23 S24) (fun s => ∃ (I27 : mI) (R28 : mR) (S29 : mSh), s = bd L I27 R28 S29 ∧ (CallR d 130 [.ref 53, .int (oI 41)] (bd L I27 R28 S29) (fun o34 s => ∃ (I31 : mI) (R32 : mR) (S33 : mSh), s = bd L I31 R32 S33 ∧ (K (bd L I31 R32 S33))))))))) ∧ (¬ (ld I p1 0 = 165) → CallV d 198 [.ref p0, .ref 53, .int (oI x3)] (bd L I R S) (fun s => ∃ (I36 : mI) (R37 : mR) (S38 : mSh), s = bd L I36 R37 S38 ∧ (K (bd L I36 R37 S38))))))) ∧ (¬ (ld I p0 0 = 163) → ((ld I p0 0 = 164) → obJ S p1 16 5 ∧ (((ld I p1 0 = 165) → CallR d 130 [.ref 53, .int (oI 40)] (bd L I R S) (fun o48 s => ∃ (I45 : mI) (R46 : mR) (S47 : mSh), s = bd L I45 R46 S47 ∧ (obJ S47 p0 16 5 ∧ (CallV d 198 [.ref p0, .ref 53, .int (oI x3)] (bd L I45 R46 S47) (fun s => ∃ (I50 : mI) (R51 : mR) (S52 : mSh), s = bd L I50 R51 S52 ∧ (CallR d 130 [.ref 53, .int (oI 41)] (bd L I50 R51 S52) (fun o57 s => ∃ (I54 : mI) (R55 : mR) (S56 : mSh), s = bd L I54 R55 S56 ∧ (K (bd L I54 R55 S56))))))))) ∧ (¬ (ld I p1 0 = 165) → CallV d 198 [.ref p0, .ref 53, .int (oI x3)] (bd L I R S) (fun s => ∃ (I59 : mI) (R60 : mR) (S61 : mSh), s = bd L I59 R60 S61 ∧ (K (bd L I59 R60 S61)))))) ∧ (¬ (ld I p0 0 = 164) → CallV d 198 [.ref p0, .ref 53, .int (oI x3)] (bd L I R S) (fun s => ∃ (I64 : mI) (R65 : mR) (S66 : mSh), s = bd L I64 R65 S66 ∧ (K (bd L I64 R65 S66))))))) : CallV (d + 1) 199 [.ref p0, .ref p1, .ref 53, .int (oI x3)] (bd L I R S) K := by
  refine cV_of (ls := [.ref p0, .ref p1, .ref 53, .int (oI x3), mUn]) rfl ?_
  refine xG gb199.1 ?_
  refine s6 (p := p0) rfl ?_
  obtain ⟨o1, hE⟩ := hE
  refine s50 (v := ld I p0 0) o1.sh o1.sp (by decide) (oI_ld _ _ _) ?_
  refine s0 ?_
  refine s62 (ld_inR _ _ _) (inRd rfl) (fun c2 => ?_) (fun c2 => ?_)
  · replace hE := hE.1 c2
    refine s6 (p := p1) rfl ?_
    obtain ⟨o3, hE⟩ := hE
    refine s50 (v := ld I p1 0) o3.sh o3.sp (by decide) (oI_ld _ _ _) ?_
    refine s0 ?_
    refine s61 (ld_inR _ _ _) (inRd rfl) (fun c4 => ?_) (fun c4 => ?_)
    · replace hE := hE.1 c4
      refine xG gb199.2.2.2.1 ?_
      refine s0 ?_
      refine s60 ?_
      refine xG gb199.2.2.2.2.2.1 ?_
      refine s7 (ls' := [.ref p0, .ref p1, .ref 53, .int (oI x3), .int (oI 1)]) (Nat.le_of_ble_eq_true rfl) rfl ?_
      refine s4 (x := 1) rfl ?_
      refine s67 (inRd rfl) (fun c5 => absurd c5 (by decide)) (fun _ => ?_)
      refine s6 (p := 53) rfl ?_
      refine s0 ?_
      refine sR rc130 rfl (Nat.le_of_ble_eq_true rfl) ?_
      refine CallR.mono hE ?_
      rintro o9 _ ⟨I6, R7, S8, rfl, hE⟩
      refine s12o ?_
      refine s79 ?_
      refine xG gb199.2.2.2.2.2.2.1 ?_
      refine s6 (p := p0) rfl ?_
      refine s6 (p := 53) rfl ?_
      refine s4 (x := x3) rfl ?_
      obtain ⟨o10, hE⟩ := hE
      refine sV (rcvO o10 rfl rfl) rfl (Nat.le_of_ble_eq_true rfl) ?_
      refine CallV.mono hE ?_
      rintro _ ⟨I11, R12, S13, rfl, hE⟩
      refine s4 (x := 1) rfl ?_
      refine s67 (inRd rfl) (fun c14 => absurd c14 (by decide)) (fun _ => ?_)
      refine s6 (p := 53) rfl ?_
      refine s0 ?_
      refine sR rc130 rfl (Nat.le_of_ble_eq_true rfl) ?_
      refine CallR.mono hE ?_
      rintro o18 _ ⟨I15, R16, S17, rfl, hE⟩
      refine s12o ?_
      refine s79 ?_
      refine xG gb199.2.2.2.2.2.2.2 ?_
      refine s83 ?_
      exact rqV_of hE
    · replace hE := hE.2 c4
      refine s79 ?_
      refine xG gb199.2.1 ?_
      refine s6 (p := p0) rfl ?_
      refine s50 (v := ld I p0 0) o1.sh o1.sp (by decide) (oI_ld _ _ _) ?_
      refine s0 ?_
      refine s61 (ld_inR _ _ _) (inRd rfl) (fun _ => ?_) (fun c19 => absurd c2 c19)
      refine xG gb199.2.2.1 ?_
      refine s6 (p := p1) rfl ?_
      refine s50 (v := ld I p1 0) o3.sh o3.sp (by decide) (oI_ld _ _ _) ?_
      refine s0 ?_
      refine s62 (ld_inR _ _ _) (inRd rfl) (fun c20 => ?_) (fun c20 => ?_)
      · replace hE := hE.1 c20
        refine s79 ?_
        refine xG gb199.2.2.2.1 ?_
        refine s0 ?_
        refine s60 ?_
        refine xG gb199.2.2.2.2.2.1 ?_
        refine s7 (ls' := [.ref p0, .ref p1, .ref 53, .int (oI x3), .int (oI 1)]) (Nat.le_of_ble_eq_true rfl) rfl ?_
        refine s4 (x := 1) rfl ?_
        refine s67 (inRd rfl) (fun c21 => absurd c21 (by decide)) (fun _ => ?_)
        refine s6 (p := 53) rfl ?_
        refine s0 ?_
        refine sR rc130 rfl (Nat.le_of_ble_eq_true rfl) ?_
        refine CallR.mono hE ?_
        rintro o25 _ ⟨I22, R23, S24, rfl, hE⟩
        refine s12o ?_
        refine s79 ?_
        refine xG gb199.2.2.2.2.2.2.1 ?_
        refine s6 (p := p0) rfl ?_
        refine s6 (p := 53) rfl ?_
        refine s4 (x := x3) rfl ?_
        obtain ⟨o26, hE⟩ := hE
        refine sV (rcvO o26 rfl rfl) rfl (Nat.le_of_ble_eq_true rfl) ?_
        refine CallV.mono hE ?_
        rintro _ ⟨I27, R28, S29, rfl, hE⟩
        refine s4 (x := 1) rfl ?_
        refine s67 (inRd rfl) (fun c30 => absurd c30 (by decide)) (fun _ => ?_)
        refine s6 (p := 53) rfl ?_
        refine s0 ?_
        refine sR rc130 rfl (Nat.le_of_ble_eq_true rfl) ?_
        refine CallR.mono hE ?_
        rintro o34 _ ⟨I31, R32, S33, rfl, hE⟩
        refine s12o ?_
        refine s79 ?_
        refine xG gb199.2.2.2.2.2.2.2 ?_
        refine s83 ?_
        exact rqV_of hE
      · replace hE := hE.2 c20
        refine xG gb199.2.2.2.2.1 ?_
        refine s0 ?_
        refine s79 ?_
        refine xG gb199.2.2.2.2.2.1 ?_
        refine s7 (ls' := [.ref p0, .ref p1, .ref 53, .int (oI x3), .int (oI 0)]) (Nat.le_of_ble_eq_true rfl) rfl ?_
        refine s4 (x := 0) rfl ?_
        refine s67 (inRd rfl) (fun _ => ?_) (fun c35 => absurd (by decide) c35)
        refine xG gb199.2.2.2.2.2.2.1 ?_
        refine s6 (p := p0) rfl ?_
        refine s6 (p := 53) rfl ?_
        refine s4 (x := x3) rfl ?_
        refine sV (rcvO o1 rfl rfl) rfl (Nat.le_of_ble_eq_true rfl) ?_
        refine CallV.mono hE ?_
        rintro _ ⟨I36, R37, S38, rfl, hE⟩
        refine s4 (x := 0) rfl ?_
        refine s67 (inRd rfl) (fun _ => ?_) (fun c39 => absurd (by decide) c39)
        refine xG gb199.2.2.2.2.2.2.2 ?_
        refine s83 ?_
        exact rqV_of hE
  · replace hE := hE.2 c2
    refine xG gb199.2.1 ?_
    refine s6 (p := p0) rfl ?_
    refine s50 (v := ld I p0 0) o1.sh o1.sp (by decide) (oI_ld _ _ _) ?_
    refine s0 ?_
    refine s61 (ld_inR _ _ _) (inRd rfl) (fun c40 => absurd c40 c2) (fun _ => ?_)
    refine s6 (p := p0) rfl ?_
    refine s50 (v := ld I p0 0) o1.sh o1.sp (by decide) (oI_ld _ _ _) ?_
    refine s0 ?_
    refine s62 (ld_inR _ _ _) (inRd rfl) (fun c41 => ?_) (fun c41 => ?_)
    · replace hE := hE.1 c41
      refine s79 ?_
      refine xG gb199.2.2.1 ?_
      refine s6 (p := p1) rfl ?_
      obtain ⟨o42, hE⟩ := hE
      refine s50 (v := ld I p1 0) o42.sh o42.sp (by decide) (oI_ld _ _ _) ?_
      refine s0 ?_
      refine s62 (ld_inR _ _ _) (inRd rfl) (fun c43 => ?_) (fun c43 => ?_)
      · replace hE := hE.1 c43
        refine s79 ?_
        refine xG gb199.2.2.2.1 ?_
        refine s0 ?_
        refine s60 ?_
        refine xG gb199.2.2.2.2.2.1 ?_
        refine s7 (ls' := [.ref p0, .ref p1, .ref 53, .int (oI x3), .int (oI 1)]) (Nat.le_of_ble_eq_true rfl) rfl ?_
        refine s4 (x := 1) rfl ?_
        refine s67 (inRd rfl) (fun c44 => absurd c44 (by decide)) (fun _ => ?_)
        refine s6 (p := 53) rfl ?_
        refine s0 ?_
        refine sR rc130 rfl (Nat.le_of_ble_eq_true rfl) ?_
        refine CallR.mono hE ?_
        rintro o48 _ ⟨I45, R46, S47, rfl, hE⟩
        refine s12o ?_
        refine s79 ?_
        refine xG gb199.2.2.2.2.2.2.1 ?_
        refine s6 (p := p0) rfl ?_
        refine s6 (p := 53) rfl ?_
        refine s4 (x := x3) rfl ?_
        obtain ⟨o49, hE⟩ := hE
        refine sV (rcvO o49 rfl rfl) rfl (Nat.le_of_ble_eq_true rfl) ?_
        refine CallV.mono hE ?_
        rintro _ ⟨I50, R51, S52, rfl, hE⟩
        refine s4 (x := 1) rfl ?_
        refine s67 (inRd rfl) (fun c53 => absurd c53 (by decide)) (fun _ => ?_)
        refine s6 (p := 53) rfl ?_
        refine s0 ?_
        refine sR rc130 rfl (Nat.le_of_ble_eq_true rfl) ?_
        refine CallR.mono hE ?_
        rintro o57 _ ⟨I54, R55, S56, rfl, hE⟩
        refine s12o ?_
        refine s79 ?_
        refine xG gb199.2.2.2.2.2.2.2 ?_
        refine s83 ?_
        exact rqV_of hE
      · replace hE := hE.2 c43
        refine xG gb199.2.2.2.2.1 ?_
        refine s0 ?_
        refine s79 ?_
        refine xG gb199.2.2.2.2.2.1 ?_
        refine s7 (ls' := [.ref p0, .ref p1, .ref 53, .int (oI x3), .int (oI 0)]) (Nat.le_of_ble_eq_true rfl) rfl ?_
        refine s4 (x := 0) rfl ?_
        refine s67 (inRd rfl) (fun _ => ?_) (fun c58 => absurd (by decide) c58)
        refine xG gb199.2.2.2.2.2.2.1 ?_
        refine s6 (p := p0) rfl ?_
        refine s6 (p := 53) rfl ?_
        refine s4 (x := x3) rfl ?_
        refine sV (rcvO o1 rfl rfl) rfl (Nat.le_of_ble_eq_true rfl) ?_
        refine CallV.mono hE ?_
        rintro _ ⟨I59, R60, S61, rfl, hE⟩
        refine s4 (x := 0) rfl ?_
        refine s67 (inRd rfl) (fun _ => ?_) (fun c62 => absurd (by decide) c62)
        refine xG gb199.2.2.2.2.2.2.2 ?_
        refine s83 ?_
        exact rqV_of hE
    · replace hE := hE.2 c41
      refine xG gb199.2.2.2.2.1 ?_
      refine s0 ?_
      refine s79 ?_
      refine xG gb199.2.2.2.2.2.1 ?_
      refine s7 (ls' := [.ref p0, .ref p1, .ref 53, .int (oI x3), .int (oI 0)]) (Nat.le_of_ble_eq_true rfl) rfl ?_
      refine s4 (x := 0) rfl ?_
      refine s67 (inRd rfl) (fun _ => ?_) (fun c63 => absurd (by decide) c63)
      refine xG gb199.2.2.2.2.2.2.1 ?_
      refine s6 (p := p0) rfl ?_
      refine s6 (p := 53) rfl ?_
      refine s4 (x := x3) rfl ?_
      refine sV (rcvO o1 rfl rfl) rfl (Nat.le_of_ble_eq_true rfl) ?_
      refine CallV.mono hE ?_
      rintro _ ⟨I64, R65, S66, rfl, hE⟩
      refine s4 (x := 0) rfl ?_
      refine s67 (inRd rfl) (fun _ => ?_) (fun c67 => absurd (by decide) c67)
      refine xG gb199.2.2.2.2.2.2.2 ?_
      refine s83 ?_
      exact rqV_of hE
def h198_3 (d L : Nat) (I : Nat → Nat → Int32) (R : Nat → Nat → Option Nat) (S : List (Nat × Nat)) (Q : Option Value → mM → Prop) (p0 : Nat) (x2 : Int) (p3 : Option Nat) : Prop := Wp d (gb 198 3) [.ref p0, .ref 53, .int (oI x2), vR p3] [] (bd L I R S) Q
set_option maxRecDepth 4000 in
theorem e198_3 {d L : Nat} {I : Nat → Nat → Int32} {R : Nat → Nat → Option Nat} {S : List (Nat × Nat)} {Q : Option Value → mM → Prop}  {p0 : Nat} {x2 : Int} {p3 : Option Nat} (hE : ((p3 = none) → obJ S p0 16 5 ∧ (((R p0 3 = none) → CallV d 41 [.ref 53, .int (oI (ld I p0 0))] (bd L I R S) (fun s => ∃ (I6 : mI) (R7 : mR) (S8 : mSh), s = bd L I6 R7 S8 ∧ (obJ S8 p0 16 5 ∧ (CallR d 130 [.ref 53, .int (oI (iC (ld I6 p0 1)))] (bd L I6 R7 S8) (fun o13 s => ∃ (I10 : mI) (R11 : mR) (S12 : mSh), s = bd L I10 R11 S12 ∧ (obJ S12 p0 16 5 ∧ (CallV d 43 [.ref 53, .int (oI (ld I10 p0 2))] (bd L I10 R11 S12) (fun s => ∃ (I15 : mI) (R16 : mR) (S17 : mSh), s = bd L I15 R16 S17 ∧ (Q none (bd L I15 R16 S17)))))))))) ∧ (∀ p4 : Nat, (R p0 3 = some p4) → Q none (bd L I R S)))) ∧ (∀ p1 : Nat, (p3 = some p1) → obJ S p0 16 5 ∧ (∃ (p19 : Nat), (R p0 3 = some p19) ∧ obJ S p19 16 5 ∧ (obJ S p1 16 5 ∧ (((p19 = p1) → CallV d 199 [.ref p1, .ref p0, .ref 53, .int (oI (x2 + 1))] (bd L I R S) (fun s => ∃ (I24 : mI) (R25 : mR) (S26 : mSh), s = bd L I24 R25 S26 ∧ (obJ S26 p1 16 5 ∧ (h198_3 (d + 1) L I24 R25 S26 Q p0 x2 (R25 p1 4))))) ∧ (¬ (p19 = p1) → CallV d 41 [.ref 53, .int (oI (ld I p0 0))] (bd L I R S) (fun s => ∃ (I28 : mI) (R29 : mR) (S30 : mSh), s = bd L I28 R29 S30 ∧ (obJ S30 p1 16 5 ∧ (CallV d 199 [.ref p1, .ref p0, .ref 53, .int (oI (x2 + 1))] (bd L I28 R29 S30) (fun s => ∃ (I32 : mI) (R33 : mR) (S34 : mSh), s = bd L I32 R33 S34 ∧ (obJ S34 p1 16 5 ∧ (h198_3 (d + 1) L I32 R33 S34 Q p0 x2 (R33 p1 4))))))))))))) : h198_3 (d + 1) L I R S Q p0 x2 p3 := by
  unfold h198_3
  refine xG gb198.2.2.2.1 ?_
  refine s6o (o := p3) rfl ?_
  refine s73o (fun n2 => ?_) (fun p1 n2 => ?_)
  · replace hE := hE.1 n2
    (try rw [n2])
    show Wp _ _ [.ref p0, .ref 53, .int (oI x2), .null] [] _ _
    refine xG gb198.2.2.2.2.2.1 ?_
    refine s6 (p := p0) rfl ?_
    obtain ⟨o3, hE⟩ := hE
    refine s51o (o := R p0 3) o3.sh o3.sp (by decide) o3.rf ?_
    refine s74o (fun n5 => ?_) (fun p4 n5 => ?_)
    · replace hE := hE.1 n5
      (try rw [n5])
      show Wp _ _ [.ref p0, .ref 53, .int (oI x2), .null] [] _ _
      refine s6 (p := 53) rfl ?_
      refine s6 (p := p0) rfl ?_
      refine s50 (v := ld I p0 0) o3.sh o3.sp (by decide) (oI_ld _ _ _) ?_
      refine sV rc41 rfl (Nat.le_of_ble_eq_true rfl) ?_
      refine CallV.mono hE ?_
      rintro _ ⟨I6, R7, S8, rfl, hE⟩
      refine s6 (p := 53) rfl ?_
      refine s6 (p := p0) rfl ?_
      obtain ⟨o9, hE⟩ := hE
      refine s50 (v := ld I6 p0 1) o9.sh o9.sp (by decide) (oI_ld _ _ _) ?_
      refine s29 ?_
      refine sR rc130 rfl (Nat.le_of_ble_eq_true rfl) ?_
      refine CallR.mono hE ?_
      rintro o13 _ ⟨I10, R11, S12, rfl, hE⟩
      refine s12o ?_
      refine s6 (p := 53) rfl ?_
      refine s6 (p := p0) rfl ?_
      obtain ⟨o14, hE⟩ := hE
      refine s50 (v := ld I10 p0 2) o14.sh o14.sp (by decide) (oI_ld _ _ _) ?_
      refine sV rc43 rfl (Nat.le_of_ble_eq_true rfl) ?_
      refine CallV.mono hE ?_
      rintro _ ⟨I15, R16, S17, rfl, hE⟩
      refine s79 ?_
      refine xG gb198.2.2.2.2.2.2 ?_
      refine s83 ?_
      exact hE
    · replace hE := hE.2 p4 n5
      (try rw [n5])
      show Wp _ _ [.ref p0, .ref 53, .int (oI x2), .null] [] _ _
      refine xG gb198.2.2.2.2.2.2 ?_
      refine s83 ?_
      exact hE
  · replace hE := hE.2 p1 n2
    (try rw [n2])
    show Wp _ _ [.ref p0, .ref 53, .int (oI x2), .ref p1] [] _ _
    refine s6 (p := p1) rfl ?_
    refine s6 (p := p0) rfl ?_
    obtain ⟨o18, hE⟩ := hE
    refine s51o (o := R p0 3) o18.sh o18.sp (by decide) o18.rf ?_
    obtain ⟨p19, n20, o21, hE⟩ := hE
    (try rw [n20])
    show Wp _ _ [.ref p0, .ref 53, .int (oI x2), .ref p1] [.ref p19, .ref p1] _ _
    obtain ⟨o22, hE⟩ := hE
    refine s75 o21.sp o22.sp (fun c23 => ?_) (fun c23 => ?_)
    · replace hE := hE.1 c23
      refine xG gb198.2.2.2.2.1 ?_
      refine s6 (p := p1) rfl ?_
      refine s6 (p := p0) rfl ?_
      refine s6 (p := 53) rfl ?_
      refine s4 (x := x2) rfl ?_
      refine s0 ?_
      refine s16 ?_
      refine sV (rcvO o22 rfl rfl) rfl (Nat.le_of_ble_eq_true rfl) ?_
      refine CallV.mono hE ?_
      rintro _ ⟨I24, R25, S26, rfl, hE⟩
      refine s6 (p := p1) rfl ?_
      obtain ⟨o27, hE⟩ := hE
      refine s51o (o := R25 p1 4) o27.sh o27.sp (by decide) o27.rf ?_
      refine s9o (ls' := [.ref p0, .ref 53, .int (oI x2), vR (R25 p1 4)]) (Nat.le_of_ble_eq_true rfl) rfl ?_
      refine s60 ?_
      exact hE
    · replace hE := hE.2 c23
      refine s6 (p := 53) rfl ?_
      refine s6 (p := p0) rfl ?_
      refine s50 (v := ld I p0 0) o18.sh o18.sp (by decide) (oI_ld _ _ _) ?_
      refine sV rc41 rfl (Nat.le_of_ble_eq_true rfl) ?_
      refine CallV.mono hE ?_
      rintro _ ⟨I28, R29, S30, rfl, hE⟩
      refine s79 ?_
      refine xG gb198.2.2.2.2.1 ?_
      refine s6 (p := p1) rfl ?_
      refine s6 (p := p0) rfl ?_
      refine s6 (p := 53) rfl ?_
      refine s4 (x := x2) rfl ?_
      refine s0 ?_
      refine s16 ?_
      obtain ⟨o31, hE⟩ := hE
      refine sV (rcvO o31 rfl rfl) rfl (Nat.le_of_ble_eq_true rfl) ?_
      refine CallV.mono hE ?_
      rintro _ ⟨I32, R33, S34, rfl, hE⟩
      refine s6 (p := p1) rfl ?_
      obtain ⟨o35, hE⟩ := hE
      refine s51o (o := R33 p1 4) o35.sh o35.sp (by decide) o35.rf ?_
      refine s9o (ls' := [.ref p0, .ref 53, .int (oI x2), vR (R33 p1 4)]) (Nat.le_of_ble_eq_true rfl) rfl ?_
      refine s60 ?_
      exact hE
set_option maxRecDepth 4000 in
theorem e198 {d L : Nat} {I : Nat → Nat → Int32} {R : Nat → Nat → Option Nat} {S : List (Nat × Nat)} {K : mM → Prop}  {p0 : Nat} {x2 : Int} (hE : inR x2 ∧ (((40 < x2) → K (bd L I R S)) ∧ (¬ (40 < x2) → obJ S p0 16 5 ∧ (((ld I p0 0 = 165) → CallV d 41 [.ref 53, .int (oI 165)] (bd L I R S) (fun s => ∃ (I5 : mI) (R6 : mR) (S7 : mSh), s = bd L I5 R6 S7 ∧ (obJ S7 p0 16 5 ∧ (h198_3 (d + 1) L I5 R6 S7 (rqV K) p0 x2 (R6 p0 3))))) ∧ (¬ (ld I p0 0 = 165) → h198_3 (d + 1) L I R S (rqV K) p0 x2 (R p0 3)))))) : CallV (d + 1) 198 [.ref p0, .ref 53, .int (oI x2)] (bd L I R S) K := by
  refine cV_of (ls := [.ref p0, .ref 53, .int (oI x2), mUn]) rfl ?_
  refine xG gb198.1 ?_
  refine s4 (x := x2) rfl ?_
  refine s0 ?_
  obtain ⟨g1, hE⟩ := hE
  refine s66 g1 (inRd rfl) (fun c2 => ?_) (fun c2 => ?_)
  · replace hE := hE.1 c2
    refine s83 ?_
    exact rqV_of hE
  · replace hE := hE.2 c2
    refine xG gb198.2.1 ?_
    refine s6 (p := p0) rfl ?_
    obtain ⟨o3, hE⟩ := hE
    refine s50 (v := ld I p0 0) o3.sh o3.sp (by decide) (oI_ld _ _ _) ?_
    refine s0 ?_
    refine s62 (ld_inR _ _ _) (inRd rfl) (fun c4 => ?_) (fun c4 => ?_)
    · replace hE := hE.1 c4
      refine s6 (p := 53) rfl ?_
      refine s0 ?_
      refine sV rc41 rfl (Nat.le_of_ble_eq_true rfl) ?_
      refine CallV.mono hE ?_
      rintro _ ⟨I5, R6, S7, rfl, hE⟩
      refine s79 ?_
      refine xG gb198.2.2.1 ?_
      refine s6 (p := p0) rfl ?_
      obtain ⟨o8, hE⟩ := hE
      refine s51o (o := R6 p0 3) o8.sh o8.sp (by decide) o8.rf ?_
      refine s9o (ls' := [.ref p0, .ref 53, .int (oI x2), vR (R6 p0 3)]) (Nat.le_of_ble_eq_true rfl) rfl ?_
      refine s79 ?_
      exact hE
    · replace hE := hE.2 c4
      refine xG gb198.2.2.1 ?_
      refine s6 (p := p0) rfl ?_
      refine s51o (o := R p0 3) o3.sh o3.sp (by decide) o3.rf ?_
      refine s9o (ls' := [.ref p0, .ref 53, .int (oI x2), vR (R p0 3)]) (Nat.le_of_ble_eq_true rfl) rfl ?_
      refine s79 ?_
      exact hE
/-- a call that writes tokens -/
def CwS (D L m : Nat) (as : List Value) (ts : List Tk) (I : mI) (R : mR) (S : mSh) : Prop := ∀ (bs : List Int) (n : Nat) (K : mM → Prop), PenS I R S bs n → (rnd (bs, lst bs) ts).1.length ≤ 1900 → (∀ I1 R1 S1 n1, Gp I R S I1 R1 S1 n n1 → PenS I1 R1 S1 (rnd (bs, lst bs) ts).1 n1 → lst (rnd (bs, lst bs) ts).1 = (rnd (bs, lst bs) ts).2 → K (bd L I1 R1 S1)) → CallV D m as (bd L I R S) K
section
variable {d D L : Nat} {I I1 I2 : mI} {R R1 R2 : mR} {S S1 S2 : mSh} {bs : List Int} {n n1 n2 b k e i q w : Nat} {x c v : Int} {K : mM → Prop} {ts us : List Tk}
theorem rnd2 (h : lst (rnd (bs, lst bs) ts).1 = (rnd (bs, lst bs) ts).2) : rnd ((rnd (bs, lst bs) ts).1, lst (rnd (bs, lst bs) ts).1) us = rnd (bs, lst bs) (ts ++ us) := by
  rw [h, rnd_app]
theorem rndl (h : (rnd (bs, lst bs) (ts ++ us)).1.length ≤ 1900) : (rnd (bs, lst bs) ts).1.length ≤ 1900 := by
  rw [rnd_app] at h
  exact Nat.le_trans (rnd_le us _) h
theorem cw41 (hi : i < 41) (hx : x = 128 + (i : Int)) : CwS (d + 7) L 41 [.ref 53, .int (oI x)] [tW (wc i)] I R S := by
  intro bs n K hp hl hK
  refine k41 hi hx hp hl (fun I1 R1 S1 n1 g p1 => hK I1 R1 S1 n1 g p1 ?_)
  obtain ⟨h1, h2⟩ := lst_w i hi
  show lst (bs ++ (gpB (lst bs) ++ wB (wc i))) = true
  rw [wB_t i hi, ← List.append_assoc, lst_app h2]; exact h1
theorem cw43 (hv : 0 ≤ v ∧ v ≤ 9999) : CwS (d + 7) L 43 [.ref 53, .int (oI v)] [tN v] I R S := by
  intro bs n K hp hl hK
  refine k43 hv hp hl (fun I1 R1 S1 n1 g p1 => hK I1 R1 S1 n1 g p1 ?_)
  obtain ⟨h1, h2⟩ := lst_d hv
  show lst (bs ++ (gpB (lst bs) ++ dB v)) = true
  rw [← List.append_assoc, lst_app h2]; exact h1
theorem cw130 {K : Option Nat → mM → Prop} (hc : isg c) (hp : PenS I R S bs n) (hl : (rnd (bs, lst bs) [tS c]).1.length ≤ 1900) (hK : ∀ I1 R1 S1 n1, Gp I R S I1 R1 S1 n n1 → PenS I1 R1 S1 (rnd (bs, lst bs) [tS c]).1 n1 → lst (rnd (bs, lst bs) [tS c]).1 = (rnd (bs, lst bs) [tS c]).2 → K (some 53) (bd L I1 R1 S1)) : CallR (d + 5) 130 [.ref 53, .int (oI c)] (bd L I R S) K := by
  have hc2 := hc
  unfold isg at hc2
  have hl2 : (bs ++ [c]).length ≤ 1900 := hl
  rw [List.length_append] at hl2
  refine k130 hp (by omega) ⟨by omega, by omega⟩ (fun I1 R1 S1 n1 g p1 => hK I1 R1 S1 n1 g p1 ?_)
  show lst (bs ++ [c]) = false
  rw [lst_app (by simp)]
  show decide ((97 ≤ c ∧ c ≤ 122) ∨ (48 ≤ c ∧ c ≤ 57)) = false
  exact decide_eq_false (by omega)
/-- how firmly a node's word binds -/
def Lev (I : mI) (q : Nat) (lv : Int) : Prop := (lv = 0 ∧ ld I q 0 = 163) ∨ (lv = 1 ∧ ld I q 0 = 164) ∨ (lv = 2 ∧ ¬ ld I q 0 = 163 ∧ ¬ ld I q 0 = 164)
theorem w199 {ls lv wk : Int} (hq : obJ S q 16 5) (hw : obJ S w 16 5) (hwk : ld I w 0 = wk) (hlv : Lev I q lv) (hls : (ls = 0 ∧ wk = 163) ∨ (ls = 1 ∧ wk = 164) ∨ (ls = 2 ∧ wk = 165)) (h : ∀ I1 R1 S1, Ext R S I R1 S1 I1 → CwS (d + 7) L 198 [.ref q, .ref 53, .int (oI x)] ts I1 R1 S1) : CwS (d + 8) L 199 [.ref q, .ref w, .ref 53, .int (oI x)] (prT (decide (lv < ls)) ts) I R S := by
  intro bs n K hp hl hK
  have N : ¬ lv < ls → CallV (d + 7) 198 [.ref q, .ref 53, .int (oI x)] (bd L I R S) (fun s => ∃ (I36 : mI) (R37 : mR) (S38 : mSh), s = bd L I36 R37 S38 ∧ (K (bd L I36 R37 S38))) := fun c => by
    rw [decide_eq_false c] at hl hK
    exact h I R S ((Gp.refl I R S n).ext hp) bs n _ hp hl (fun I1 R1 S1 n1 g p1 e => ⟨I1, R1, S1, rfl, hK I1 R1 S1 n1 g p1 e⟩)
  have P : lv < ls → CallR (d + 7) 130 [.ref 53, .int (oI 40)] (bd L I R S) (fun _ s => ∃ (I6 : mI) (R7 : mR) (S8 : mSh), s = bd L I6 R7 S8 ∧ (obJ S8 q 16 5 ∧ (CallV (d + 7) 198 [.ref q, .ref 53, .int (oI x)] (bd L I6 R7 S8) (fun s => ∃ (I11 : mI) (R12 : mR) (S13 : mSh), s = bd L I11 R12 S13 ∧ (CallR (d + 7) 130 [.ref 53, .int (oI 41)] (bd L I11 R12 S13) (fun _ s => ∃ (I15 : mI) (R16 : mR) (S17 : mSh), s = bd L I15 R16 S17 ∧ (K (bd L I15 R16 S17)))))))) := fun c => by
    rw [decide_eq_true c] at hl hK
    have hl0 : (rnd (bs, lst bs) ([tS 40] ++ (ts ++ [tS 41]))).1.length ≤ 1900 := hl
    have hK0 : ∀ I1 R1 S1 n1, Gp I R S I1 R1 S1 n n1 → PenS I1 R1 S1 (rnd (bs, lst bs) ([tS 40] ++ (ts ++ [tS 41]))).1 n1 → lst (rnd (bs, lst bs) ([tS 40] ++ (ts ++ [tS 41]))).1 = (rnd (bs, lst bs) ([tS 40] ++ (ts ++ [tS 41]))).2 → K (bd L I1 R1 S1) := hK
    rw [← List.append_assoc] at hl0 hK0
    refine cw130 (d := d + 2) (by decide) hp (rndl (rndl hl0)) (fun I1 R1 S1 n1 g1 p1 e1 => ⟨I1, R1, S1, rfl, g1.ob hq, ?_⟩)
    refine h I1 R1 S1 (g1.ext hp) _ n1 _ p1 (by rw [rnd2 e1]; exact rndl hl0) (fun I2 R2 S2 n2 g2 p2 e2 => ⟨I2, R2, S2, rfl, ?_⟩)
    rw [rnd2 e1] at p2 e2
    refine cw130 (d := d + 2) (by decide) p2 (by rw [rnd2 e2]; exact hl0) (fun I3 R3 S3 n3 g3 p3 e3 => ⟨I3, R3, S3, rfl, ?_⟩)
    rw [rnd2 e2] at p3 e3
    exact hK0 I3 R3 S3 n3 ((g1.trans g2).trans g3) p3 e3
  refine e199 (d := d + 7) ⟨hq, ?_⟩
  rw [hwk]
  unfold Lev at hlv
  exact ⟨fun c => ⟨hw, fun c1 => P (by omega), fun c1 => ⟨fun c2 => P (by omega), fun c2 => N (by omega)⟩⟩, fun c => ⟨fun c1 => ⟨hw, fun c2 => P (by omega), fun c2 => N (by omega)⟩, fun c1 => N (by omega)⟩⟩
theorem nch_len {α β : Type} {P : Nat → α → Prop} {P' : Nat → β → Prop} : ∀ (l : List α) (l' : List β) (o : Option Nat), NCh P R l o → NCh P' R l' o → l.length = l'.length
  | [], [], _, _, _ => rfl
  | [], y :: l', o, h, h' => by
    obtain ⟨q, e, -⟩ := h'
    have h : o = none := h
    rw [h] at e; cases e
  | x :: l, [], o, h, h' => by
    obtain ⟨q, e, -⟩ := h
    have h' : o = none := h'
    rw [h'] at e; cases e
  | x :: l, y :: l', o, h, h' => by
    obtain ⟨q, e, -, h2⟩ := h
    obtain ⟨q', e', -, h2'⟩ := h'
    rw [e] at e'
    have e' := Option.some.inj e'
    subst e'
    have := nch_len l l' _ h2 h2'
    rw [List.length_cons, List.length_cons, this]
end
section
variable {d D L : Nat} {I I0 I1 I2 : mI} {R R0 R1 R2 : mR} {S S0 S1 S2 : mSh} {n n0 n1 n2 b k e i q w q1 : Nat} {x c v kd : Int} {K : mM → Prop} {ts us : List Tk} {α : Type} {P : mR → mSh → mI → Nat → α → Prop} {f : α → List Tk} {wd : Int64} {Q : Option Value → mM → Prop}
/-- what the writing of a whole's parts rests on -/
def PtW (d L : Nat) (w : Nat) (kd x : Int) (P : mR → mSh → mI → Nat → α → Prop) (f : α → List Tk) : Prop := (∀ (R : mR) (S : mSh) (I : mI) (R1 : mR) (S1 : mSh) (I1 : mI) (q : Nat) (a : α), Ext R S I R1 S1 I1 → P R S I q a → P R1 S1 I1 q a ∧ R1 q 4 = R q 4) ∧ (∀ (R : mR) (S : mSh) (I : mI) (q : Nat) (a : α), P R S I q a → obJ S q 16 5 ∧ (obJ S w 16 5 → ld I w 0 = kd → CwS (d + 8) L 199 [.ref q, .ref w, .ref 53, .int (oI (x + 1))] (f a) I R S))
theorem l198r (hi : i < 41) (hkd : kd = 128 + (i : Int)) (hw : wc i = wd) (hP : PtW d L w kd x P f) {bs0 : List Int} (tot : List Tk) (hl : (rnd (bs0, lst bs0) tot).1.length ≤ 1900) (hQ : ∀ I1 R1 S1 n1, Gp I0 R0 S0 I1 R1 S1 n0 n1 → PenS I1 R1 S1 (rnd (bs0, lst bs0) tot).1 n1 → lst (rnd (bs0, lst bs0) tot).1 = (rnd (bs0, lst bs0) tot).2 → Q none (bd L I1 R1 S1)) : ∀ (l : List α) (a1 : α) (l1 : List α) (o : Option Nat) (I : mI) (R : mR) (S : mSh) (n : Nat) (ts : List Tk), l.length < l1.length → Gp I0 R0 S0 I R S n0 n → PenS I R S (rnd (bs0, lst bs0) ts).1 n → lst (rnd (bs0, lst bs0) ts).1 = (rnd (bs0, lst bs0) ts).2 → ts ++ jr wd f l = tot → obJ S w 16 5 → ld I w 0 = kd → NCh (P R S I) R l1 (R w 3) → NCh (P R S I) R l o → h198_3 (d + 9) L I R S Q w x o
  | [], a1, l1, o, I, R, S, n, ts, hlen, hg, hp, he, ht, hob, hk, hn1, hn => by
    have ho : o = none := hn
    subst ho
    have e1 : ts = tot := by rw [← ht]; exact (List.append_nil _).symm
    rw [e1] at hp he
    cases l1 with
    | nil => exact absurd hlen (Nat.lt_irrefl _)
    | cons y l1 =>
      obtain ⟨qf, e3, -⟩ := hn1
      exact e198_3 (d := d + 8) ⟨fun _ => ⟨hob, fun c => (by rw [e3] at c; cases c), fun p4 _ => hQ I R S n hg hp he⟩, fun p1 c => (by cases c)⟩
  | y :: l, a1, l1, o, I, R, S, n, ts, hlen, hg, hp, he, ht, hob, hk, hn1, hn => by
    have hn0 := hn
    obtain ⟨q, e1, h2, h3⟩ := hn
    subst e1
    have hq := (hP.2 R S I q y h2).1
    have ht2 : ts ++ ([tW wd] ++ (f y ++ jr wd f l)) = tot := ht
    cases l1 with
    | nil => exact absurd hlen (by simp)
    | cons z l1 =>
    have hn1' := hn1
    obtain ⟨qf, e3, h4, -⟩ := hn1
    have hqf := (hP.2 R S I qf z h4).1
    refine e198_3 (d := d + 8) ⟨fun c => (by cases c), fun p1 c => ?_⟩
    cases c
    refine ⟨hob, qf, e3, hqf, hq, fun c => ?_, fun c => ?_⟩
    · exfalso
      rw [e3, c] at hn1'
      have := nch_len _ _ _ hn1' hn0
      omega
    · rw [hk]
      have hlt : (rnd (bs0, lst bs0) (ts ++ [tW wd])).1.length ≤ 1900 := rndl (us := f y ++ jr wd f l) (by rw [List.append_assoc, ht2]; exact hl)
      have hlt2 : (rnd (bs0, lst bs0) (ts ++ [tW wd] ++ f y)).1.length ≤ 1900 := rndl (us := jr wd f l) (by rw [List.append_assoc, List.append_assoc, ht2]; exact hl)
      have cw : CwS (d + 8) L 41 [.ref 53, .int (oI kd)] [tW wd] I R S := by rw [← hw]; exact cw41 (d := d + 1) hi hkd
      refine cw _ n _ hp (by rw [rnd2 he]; exact hlt) (fun I1 R1 S1 m1 g1 p1 e1 => ⟨I1, R1, S1, rfl, g1.ob hq, ?_⟩)
      rw [rnd2 he] at p1 e1
      have x1 := g1.ext hp
      have k1 : ld I1 w 0 = kd := (x1.ld hob (Or.inl (by decide))).trans hk
      have hy := hP.1 R S I R1 S1 I1 q y x1 h2
      refine (hP.2 R1 S1 I1 q y hy.1).2 (g1.ob hob) k1 _ m1 _ p1 (by rw [rnd2 e1]; exact hlt2) (fun I2 R2 S2 m2 g2 p2 e2 => ⟨I2, R2, S2, rfl, g2.ob (g1.ob hq), ?_⟩)
      rw [rnd2 e1] at p2 e2
      have x2 := g2.ext p1
      have hy2 := hP.1 R1 S1 I1 R2 S2 I2 q y x2 hy.1
      have both : ∀ q a, P R S I q a → P R2 S2 I2 q a ∧ R2 q 4 = R q 4 := fun q a h9 => by
        have z1 := hP.1 R S I R1 S1 I1 q a x1 h9
        have z2 := hP.1 R1 S1 I1 R2 S2 I2 q a x2 z1.1
        exact ⟨z2.1, z2.2.trans z1.2⟩
      have ew3 : R2 w 3 = R w 3 := (x2.1 w 16 5 (g1.ob hob) (Or.inl (by decide))).2.2.2.1.trans (x1.1 w 16 5 hob (Or.inl (by decide))).2.2.2.1
      refine l198r hi hkd hw hP tot hl hQ l a1 (z :: l1) (R2 q 4) I2 R2 S2 m2 (ts ++ [tW wd] ++ f y) (by have : (y :: l).length = l.length + 1 := rfl; omega) ((hg.trans g1).trans g2) p2 e2 (by rw [List.append_assoc, List.append_assoc]; exact ht2) (g2.ob (g1.ob hob)) ((x2.ld (g1.ob hob) (Or.inl (by decide))).trans k1) ?_ ?_
      · rw [ew3]; exact NCh.ext both _ _ hn1'
      · rw [(both q y h2).2]; exact NCh.ext both _ _ h3
end
