set_option maxRecDepth 4000 in
theorem e194 {d L : Nat} {I : Nat → Nat → Int32} {R : Nat → Nat → Option Nat} {S : List (Nat × Nat)} {K : mM → Prop}  {p0 : Nat} {x2 : Int} (hE : CallV d 41 [.ref 53, .int (oI x2)] (bd L I R S) (fun s => ∃ (I1 : mI) (R2 : mR) (S3 : mSh), s = bd L I1 R2 S3 ∧ (obJ S3 p0 15 8 ∧ (CallV d 43 [.ref 53, .int (oI (ld I1 p0 4))] (bd L I1 R2 S3) (fun s => ∃ (I5 : mI) (R6 : mR) (S7 : mSh), s = bd L I5 R6 S7 ∧ (K (bd L I5 R6 S7))))))) : CallV (d + 1) 194 [.ref p0, .ref 53, .int (oI x2)] (bd L I R S) K := by
  refine cV_of (ls := [.ref p0, .ref 53, .int (oI x2)]) rfl ?_
  refine xG gb194 ?_
  refine s6 (p := 53) rfl ?_
  refine s4 (x := x2) rfl ?_
  refine sV rc41 rfl (Nat.le_of_ble_eq_true rfl) ?_
  refine CallV.mono hE ?_
  rintro _ ⟨I1, R2, S3, rfl, hE⟩
  refine s6 (p := 53) rfl ?_
  refine s6 (p := p0) rfl ?_
  obtain ⟨o4, hE⟩ := hE
  refine s50 (v := ld I1 p0 4) o4.sh o4.sp (by decide) (oI_ld _ _ _) ?_
  refine sV rc43 rfl (Nat.le_of_ble_eq_true rfl) ?_
  refine CallV.mono hE ?_
  rintro _ ⟨I5, R6, S7, rfl, hE⟩
  refine s83 ?_
  exact rqV_of hE
def h193_8 (d L : Nat) (I : Nat → Nat → Int32) (R : Nat → Nat → Option Nat) (S : List (Nat × Nat)) (Q : Option Value → mM → Prop) (w0 : Value) (w1 : Value) : Prop := Wp d (gb 193 8) [w0, w1] [] (bd L I R S) Q
set_option maxRecDepth 4000 in
theorem e193_8 {d L : Nat} {I : Nat → Nat → Int32} {R : Nat → Nat → Option Nat} {S : List (Nat × Nat)} {Q : Option Value → mM → Prop}  {w0 : Value} {w1 : Value} (hE : Q none (bd L I R S)) : h193_8 d L I R S Q w0 w1 := by
  unfold h193_8
  refine xG gb193.2.2.2.2.2.2.2.2 ?_
  refine s83 ?_
  exact hE
set_option maxRecDepth 4000 in
theorem e193 {d L : Nat} {I : Nat → Nat → Int32} {R : Nat → Nat → Option Nat} {S : List (Nat × Nat)} {K : mM → Prop}  {p0 : Nat} (hE : obJ S p0 15 8 ∧ ((ld I p0 1 = 130 → CallV d 41 [.ref 53, .int (oI (166 + (ld I p0 2) - 1))] (bd L I R S) (fun s => ∃ (I3 : mI) (R4 : mR) (S5 : mSh), s = bd L I3 R4 S5 ∧ (obJ S5 p0 15 8 ∧ (CallV d 194 [.ref p0, .ref 53, .int (oI 156)] (bd L I3 R4 S5) (fun s => ∃ (I7 : mI) (R8 : mR) (S9 : mSh), s = bd L I7 R8 S9 ∧ (h193_8 (d + 1) L I7 R8 S9 (rqV K) (.ref p0) (.ref 53))))))) ∧ (ld I p0 1 = 131 → CallV d 43 [.ref 53, .int (oI (ld I p0 2))] (bd L I R S) (fun s => ∃ (I11 : mI) (R12 : mR) (S13 : mSh), s = bd L I11 R12 S13 ∧ (obJ S13 p0 15 8 ∧ (CallV d 194 [.ref p0, .ref 53, .int (oI 156)] (bd L I11 R12 S13) (fun s => ∃ (I15 : mI) (R16 : mR) (S17 : mSh), s = bd L I15 R16 S17 ∧ (h193_8 (d + 1) L I15 R16 S17 (rqV K) (.ref p0) (.ref 53))))))) ∧ (ld I p0 1 = 133 → CallV d 43 [.ref 53, .int (oI (ld I p0 2))] (bd L I R S) (fun s => ∃ (I19 : mI) (R20 : mR) (S21 : mSh), s = bd L I19 R20 S21 ∧ (obJ S21 p0 15 8 ∧ (CallV d 194 [.ref p0, .ref 53, .int (oI 157)] (bd L I19 R20 S21) (fun s => ∃ (I23 : mI) (R24 : mR) (S25 : mSh), s = bd L I23 R24 S25 ∧ (h193_8 (d + 1) L I23 R24 S25 (rqV K) (.ref p0) (.ref 53))))))) ∧ (ld I p0 1 = 135 → CallV d 43 [.ref 53, .int (oI (ld I p0 4))] (bd L I R S) (fun s => ∃ (I27 : mI) (R28 : mR) (S29 : mSh), s = bd L I27 R28 S29 ∧ (CallV d 41 [.ref 53, .int (oI 158)] (bd L I27 R28 S29) (fun s => ∃ (I30 : mI) (R31 : mR) (S32 : mSh), s = bd L I30 R31 S32 ∧ (obJ S32 p0 15 8 ∧ (CallV d 41 [.ref 53, .int (oI (ld I30 p0 3))] (bd L I30 R31 S32) (fun s => ∃ (I34 : mI) (R35 : mR) (S36 : mSh), s = bd L I34 R35 S36 ∧ (obJ S36 p0 15 8 ∧ (((ld I34 p0 3 = 133) → CallV d 43 [.ref 53, .int (oI (ld I34 p0 2))] (bd L I34 R35 S36) (fun s => ∃ (I39 : mI) (R40 : mR) (S41 : mSh), s = bd L I39 R40 S41 ∧ (h193_8 (d + 1) L I39 R40 S41 (rqV K) (.ref p0) (.ref 53)))) ∧ (¬ (ld I34 p0 3 = 133) → h193_8 (d + 1) L I34 R35 S36 (rqV K) (.ref p0) (.ref 53))))))))))) ∧ (ld I p0 1 = 141 → CallV d 43 [.ref 53, .int (oI (ld I p0 2))] (bd L I R S) (fun s => ∃ (I43 : mI) (R44 : mR) (S45 : mSh), s = bd L I43 R44 S45 ∧ (obJ S45 p0 15 8 ∧ (CallV d 194 [.ref p0, .ref 53, .int (oI 161)] (bd L I43 R44 S45) (fun s => ∃ (I47 : mI) (R48 : mR) (S49 : mSh), s = bd L I47 R48 S49 ∧ (h193_8 (d + 1) L I47 R48 S49 (rqV K) (.ref p0) (.ref 53))))))) ∧ (ld I p0 1 = 142 → CallV d 43 [.ref 53, .int (oI (ld I p0 2))] (bd L I R S) (fun s => ∃ (I51 : mI) (R52 : mR) (S53 : mSh), s = bd L I51 R52 S53 ∧ (obJ S53 p0 15 8 ∧ (CallV d 194 [.ref p0, .ref 53, .int (oI 161)] (bd L I51 R52 S53) (fun s => ∃ (I55 : mI) (R56 : mR) (S57 : mSh), s = bd L I55 R56 S57 ∧ (h193_8 (d + 1) L I55 R56 S57 (rqV K) (.ref p0) (.ref 53))))))) ∧ (ld I p0 1 = 144 → h193_8 (d + 1) L I R S (rqV K) (.ref p0) (.ref 53)) ∧ (¬ ld I p0 1 = 130 ∧ ¬ ld I p0 1 = 131 ∧ ¬ ld I p0 1 = 133 ∧ ¬ ld I p0 1 = 135 ∧ ¬ ld I p0 1 = 141 ∧ ¬ ld I p0 1 = 142 ∧ ¬ ld I p0 1 = 144 → CallV d 43 [.ref 53, .int (oI (ld I p0 4))] (bd L I R S) (fun s => ∃ (I59 : mI) (R60 : mR) (S61 : mSh), s = bd L I59 R60 S61 ∧ (h193_8 (d + 1) L I59 R60 S61 (rqV K) (.ref p0) (.ref 53)))))) : CallV (d + 1) 193 [.ref p0, .ref 53] (bd L I R S) K := by
  refine cV_of (ls := [.ref p0, .ref 53]) rfl ?_
  refine xG gb193.1 ?_
  refine s6 (p := p0) rfl ?_
  obtain ⟨o1, hE⟩ := hE
  refine s50 (v := ld I p0 1) o1.sh o1.sp (by decide) (oI_ld _ _ _) ?_
  refine s76 (ld_inR _ _ _) ?_
  by_cases c2 : ld I p0 1 = 130
  · replace hE := hE.1 c2
    rw [show mSel ((jSW.getD 193 []).getD 0 []) (ld I p0 1 - 130) = 1 by rw [c2]; rfl]
    refine xG gb193.2.1 ?_
    refine s6 (p := 53) rfl ?_
    refine s0 ?_
    refine s6 (p := p0) rfl ?_
    refine s50 (v := ld I p0 2) o1.sh o1.sp (by decide) (oI_ld _ _ _) ?_
    refine s16 ?_
    refine s0 ?_
    refine s17 ?_
    refine sV rc41 rfl (Nat.le_of_ble_eq_true rfl) ?_
    refine CallV.mono hE ?_
    rintro _ ⟨I3, R4, S5, rfl, hE⟩
    refine s6 (p := p0) rfl ?_
    refine s6 (p := 53) rfl ?_
    refine s0 ?_
    obtain ⟨o6, hE⟩ := hE
    refine sV (rcvO o6 rfl rfl) rfl (Nat.le_of_ble_eq_true rfl) ?_
    refine CallV.mono hE ?_
    rintro _ ⟨I7, R8, S9, rfl, hE⟩
    refine s60 ?_
    exact hE
  replace hE := hE.2
  by_cases c10 : ld I p0 1 = 131
  · replace hE := hE.1 c10
    rw [show mSel ((jSW.getD 193 []).getD 0 []) (ld I p0 1 - 130) = 2 by rw [c10]; rfl]
    refine xG gb193.2.2.1 ?_
    refine s6 (p := 53) rfl ?_
    refine s6 (p := p0) rfl ?_
    refine s50 (v := ld I p0 2) o1.sh o1.sp (by decide) (oI_ld _ _ _) ?_
    refine sV rc43 rfl (Nat.le_of_ble_eq_true rfl) ?_
    refine CallV.mono hE ?_
    rintro _ ⟨I11, R12, S13, rfl, hE⟩
    refine s6 (p := p0) rfl ?_
    refine s6 (p := 53) rfl ?_
    refine s0 ?_
    obtain ⟨o14, hE⟩ := hE
    refine sV (rcvO o14 rfl rfl) rfl (Nat.le_of_ble_eq_true rfl) ?_
    refine CallV.mono hE ?_
    rintro _ ⟨I15, R16, S17, rfl, hE⟩
    refine s60 ?_
    exact hE
  replace hE := hE.2
  by_cases c18 : ld I p0 1 = 133
  · replace hE := hE.1 c18
    rw [show mSel ((jSW.getD 193 []).getD 0 []) (ld I p0 1 - 130) = 3 by rw [c18]; rfl]
    refine xG gb193.2.2.2.1 ?_
    refine s6 (p := 53) rfl ?_
    refine s6 (p := p0) rfl ?_
    refine s50 (v := ld I p0 2) o1.sh o1.sp (by decide) (oI_ld _ _ _) ?_
    refine sV rc43 rfl (Nat.le_of_ble_eq_true rfl) ?_
    refine CallV.mono hE ?_
    rintro _ ⟨I19, R20, S21, rfl, hE⟩
    refine s6 (p := p0) rfl ?_
    refine s6 (p := 53) rfl ?_
    refine s0 ?_
    obtain ⟨o22, hE⟩ := hE
    refine sV (rcvO o22 rfl rfl) rfl (Nat.le_of_ble_eq_true rfl) ?_
    refine CallV.mono hE ?_
    rintro _ ⟨I23, R24, S25, rfl, hE⟩
    refine s60 ?_
    exact hE
  replace hE := hE.2
  by_cases c26 : ld I p0 1 = 135
  · replace hE := hE.1 c26
    rw [show mSel ((jSW.getD 193 []).getD 0 []) (ld I p0 1 - 130) = 5 by rw [c26]; rfl]
    refine xG gb193.2.2.2.2.2.1 ?_
    refine s6 (p := 53) rfl ?_
    refine s6 (p := p0) rfl ?_
    refine s50 (v := ld I p0 4) o1.sh o1.sp (by decide) (oI_ld _ _ _) ?_
    refine sV rc43 rfl (Nat.le_of_ble_eq_true rfl) ?_
    refine CallV.mono hE ?_
    rintro _ ⟨I27, R28, S29, rfl, hE⟩
    refine s6 (p := 53) rfl ?_
    refine s0 ?_
    refine sV rc41 rfl (Nat.le_of_ble_eq_true rfl) ?_
    refine CallV.mono hE ?_
    rintro _ ⟨I30, R31, S32, rfl, hE⟩
    refine s6 (p := 53) rfl ?_
    refine s6 (p := p0) rfl ?_
    obtain ⟨o33, hE⟩ := hE
    refine s50 (v := ld I30 p0 3) o33.sh o33.sp (by decide) (oI_ld _ _ _) ?_
    refine sV rc41 rfl (Nat.le_of_ble_eq_true rfl) ?_
    refine CallV.mono hE ?_
    rintro _ ⟨I34, R35, S36, rfl, hE⟩
    refine s6 (p := p0) rfl ?_
    obtain ⟨o37, hE⟩ := hE
    refine s50 (v := ld I34 p0 3) o37.sh o37.sp (by decide) (oI_ld _ _ _) ?_
    refine s0 ?_
    refine s62 (ld_inR _ _ _) (inRd rfl) (fun c38 => ?_) (fun c38 => ?_)
    · replace hE := hE.1 c38
      refine s6 (p := 53) rfl ?_
      refine s6 (p := p0) rfl ?_
      refine s50 (v := ld I34 p0 2) o37.sh o37.sp (by decide) (oI_ld _ _ _) ?_
      refine sV rc43 rfl (Nat.le_of_ble_eq_true rfl) ?_
      refine CallV.mono hE ?_
      rintro _ ⟨I39, R40, S41, rfl, hE⟩
      refine s60 ?_
      exact hE
    · replace hE := hE.2 c38
      exact hE
  replace hE := hE.2
  by_cases c42 : ld I p0 1 = 141
  · replace hE := hE.1 c42
    rw [show mSel ((jSW.getD 193 []).getD 0 []) (ld I p0 1 - 130) = 4 by rw [c42]; rfl]
    refine xG gb193.2.2.2.2.1 ?_
    refine s6 (p := 53) rfl ?_
    refine s6 (p := p0) rfl ?_
    refine s50 (v := ld I p0 2) o1.sh o1.sp (by decide) (oI_ld _ _ _) ?_
    refine sV rc43 rfl (Nat.le_of_ble_eq_true rfl) ?_
    refine CallV.mono hE ?_
    rintro _ ⟨I43, R44, S45, rfl, hE⟩
    refine s6 (p := p0) rfl ?_
    refine s6 (p := 53) rfl ?_
    refine s0 ?_
    obtain ⟨o46, hE⟩ := hE
    refine sV (rcvO o46 rfl rfl) rfl (Nat.le_of_ble_eq_true rfl) ?_
    refine CallV.mono hE ?_
    rintro _ ⟨I47, R48, S49, rfl, hE⟩
    refine s60 ?_
    exact hE
  replace hE := hE.2
  by_cases c50 : ld I p0 1 = 142
  · replace hE := hE.1 c50
    rw [show mSel ((jSW.getD 193 []).getD 0 []) (ld I p0 1 - 130) = 4 by rw [c50]; rfl]
    refine xG gb193.2.2.2.2.1 ?_
    refine s6 (p := 53) rfl ?_
    refine s6 (p := p0) rfl ?_
    refine s50 (v := ld I p0 2) o1.sh o1.sp (by decide) (oI_ld _ _ _) ?_
    refine sV rc43 rfl (Nat.le_of_ble_eq_true rfl) ?_
    refine CallV.mono hE ?_
    rintro _ ⟨I51, R52, S53, rfl, hE⟩
    refine s6 (p := p0) rfl ?_
    refine s6 (p := 53) rfl ?_
    refine s0 ?_
    obtain ⟨o54, hE⟩ := hE
    refine sV (rcvO o54 rfl rfl) rfl (Nat.le_of_ble_eq_true rfl) ?_
    refine CallV.mono hE ?_
    rintro _ ⟨I55, R56, S57, rfl, hE⟩
    refine s60 ?_
    exact hE
  replace hE := hE.2
  by_cases c58 : ld I p0 1 = 144
  · replace hE := hE.1 c58
    rw [show mSel ((jSW.getD 193 []).getD 0 []) (ld I p0 1 - 130) = 6 by rw [c58]; rfl]
    refine xG gb193.2.2.2.2.2.2.1 ?_
    refine s60 ?_
    exact hE
  replace hE := hE.2
  replace hE := hE ⟨c2, c10, c18, c26, c42, c50, c58⟩
  rw [show mSel ((jSW.getD 193 []).getD 0 []) (ld I p0 1 - 130) = 7 by exact mSel_def (lo := 130) (vs := [130, 131, 133, 135, 141, 142, 144]) rfl (by intro v hv; simp only [List.mem_cons, List.not_mem_nil, or_false] at hv; omega)]
  refine xG gb193.2.2.2.2.2.2.2.1 ?_
  refine s6 (p := 53) rfl ?_
  refine s6 (p := p0) rfl ?_
  refine s50 (v := ld I p0 4) o1.sh o1.sp (by decide) (oI_ld _ _ _) ?_
  refine sV rc43 rfl (Nat.le_of_ble_eq_true rfl) ?_
  refine CallV.mono hE ?_
  rintro _ ⟨I59, R60, S61, rfl, hE⟩
  refine s79 ?_
  exact hE
def h192_2 (d L : Nat) (I : Nat → Nat → Int32) (R : Nat → Nat → Option Nat) (S : List (Nat × Nat)) (Q : Option Value → mM → Prop) (p0 : Nat) : Prop := Wp d (gb 192 2) [.ref p0, .ref 53] [] (bd L I R S) Q
set_option maxRecDepth 4000 in
theorem e192_2 {d L : Nat} {I : Nat → Nat → Int32} {R : Nat → Nat → Option Nat} {S : List (Nat × Nat)} {Q : Option Value → mM → Prop}  {p0 : Nat} (hE : CallR d 130 [.ref 53, .int (oI 59)] (bd L I R S) (fun o4 s => ∃ (I1 : mI) (R2 : mR) (S3 : mSh), s = bd L I1 R2 S3 ∧ (CallR d 132 [.ref 53] (bd L I1 R2 S3) (fun o8 s => ∃ (I5 : mI) (R6 : mR) (S7 : mSh), s = bd L I5 R6 S7 ∧ (obJ S7 p0 15 8 ∧ (Q none (bd L I5 (u2 R6 p0 7 o8) S7))))))) : h192_2 (d + 1) L I R S Q p0 := by
  unfold h192_2
  refine xG gb192.2.2 ?_
  refine s6 (p := 53) rfl ?_
  refine s0 ?_
  refine sR rc130 rfl (Nat.le_of_ble_eq_true rfl) ?_
  refine CallR.mono hE ?_
  rintro o4 _ ⟨I1, R2, S3, rfl, hE⟩
  refine s12o ?_
  refine s6 (p := p0) rfl ?_
  refine s6 (p := 53) rfl ?_
  refine sR rc132 rfl (Nat.le_of_ble_eq_true rfl) ?_
  refine CallR.mono hE ?_
  rintro o8 _ ⟨I5, R6, S7, rfl, hE⟩
  obtain ⟨o9, hE⟩ := hE
  refine s53 (o := o8) o9.sh o9.sp (by decide) o9.zr ?_
  refine s83 ?_
  exact hE
set_option maxRecDepth 4000 in
theorem e192 {d L : Nat} {I : Nat → Nat → Int32} {R : Nat → Nat → Option Nat} {S : List (Nat × Nat)} {K : mM → Prop}  {p0 : Nat} (hE : CallV d 127 [.ref 53, .int (oI 0)] (bd L I R S) (fun s => ∃ (I1 : mI) (R2 : mR) (S3 : mSh), s = bd L I1 R2 S3 ∧ (obJ S3 p0 15 8 ∧ (((ld I1 p0 1 = 129) → K (bd L I1 R2 S3)) ∧ (¬ (ld I1 p0 1 = 129) → CallV d 41 [.ref 53, .int (oI 128)] (bd L I1 R2 S3) (fun s => ∃ (I6 : mI) (R7 : mR) (S8 : mSh), s = bd L I6 R7 S8 ∧ (obJ S8 p0 15 8 ∧ (CallV d 43 [.ref 53, .int (oI (ld I6 p0 0))] (bd L I6 R7 S8) (fun s => ∃ (I10 : mI) (R11 : mR) (S12 : mSh), s = bd L I10 R11 S12 ∧ (CallR d 130 [.ref 53, .int (oI 58)] (bd L I10 R11 S12) (fun o16 s => ∃ (I13 : mI) (R14 : mR) (S15 : mSh), s = bd L I13 R14 S15 ∧ (obJ S15 p0 15 8 ∧ (CallV d 41 [.ref 53, .int (oI (ld I13 p0 1))] (bd L I13 R14 S15) (fun s => ∃ (I18 : mI) (R19 : mR) (S20 : mSh), s = bd L I18 R19 S20 ∧ (obJ S20 p0 15 8 ∧ (CallV d 193 [.ref p0, .ref 53] (bd L I18 R19 S20) (fun s => ∃ (I22 : mI) (R23 : mR) (S24 : mSh), s = bd L I22 R23 S24 ∧ (obJ S24 p0 15 8 ∧ (((R23 p0 6 = none) → h192_2 (d + 1) L I22 R23 S24 (rqV K) p0) ∧ (∀ p26 : Nat, (R23 p0 6 = some p26) → CallV d 41 [.ref 53, .int (oI 162)] (bd L I22 R23 S24) (fun s => ∃ (I28 : mI) (R29 : mR) (S30 : mSh), s = bd L I28 R29 S30 ∧ (obJ S30 p0 15 8 ∧ (∃ (p32 : Nat), (R29 p0 6 = some p32) ∧ obJ S30 p32 16 5 ∧ (CallV d 198 [.ref p32, .ref 53, .int (oI 0)] (bd L I28 R29 S30) (fun s => ∃ (I35 : mI) (R36 : mR) (S37 : mSh), s = bd L I35 R36 S37 ∧ (h192_2 (d + 1) L I35 R36 S37 (rqV K) p0)))))))))))))))))))))))))) : CallV (d + 1) 192 [.ref p0, .ref 53] (bd L I R S) K := by
  refine cV_of (ls := [.ref p0, .ref 53]) rfl ?_
  refine xG gb192.1 ?_
  refine s6 (p := 53) rfl ?_
  refine s0 ?_
  refine sV rc127 rfl (Nat.le_of_ble_eq_true rfl) ?_
  refine CallV.mono hE ?_
  rintro _ ⟨I1, R2, S3, rfl, hE⟩
  refine s6 (p := p0) rfl ?_
  obtain ⟨o4, hE⟩ := hE
  refine s50 (v := ld I1 p0 1) o4.sh o4.sp (by decide) (oI_ld _ _ _) ?_
  refine s0 ?_
  refine s62 (ld_inR _ _ _) (inRd rfl) (fun c5 => ?_) (fun c5 => ?_)
  · replace hE := hE.1 c5
    refine s83 ?_
    exact rqV_of hE
  · replace hE := hE.2 c5
    refine xG gb192.2.1 ?_
    refine s6 (p := 53) rfl ?_
    refine s0 ?_
    refine sV rc41 rfl (Nat.le_of_ble_eq_true rfl) ?_
    refine CallV.mono hE ?_
    rintro _ ⟨I6, R7, S8, rfl, hE⟩
    refine s6 (p := 53) rfl ?_
    refine s6 (p := p0) rfl ?_
    obtain ⟨o9, hE⟩ := hE
    refine s50 (v := ld I6 p0 0) o9.sh o9.sp (by decide) (oI_ld _ _ _) ?_
    refine sV rc43 rfl (Nat.le_of_ble_eq_true rfl) ?_
    refine CallV.mono hE ?_
    rintro _ ⟨I10, R11, S12, rfl, hE⟩
    refine s6 (p := 53) rfl ?_
    refine s0 ?_
    refine sR rc130 rfl (Nat.le_of_ble_eq_true rfl) ?_
    refine CallR.mono hE ?_
    rintro o16 _ ⟨I13, R14, S15, rfl, hE⟩
    refine s12o ?_
    refine s6 (p := 53) rfl ?_
    refine s6 (p := p0) rfl ?_
    obtain ⟨o17, hE⟩ := hE
    refine s50 (v := ld I13 p0 1) o17.sh o17.sp (by decide) (oI_ld _ _ _) ?_
    refine sV rc41 rfl (Nat.le_of_ble_eq_true rfl) ?_
    refine CallV.mono hE ?_
    rintro _ ⟨I18, R19, S20, rfl, hE⟩
    refine s6 (p := p0) rfl ?_
    refine s6 (p := 53) rfl ?_
    obtain ⟨o21, hE⟩ := hE
    refine sV (rcvO o21 rfl rfl) rfl (Nat.le_of_ble_eq_true rfl) ?_
    refine CallV.mono hE ?_
    rintro _ ⟨I22, R23, S24, rfl, hE⟩
    refine s6 (p := p0) rfl ?_
    obtain ⟨o25, hE⟩ := hE
    refine s51o (o := R23 p0 6) o25.sh o25.sp (by decide) o25.rf ?_
    refine s73o (fun n27 => ?_) (fun p26 n27 => ?_)
    · replace hE := hE.1 n27
      (try rw [n27])
      show Wp _ _ [.ref p0, .ref 53] [] _ _
      exact hE
    · replace hE := hE.2 p26 n27
      (try rw [n27])
      show Wp _ _ [.ref p0, .ref 53] [] _ _
      refine s6 (p := 53) rfl ?_
      refine s0 ?_
      refine sV rc41 rfl (Nat.le_of_ble_eq_true rfl) ?_
      refine CallV.mono hE ?_
      rintro _ ⟨I28, R29, S30, rfl, hE⟩
      refine s6 (p := p0) rfl ?_
      obtain ⟨o31, hE⟩ := hE
      refine s51o (o := R29 p0 6) o31.sh o31.sp (by decide) o31.rf ?_
      refine s6 (p := 53) rfl ?_
      refine s0 ?_
      obtain ⟨p32, n33, o34, hE⟩ := hE
      (try rw [n33])
      show Wp _ _ [.ref p0, .ref 53] [.int (oI 0), .ref 53, .ref p32] _ _
      refine sV (rcvO o34 rfl rfl) rfl (Nat.le_of_ble_eq_true rfl) ?_
      refine CallV.mono hE ?_
      rintro _ ⟨I35, R36, S37, rfl, hE⟩
      refine s79 ?_
      exact hE
/-- a clause object but for its text -/
def ClF (R : mR) (S : mSh) (I : mI) (act : Int) (q : Nat) (o : Stm) : Prop := obJ S q 15 8 ∧ ld I q 0 = o.1 ∧ ld I q 1 = ckd o.2.1.1 ∧ ld I q 5 = act ∧ (ld I q 2 = cOf o.2.1.1 o.2.1.2.1 o.2.1.2.2 ∧ ld I q 3 = cPer o.2.1.1 o.2.1.2.2 ∧ ld I q 4 = cVal o.2.1.1 o.2.1.2.1 o.2.1.2.2) ∧ (o.2.2 = none → R q 6 = none) ∧ (∀ t, o.2.2 = some t → ∃ q2, R q 6 = some q2 ∧ NAny R S I 10 q2 t)
def cTw (t : Option (Any 10)) : List Tk := match t with
  | none => []
  | some t => tW wIf :: tAny (cOne 10) (tOne 10) 0 t
def cT (o : Stm) : List Tk := tW wClause :: tN o.1 :: tS 58 :: (tW (bdW o.2.1.1) :: (bdR o.2.1.1 o.2.1.2.1 o.2.1.2.2 ++ cTw o.2.2) ++ [tS 59])
section
variable {d D L m : Nat} {I I0 I1 I2 : mI} {R R0 R1 R2 : mR} {S S0 S1 S2 : mSh} {n n0 n1 n2 b k e i q w q1 : Nat} {x c v kd act : Int} {K : mM → Prop} {ts us : List Tk} {as : List Value} {o : Stm}
theorem ClS.clf (h : ClS R S I act q o) : ClF R S I act q o := ⟨h.1, h.2.1, h.2.2.1, h.2.2.2.1, h.2.2.2.2.1, h.2.2.2.2.2.1, h.2.2.2.2.2.2.1⟩
theorem ClF.ext (h : ClF R S I act q o) (he : Ext R S I R1 S1 I1) : ClF R1 S1 I1 act q o := by
  obtain ⟨h1, h2, h3, h4, ⟨h5, h6, h7⟩, h8, h9⟩ := h
  have e := he.1 q 15 8 h1 (Or.inl (by decide))
  have e3 := e.2.2.1 (by decide)
  have l : ∀ k, ld I1 q k = ld I q k := fun k => he.ld h1 (Or.inl (by decide))
  refine ⟨e.1, (l 0).trans h2, (l 1).trans h3, (l 5).trans h4, ⟨(l 2).trans h5, (l 3).trans h6, (l 4).trans h7⟩, fun g => by rw [e3]; exact h8 g, fun t g => ?_⟩
  obtain ⟨q2, a1, a2⟩ := h9 t g
  exact ⟨q2, by rw [e3]; exact a1, a2.ext he⟩
/-- where the writing of a clause stands: ts is written -/
def Wat (I0 : mI) (R0 : mR) (S0 : mSh) (n0 : Nat) (act : Int) (q : Nat) (o : Stm) (ts : List Tk) (I : mI) (R : mR) (S : mSh) (n : Nat) : Prop := Gp I0 R0 S0 I R S n0 n ∧ PenS I R S (rnd ([], false) ts).1 n ∧ lst (rnd ([], false) ts).1 = (rnd ([], false) ts).2 ∧ ClF R S I act q o
theorem Wat.rw (h : Wat I0 R0 S0 n0 act q o ts I R S n) : rnd ((rnd ([], false) ts).1, lst (rnd ([], false) ts).1) us = rnd ([], false) (ts ++ us) := by
  rw [h.2.2.1, rnd_app]
theorem Wat.step (h : Wat I0 R0 S0 n0 act q o ts I R S n) (cw : CwS D L m as us I R S) (hl : (rnd ([], false) (ts ++ us)).1.length ≤ 1900) (hK : ∀ I1 R1 S1 n1, Wat I0 R0 S0 n0 act q o (ts ++ us) I1 R1 S1 n1 → K (bd L I1 R1 S1)) : CallV D m as (bd L I R S) K := by
  refine cw _ n K h.2.1 (by rw [h.rw]; exact hl) (fun I1 R1 S1 n1 g p1 e1 => hK I1 R1 S1 n1 ⟨h.1.trans g, ?_, ?_, h.2.2.2.ext (g.ext h.2.1)⟩)
  · rw [h.rw] at p1; exact p1
  · rw [h.rw] at e1; exact e1
theorem Wat.sign {K : Option Nat → mM → Prop} (h : Wat I0 R0 S0 n0 act q o ts I R S n) (hc : isg c) (hl : (rnd ([], false) (ts ++ [tS c])).1.length ≤ 1900) (hK : ∀ I1 R1 S1 n1, Wat I0 R0 S0 n0 act q o (ts ++ [tS c]) I1 R1 S1 n1 → K (some 53) (bd L I1 R1 S1)) : CallR (d + 5) 130 [.ref 53, .int (oI c)] (bd L I R S) K := by
  refine cw130 hc h.2.1 (by rw [h.rw]; exact hl) (fun I1 R1 S1 n1 g p1 e1 => hK I1 R1 S1 n1 ⟨h.1.trans g, ?_, ?_, h.2.2.2.ext (g.ext h.2.1)⟩)
  · rw [h.rw] at p1; exact p1
  · rw [h.rw] at e1; exact e1
theorem wl1 (h : (rnd ([], false) (ts ++ us)).1.length ≤ 1900) : (rnd ([], false) ts).1.length ≤ 1900 := by
  rw [rnd_app] at h
  exact Nat.le_trans (rnd_le us _) h
theorem k194 (hi : i < 41) (hx : x = 128 + (i : Int)) (hv : cVal o.2.1.1 o.2.1.2.1 o.2.1.2.2 = v) (hv2 : 0 ≤ v ∧ v ≤ 9999) (h : Wat I0 R0 S0 n0 act q o ts I R S n) (hl : (rnd ([], false) (ts ++ [tW (wc i), tN v])).1.length ≤ 1900) (hK : ∀ I1 R1 S1 n1, Wat I0 R0 S0 n0 act q o (ts ++ [tW (wc i), tN v]) I1 R1 S1 n1 → K (bd L I1 R1 S1)) : CallV (d + 8) 194 [.ref q, .ref 53, .int (oI x)] (bd L I R S) K := by
  have e1 : ts ++ [tW (wc i), tN v] = ts ++ [tW (wc i)] ++ [tN v] := by rw [List.append_assoc]; rfl
  rw [e1] at hl hK
  refine e194 (d := d + 7) (h.step (cw41 (d := d) hi hx) (wl1 hl) (fun I1 R1 S1 n1 h1 => ⟨I1, R1, S1, rfl, h1.2.2.2.1, ?_⟩))
  rw [h1.2.2.2.2.2.2.2.1.2.2, hv]
  exact h1.step (cw43 (d := d) hv2) hl (fun I2 R2 S2 n2 h2 => ⟨I2, R2, S2, rfl, hK I2 R2 S2 n2 h2⟩)
theorem bd_wc : ∀ k : Fin 16, 1 ≤ k.val → wc ((ckd (k.val : Int)).toNat - 128) = bdW (k.val : Int) ∧ 128 ≤ ckd (k.val : Int) ∧ ckd (k.val : Int) < 169 := by decide +kernel
end
