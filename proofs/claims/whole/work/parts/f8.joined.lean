theorem CallR.mono {d m : Nat} {as : List Value} {σ : mM} {K K2 : Option Nat → mM → Prop} (h : CallR d m as σ K) (hk : ∀ y s, K y s → K2 y s) : CallR d m as σ K2 := Wp.mono h (fun _ _ ⟨x, a, b⟩ => ⟨x, a, hk _ _ b⟩)
def h123_5 (d L : Nat) (I : Nat → Nat → Int32) (R : Nat → Nat → Option Nat) (S : List (Nat × Nat)) (Q : Option Value → mM → Prop) (x1 : Int) (x2 : Int) (p3 : Nat) (p4 : Nat) (x5 : Int) (w6 : Value) : Prop := Wp d (gb 123 5) [.ref 46, .int (oI x1), .int (oI x2), .ref p3, .ref p4, .int (oI x5), w6] [] (bd L I R S) Q
set_option maxRecDepth 4000 in
theorem e123_5 {d L : Nat} {I : Nat → Nat → Int32} {R : Nat → Nat → Option Nat} {S : List (Nat × Nat)} {Q : Option Value → mM → Prop}  {x1 : Int} {x2 : Int} {p3 : Nat} {p4 : Nat} {x5 : Int} {w6 : Value} (hE : inR x5 ∧ (((x5 < 800) → (0 ≤ ld I 46 7 ∧ ld I 46 7 < 801) ∧ (inR x1 ∧ (((ld I 48 (ld I 46 7).toNat = x1) → ((x1 = 163) → CallR d 123 [.ref 46, .int (oI 164), .int (oI x2)] (bd L (u2 I 46 7 (oI (ld I 46 7 + 1))) R S) (fun o10 s => ∃ (I7 : mI) (R8 : mR) (S9 : mSh), s = bd L I7 R8 S9 ∧ (((o10 = none) → Q (some (.null)) (bd L I7 R8 S9)) ∧ (∀ p11 : Nat, (o10 = some p11) → obJ S9 p4 16 5 ∧ (obJ S9 p3 16 5 ∧ (h123_5 (d + 1) L I7 (u2 R8 p3 4 (some p11)) S9 Q x1 x2 p11 p4 (x5 + 1) (.ref p11))))))) ∧ (¬ (x1 = 163) → CallR d 124 [.ref 46, .int (oI x2)] (bd L (u2 I 46 7 (oI (ld I 46 7 + 1))) R S) (fun o18 s => ∃ (I15 : mI) (R16 : mR) (S17 : mSh), s = bd L I15 R16 S17 ∧ (((o18 = none) → Q (some (.null)) (bd L I15 R16 S17)) ∧ (∀ p19 : Nat, (o18 = some p19) → obJ S17 p4 16 5 ∧ (obJ S17 p3 16 5 ∧ (h123_5 (d + 1) L I15 (u2 R16 p3 4 (some p19)) S17 Q x1 x2 p19 p4 (x5 + 1) (.ref p19)))))))) ∧ (¬ (ld I 48 (ld I 46 7).toNat = x1) → Q (some (.ref p4)) (bd L I R S))))) ∧ (¬ (x5 < 800) → Q (some (.ref p4)) (bd L I R S)))) : h123_5 (d + 1) L I R S Q x1 x2 p3 p4 x5 w6 := by
  unfold h123_5
  refine xG gb123.2.2.2.2.2.1 ?_
  refine s4 (x := x5) rfl ?_
  refine s0 ?_
  obtain ⟨g1, hE⟩ := hE
  refine s64 g1 (inRd rfl) (fun c2 => ?_) (fun c2 => ?_)
  · replace hE := hE.1 c2
    refine s6 (p := 46) rfl ?_
    refine s51 sh46 (by decide) (by decide) rf46_3 ?_
    refine s6 (p := 46) rfl ?_
    refine s50 (v := ld I 46 7) sh46 (by decide) (by decide) (oI_ld _ _ _) ?_
    obtain ⟨g3, hE⟩ := hE
    refine s40 (v := ld I 48 (ld I 46 7).toNat) sh48 g3 rfl (oI_ld _ _ _) ?_
    refine s4 (x := x1) rfl ?_
    obtain ⟨g4, hE⟩ := hE
    refine s62 (ld_inR _ _ _) g4 (fun c5 => ?_) (fun c5 => ?_)
    · replace hE := hE.1 c5
      refine s6 (p := 46) rfl ?_
      refine s13r ?_
      refine s50 (v := ld I 46 7) sh46 (by decide) (by decide) (oI_ld _ _ _) ?_
      refine s0 ?_
      refine s16 ?_
      refine s52 sh46 (by decide) (by decide) ?_
      refine s4 (x := x1) rfl ?_
      refine s0 ?_
      refine s62 g4 (inRd rfl) (fun c6 => ?_) (fun c6 => ?_)
      · replace hE := hE.1 c6
        refine s6 (p := 46) rfl ?_
        refine s0 ?_
        refine s4 (x := x2) rfl ?_
        refine sR rc123 rfl (Nat.le_of_ble_eq_true rfl) ?_
        refine CallR.mono hE ?_
        rintro o10 _ ⟨I7, R8, S9, rfl, hE⟩
        refine s60 ?_
        refine xG gb123.2.2.2.2.2.2.2.1 ?_
        refine s9o (ls' := [.ref 46, .int (oI x1), .int (oI x2), .ref p3, .ref p4, .int (oI x5), vR o10]) (Nat.le_of_ble_eq_true rfl) rfl ?_
        refine s6o (o := o10) rfl ?_
        refine s74o (fun n12 => ?_) (fun p11 n12 => ?_)
        · replace hE := hE.1 n12
          (try rw [n12])
          show Wp _ _ [.ref 46, .int (oI x1), .int (oI x2), .ref p3, .ref p4, .int (oI x5), .null] [] _ _
          refine s3 ?_
          refine s82o (o := none) ?_
          exact hE
        · replace hE := hE.2 p11 n12
          (try rw [n12])
          show Wp _ _ [.ref 46, .int (oI x1), .int (oI x2), .ref p3, .ref p4, .int (oI x5), .ref p11] [] _ _
          refine xG gb123.2.2.2.2.2.2.2.2.1 ?_
          refine s6 (p := p4) rfl ?_
          refine s6 (p := p3) rfl ?_
          refine s6 (p := p11) rfl ?_
          obtain ⟨o13, hE⟩ := hE
          refine sV (rcvO o13 rfl rfl) rfl (Nat.le_of_ble_eq_true rfl) ?_
          refine cV_of (ls := [.ref p4, .ref p3, .ref p11]) rfl ?_
          refine xG gb197.1 ?_
          refine s6 (p := p3) rfl ?_
          refine s74o (o := some p3) (fun h => absurd h (by simp)) (fun _ _ => ?_)
          refine xG gb197.2.1 ?_
          refine s6 (p := p3) rfl ?_
          refine s6 (p := p11) rfl ?_
          obtain ⟨o14, hE⟩ := hE
          refine s53 (o := (some p11)) o14.sh o14.sp (by decide) o14.zr ?_
          refine s79 ?_
          refine xG gb197.2.2 ?_
          refine s83 ?_
          refine rqV_of ?_
          refine s6 (p := p11) rfl ?_
          refine s9 (ls' := [.ref 46, .int (oI x1), .int (oI x2), .ref p11, .ref p4, .int (oI x5), .ref p11]) (Nat.le_of_ble_eq_true rfl) rfl ?_
          refine s10 (x := x5) (ls' := [.ref 46, .int (oI x1), .int (oI x2), .ref p11, .ref p4, .int (oI (x5 + 1)), .ref p11]) rfl rfl ?_
          refine s60 ?_
          exact hE
      · replace hE := hE.2 c6
        refine xG gb123.2.2.2.2.2.2.1 ?_
        refine s6 (p := 46) rfl ?_
        refine s4 (x := x2) rfl ?_
        refine sR rc124 rfl (Nat.le_of_ble_eq_true rfl) ?_
        refine CallR.mono hE ?_
        rintro o18 _ ⟨I15, R16, S17, rfl, hE⟩
        refine s79 ?_
        refine xG gb123.2.2.2.2.2.2.2.1 ?_
        refine s9o (ls' := [.ref 46, .int (oI x1), .int (oI x2), .ref p3, .ref p4, .int (oI x5), vR o18]) (Nat.le_of_ble_eq_true rfl) rfl ?_
        refine s6o (o := o18) rfl ?_
        refine s74o (fun n20 => ?_) (fun p19 n20 => ?_)
        · replace hE := hE.1 n20
          (try rw [n20])
          show Wp _ _ [.ref 46, .int (oI x1), .int (oI x2), .ref p3, .ref p4, .int (oI x5), .null] [] _ _
          refine s3 ?_
          refine s82o (o := none) ?_
          exact hE
        · replace hE := hE.2 p19 n20
          (try rw [n20])
          show Wp _ _ [.ref 46, .int (oI x1), .int (oI x2), .ref p3, .ref p4, .int (oI x5), .ref p19] [] _ _
          refine xG gb123.2.2.2.2.2.2.2.2.1 ?_
          refine s6 (p := p4) rfl ?_
          refine s6 (p := p3) rfl ?_
          refine s6 (p := p19) rfl ?_
          obtain ⟨o21, hE⟩ := hE
          refine sV (rcvO o21 rfl rfl) rfl (Nat.le_of_ble_eq_true rfl) ?_
          refine cV_of (ls := [.ref p4, .ref p3, .ref p19]) rfl ?_
          refine xG gb197.1 ?_
          refine s6 (p := p3) rfl ?_
          refine s74o (o := some p3) (fun h => absurd h (by simp)) (fun _ _ => ?_)
          refine xG gb197.2.1 ?_
          refine s6 (p := p3) rfl ?_
          refine s6 (p := p19) rfl ?_
          obtain ⟨o22, hE⟩ := hE
          refine s53 (o := (some p19)) o22.sh o22.sp (by decide) o22.zr ?_
          refine s79 ?_
          refine xG gb197.2.2 ?_
          refine s83 ?_
          refine rqV_of ?_
          refine s6 (p := p19) rfl ?_
          refine s9 (ls' := [.ref 46, .int (oI x1), .int (oI x2), .ref p19, .ref p4, .int (oI x5), .ref p19]) (Nat.le_of_ble_eq_true rfl) rfl ?_
          refine s10 (x := x5) (ls' := [.ref 46, .int (oI x1), .int (oI x2), .ref p19, .ref p4, .int (oI (x5 + 1)), .ref p19]) rfl rfl ?_
          refine s60 ?_
          exact hE
    · replace hE := hE.2 c5
      refine xG gb123.2.2.2.2.2.2.2.2.2 ?_
      refine s6 (p := p4) rfl ?_
      refine s82o (o := some p4) ?_
      exact hE
  · replace hE := hE.2 c2
    refine xG gb123.2.2.2.2.2.2.2.2.2 ?_
    refine s6 (p := p4) rfl ?_
    refine s82o (o := some p4) ?_
    exact hE
set_option maxRecDepth 4000 in
theorem e123 {d L : Nat} {I : Nat → Nat → Int32} {R : Nat → Nat → Option Nat} {S : List (Nat × Nat)} {K : Option Nat → mM → Prop}  {x1 : Int} {x2 : Int} (hE : inR x1 ∧ (((x1 = 163) → CallR (d + 1) 123 [.ref 46, .int (oI 164), .int (oI x2)] (bd L I R S) (fun o6 s => ∃ (I3 : mI) (R4 : mR) (S5 : mSh), s = bd L I3 R4 S5 ∧ (((o6 = none) → K none (bd L I3 R4 S5)) ∧ (∀ p7 : Nat, (o6 = some p7) → (0 ≤ ld I3 46 7 ∧ ld I3 46 7 < 801) ∧ (((ld I3 48 (ld I3 46 7).toNat = x1) → ∀ (p11 : Nat) (I12 : mI) (R13 : mR) (S14 : mSh), (AlC 16 5 I3 R4 S5 p11 I12 R13 S14) → (h123_5 (d + 2) L (u2 (u2 (u2 I12 p11 0 (oI x1)) p11 1 (oI 0)) p11 2 (oI 0)) (u2 R13 p11 3 (some p7)) S14 (rqR K) x1 x2 p7 p11 0 mUn)) ∧ (¬ (ld I3 48 (ld I3 46 7).toNat = x1) → K (some p7) (bd L I3 R4 S5))))))) ∧ (¬ (x1 = 163) → CallR (d + 1) 124 [.ref 46, .int (oI x2)] (bd L I R S) (fun o19 s => ∃ (I16 : mI) (R17 : mR) (S18 : mSh), s = bd L I16 R17 S18 ∧ (((o19 = none) → K none (bd L I16 R17 S18)) ∧ (∀ p20 : Nat, (o19 = some p20) → (0 ≤ ld I16 46 7 ∧ ld I16 46 7 < 801) ∧ (((ld I16 48 (ld I16 46 7).toNat = x1) → ∀ (p24 : Nat) (I25 : mI) (R26 : mR) (S27 : mSh), (AlC 16 5 I16 R17 S18 p24 I25 R26 S27) → (h123_5 (d + 2) L (u2 (u2 (u2 I25 p24 0 (oI x1)) p24 1 (oI 0)) p24 2 (oI 0)) (u2 R26 p24 3 (some p20)) S27 (rqR K) x1 x2 p20 p24 0 mUn)) ∧ (¬ (ld I16 48 (ld I16 46 7).toNat = x1) → K (some p20) (bd L I16 R17 S18))))))))) : CallR (d + 2) 123 [.ref 46, .int (oI x1), .int (oI x2)] (bd L I R S) K := by
  refine cR_of (ls := [.ref 46, .int (oI x1), .int (oI x2), mUn, mUn, mUn, mUn]) rfl ?_
  refine xG gb123.1 ?_
  refine s4 (x := x1) rfl ?_
  refine s0 ?_
  obtain ⟨g1, hE⟩ := hE
  refine s62 g1 (inRd rfl) (fun c2 => ?_) (fun c2 => ?_)
  · replace hE := hE.1 c2
    refine s6 (p := 46) rfl ?_
    refine s0 ?_
    refine s4 (x := x2) rfl ?_
    refine sR rc123 rfl (Nat.le_of_ble_eq_true rfl) ?_
    refine CallR.mono hE ?_
    rintro o6 _ ⟨I3, R4, S5, rfl, hE⟩
    refine s60 ?_
    refine xG gb123.2.2.1 ?_
    refine s9o (ls' := [.ref 46, .int (oI x1), .int (oI x2), vR o6, mUn, mUn, mUn]) (Nat.le_of_ble_eq_true rfl) rfl ?_
    refine s6o (o := o6) rfl ?_
    refine s73o (fun n8 => ?_) (fun p7 n8 => ?_)
    · replace hE := hE.1 n8
      (try rw [n8])
      show Wp _ _ [.ref 46, .int (oI x1), .int (oI x2), .null, mUn, mUn, mUn] [] _ _
      refine xG gb123.2.2.2.1 ?_
      refine s6n rfl ?_
      refine s82o (o := none) ?_
      exact rqR_of (x := none) hE
    · replace hE := hE.2 p7 n8
      (try rw [n8])
      show Wp _ _ [.ref 46, .int (oI x1), .int (oI x2), .ref p7, mUn, mUn, mUn] [] _ _
      refine s6 (p := 46) rfl ?_
      refine s51 sh46 (by decide) (by decide) rf46_3 ?_
      refine s6 (p := 46) rfl ?_
      refine s50 (v := ld I3 46 7) sh46 (by decide) (by decide) (oI_ld _ _ _) ?_
      obtain ⟨g9, hE⟩ := hE
      refine s40 (v := ld I3 48 (ld I3 46 7).toNat) sh48 g9 rfl (oI_ld _ _ _) ?_
      refine s4 (x := x1) rfl ?_
      refine s61 (ld_inR _ _ _) g1 (fun c10 => ?_) (fun c10 => ?_)
      · replace hE := hE.1 c10
        refine xG gb123.2.2.2.2.1 ?_
        refine s58 rfl (fun p11 I12 R13 S14 a15 => ?_)
        replace hE := hE p11 I12 R13 S14 a15
        refine s13r ?_
        refine s4 (x := x1) rfl ?_
        refine s0 ?_
        refine s0 ?_
        refine sV (rcvO a15.ob rfl rfl) rfl (Nat.le_of_ble_eq_true rfl) ?_
        refine cV_of (ls := [.ref p11, .int (oI x1), .int (oI 0), .int (oI 0)]) rfl ?_
        refine xG gb196 ?_
        refine s6 (p := p11) rfl ?_
        refine s107 (Nat.le_of_ble_eq_true rfl) ?_
        refine s6 (p := p11) rfl ?_
        refine s4 (x := x1) rfl ?_
        refine s52 a15.ob.sh a15.ob.sp (by decide) ?_
        refine s6 (p := p11) rfl ?_
        refine s4 (x := 0) rfl ?_
        refine s52 a15.ob.sh a15.ob.sp (by decide) ?_
        refine s6 (p := p11) rfl ?_
        refine s4 (x := 0) rfl ?_
        refine s52 a15.ob.sh a15.ob.sp (by decide) ?_
        refine s83 ?_
        refine rqV_of ?_
        refine s9 (ls' := [.ref 46, .int (oI x1), .int (oI x2), .ref p7, .ref p11, mUn, mUn]) (Nat.le_of_ble_eq_true rfl) rfl ?_
        refine s6 (p := p11) rfl ?_
        refine s3 ?_
        refine s6 (p := p7) rfl ?_
        refine sV (rcvO a15.ob rfl rfl) rfl (Nat.le_of_ble_eq_true rfl) ?_
        refine cV_of (ls := [.ref p11, .null, .ref p7]) rfl ?_
        refine xG gb197.1 ?_
        refine s6n rfl ?_
        refine s74o (o := none) (fun _ => ?_) (fun _ h => absurd h (by simp))
        refine s6 (p := p11) rfl ?_
        refine s6 (p := p7) rfl ?_
        refine s53 (o := (some p7)) a15.ob.sh a15.ob.sp (by decide) a15.ob.zr ?_
        refine s60 ?_
        refine xG gb197.2.2 ?_
        refine s83 ?_
        refine rqV_of ?_
        refine s0 ?_
        refine s7 (ls' := [.ref 46, .int (oI x1), .int (oI x2), .ref p7, .ref p11, .int (oI 0), mUn]) (Nat.le_of_ble_eq_true rfl) rfl ?_
        refine s79 ?_
        exact hE
      · replace hE := hE.2 c10
        refine s79 ?_
        refine xG gb123.2.2.2.1 ?_
        refine s6 (p := p7) rfl ?_
        refine s82o (o := some p7) ?_
        exact rqR_of (x := (some p7)) hE
  · replace hE := hE.2 c2
    refine xG gb123.2.1 ?_
    refine s6 (p := 46) rfl ?_
    refine s4 (x := x2) rfl ?_
    refine sR rc124 rfl (Nat.le_of_ble_eq_true rfl) ?_
    refine CallR.mono hE ?_
    rintro o19 _ ⟨I16, R17, S18, rfl, hE⟩
    refine s79 ?_
    refine xG gb123.2.2.1 ?_
    refine s9o (ls' := [.ref 46, .int (oI x1), .int (oI x2), vR o19, mUn, mUn, mUn]) (Nat.le_of_ble_eq_true rfl) rfl ?_
    refine s6o (o := o19) rfl ?_
    refine s73o (fun n21 => ?_) (fun p20 n21 => ?_)
    · replace hE := hE.1 n21
      (try rw [n21])
      show Wp _ _ [.ref 46, .int (oI x1), .int (oI x2), .null, mUn, mUn, mUn] [] _ _
      refine xG gb123.2.2.2.1 ?_
      refine s6n rfl ?_
      refine s82o (o := none) ?_
      exact rqR_of (x := none) hE
    · replace hE := hE.2 p20 n21
      (try rw [n21])
      show Wp _ _ [.ref 46, .int (oI x1), .int (oI x2), .ref p20, mUn, mUn, mUn] [] _ _
      refine s6 (p := 46) rfl ?_
      refine s51 sh46 (by decide) (by decide) rf46_3 ?_
      refine s6 (p := 46) rfl ?_
      refine s50 (v := ld I16 46 7) sh46 (by decide) (by decide) (oI_ld _ _ _) ?_
      obtain ⟨g22, hE⟩ := hE
      refine s40 (v := ld I16 48 (ld I16 46 7).toNat) sh48 g22 rfl (oI_ld _ _ _) ?_
      refine s4 (x := x1) rfl ?_
      refine s61 (ld_inR _ _ _) g1 (fun c23 => ?_) (fun c23 => ?_)
      · replace hE := hE.1 c23
        refine xG gb123.2.2.2.2.1 ?_
        refine s58 rfl (fun p24 I25 R26 S27 a28 => ?_)
        replace hE := hE p24 I25 R26 S27 a28
        refine s13r ?_
        refine s4 (x := x1) rfl ?_
        refine s0 ?_
        refine s0 ?_
        refine sV (rcvO a28.ob rfl rfl) rfl (Nat.le_of_ble_eq_true rfl) ?_
        refine cV_of (ls := [.ref p24, .int (oI x1), .int (oI 0), .int (oI 0)]) rfl ?_
        refine xG gb196 ?_
        refine s6 (p := p24) rfl ?_
        refine s107 (Nat.le_of_ble_eq_true rfl) ?_
        refine s6 (p := p24) rfl ?_
        refine s4 (x := x1) rfl ?_
        refine s52 a28.ob.sh a28.ob.sp (by decide) ?_
        refine s6 (p := p24) rfl ?_
        refine s4 (x := 0) rfl ?_
        refine s52 a28.ob.sh a28.ob.sp (by decide) ?_
        refine s6 (p := p24) rfl ?_
        refine s4 (x := 0) rfl ?_
        refine s52 a28.ob.sh a28.ob.sp (by decide) ?_
        refine s83 ?_
        refine rqV_of ?_
        refine s9 (ls' := [.ref 46, .int (oI x1), .int (oI x2), .ref p20, .ref p24, mUn, mUn]) (Nat.le_of_ble_eq_true rfl) rfl ?_
        refine s6 (p := p24) rfl ?_
        refine s3 ?_
        refine s6 (p := p20) rfl ?_
        refine sV (rcvO a28.ob rfl rfl) rfl (Nat.le_of_ble_eq_true rfl) ?_
        refine cV_of (ls := [.ref p24, .null, .ref p20]) rfl ?_
        refine xG gb197.1 ?_
        refine s6n rfl ?_
        refine s74o (o := none) (fun _ => ?_) (fun _ h => absurd h (by simp))
        refine s6 (p := p24) rfl ?_
        refine s6 (p := p20) rfl ?_
        refine s53 (o := (some p20)) a28.ob.sh a28.ob.sp (by decide) a28.ob.zr ?_
        refine s60 ?_
        refine xG gb197.2.2 ?_
        refine s83 ?_
        refine rqV_of ?_
        refine s0 ?_
        refine s7 (ls' := [.ref 46, .int (oI x1), .int (oI x2), .ref p20, .ref p24, .int (oI 0), mUn]) (Nat.le_of_ble_eq_true rfl) rfl ?_
        refine s79 ?_
        exact hE
      · replace hE := hE.2 c23
        refine s79 ?_
        refine xG gb123.2.2.2.1 ?_
        refine s6 (p := p20) rfl ?_
        refine s82o (o := some p20) ?_
        exact rqR_of (x := (some p20)) hE
section
variable {d L : Nat} {T : Nat → Int} {N nt : Nat}
/-- how a chain goes on behind xs -/
def chK {α : Type} (T : Nat → Int) (N : Nat) (w : Int64) (e : Nat → Option α × Nat) (f : Nat) (xs : List α) (r : Nat) : Option (List α) × Nat :=
  if tkOk T N (bl T N r) w then (match chP T N w e f (lt T N (bl T N r)) with
    | (none, r') => (none, r')
    | (some l, r') => (some (xs ++ l), r')) else (some xs, bl T N r)
theorem chP_k {α : Type} {w : Int64} {e : Nat → Option α × Nat} {f p : Nat} : chP T N w e (f + 1) p = match e p with
    | (none, r) => (none, r)
    | (some a, r) => chK T N w e f [a] r := rfl
theorem chP_n {α : Type} {w : Int64} {e : Nat → Option α × Nat} {f p r : Nat} (h : e p = (none, r)) : chP T N w e (f + 1) p = (none, r) := by rw [chP_k, h]
theorem chP_s {α : Type} {w : Int64} {e : Nat → Option α × Nat} {f p r : Nat} {a : α} (h : e p = (some a, r)) : chP T N w e (f + 1) p = chK T N w e f [a] r := by rw [chP_k, h]
theorem chK_end {α : Type} {w : Int64} {e : Nat → Option α × Nat} {f r : Nat} {xs : List α} (h : ¬ tkOk T N (bl T N r) w) : chK T N w e f xs r = (some xs, bl T N r) := if_neg h
theorem chK_n {α : Type} {w : Int64} {e : Nat → Option α × Nat} {f r r2 : Nat} {xs : List α} (h : tkOk T N (bl T N r) w) (he : e (lt T N (bl T N r)) = (none, r2)) : chK T N w e (f + 1) xs r = (none, r2) := by
  unfold chK
  rw [if_pos h, chP_n he]
theorem chK_s {α : Type} {w : Int64} {e : Nat → Option α × Nat} {f r r2 : Nat} {xs : List α} {a : α} (h : tkOk T N (bl T N r) w) (he : e (lt T N (bl T N r)) = (some a, r2)) : chK T N w e (f + 1) xs r = chK T N w e f (xs ++ [a]) r2 := by
  unfold chK
  rw [if_pos h, chP_s he]
  unfold chK
  by_cases c : tkOk T N (bl T N r2) w
  · rw [if_pos c, if_pos c]
    generalize chP T N w e f (lt T N (bl T N r2)) = y
    obtain ⟨y1, y2⟩ := y
    cases y1 with
    | none => rfl
    | some l => show (some (xs ++ ([a] ++ l)), y2) = (some (xs ++ [a] ++ l), y2); rw [List.append_assoc]
  · rw [if_neg c, if_neg c]
/-- the same nodes from lo to hi, but for where p3 and p4 go on -/
def AgC (lo hi p3 p4 : Nat) (I : mI) (R : mR) (S : mSh) (I' : mI) (R' : mR) (S' : mSh) : Prop := ∀ p, lo ≤ p → p < hi → (∀ k, I' p k = I p k) ∧ R' p 3 = R p 3 ∧ (¬ p = p3 → ¬ p = p4 → R' p 4 = R p 4) ∧ S'[p - 155]? = S[p - 155]?
theorem lCh {α : Type} {x1 x2 : Int} {i m2 : Nat} {w : Int64} {as2 : List Value} {e : Nat → Option α × Nat} {P : mR → mSh → mI → Nat → α → Prop} {Q : Option Value → mM → Prop} {I0 : mI} {R0 : mR} {S0 : mSh} {t0 p4 : Nat} (hi : i < 41) (hw : wc i = w) (hx : x1 = 128 + (i : Int)) (hsel : (x1 = 163 ∧ m2 = 123 ∧ as2 = [.ref 46, .int (oI 164), .int (oI x2)]) ∨ (¬ x1 = 163 ∧ m2 = 124 ∧ as2 = [.ref 46, .int (oI x2)])) (he : NdC T N nt (d + 1) L m2 as2 e P) (hr : ∀ p, p ≤ N → rdOk N 3 p (e p)) : ∀ (f : Nat) (I : mI) (R : mR) (S : mSh) (t r p3 : Nat) (xs : List α) (x5 : Nat) (w6 : Value), N < r + f → PsC I T N nt t (-1) → bl T N r = plc T N t → r ≤ N → t0 < t → Gw osN [] I0 R0 S0 I R S → (155 + S0.length ≤ p3 ∧ p3 < 155 + S.length) → (155 + S0.length ≤ p4 ∧ p4 < 155 + S.length) → ¬ p3 = p4 → obJ S p3 16 5 → obJ S p4 16 5 → R p3 4 = none → R p4 4 = none → ld I p4 0 = x1 → x5 < t → ((tkK T N (plc T N t) = x1 ∧ xs.length = 1 ∧ S.length + t0 ≤ S0.length + t + 1) ∨ (2 ≤ xs.length ∧ S.length + t0 ≤ S0.length + t)) →
    (∀ I' R' S', AgC (155 + S0.length) (155 + S.length) p3 p4 I R S I' R' S' → ∀ ys, NCh (P R' S' I') R' ys (R' p3 4) → NCh (P R' S' I') R' (xs ++ ys) (R' p4 3)) →
    (∀ r' I1 R1 S1, chK T N w e f xs r = (none, r') → FaG T N nt t0 I0 R0 S0 I1 R1 S1 r' → Q (some .null) (bd L I1 R1 S1)) →
    (∀ l r' I1 R1 S1 t1, chK T N w e f xs r = (some l, r') → CuG T N nt t0 I0 R0 S0 I1 R1 S1 t1 r' → t0 < t1 → Res (fun R S I q l => NJn x1 (P R S I) R S I q l) S0 I1 R1 S1 p4 l → Q (some (.ref p4)) (bd L I1 R1 S1)) →
    h123_5 (d + 2) L I R S Q x1 x2 p3 p4 (x5 : Int) w6 := by
  intro f
  induction f with
  | zero => intro I R S t r p3 xs x5 w6 hf h hb hrN; omega
  | succ f ih =>
    intro I R S t r p3 xs x5 w6 hf h hb hrN ht0 gw hp3 hp4 hne ho3 ho4 hn3 hn4 hk hx5 hph hcl hn hy
    have g := h.at
    have hpl := plc_in (T := T) (N := N) t
    have hm := tk_w (T := T) (N := N) hpl hi hw
    have h7 := h.2.2.1
    have hN := h.2.2.2.2
    have htn := h.2.1
    have hnt := h.1.1
    have hlen := gw.len
    have hx1 : inR x1 := ⟨by omega, by omega⟩
    have step : tkK T N (plc T N t) = x1 → CallR (d + 1) m2 as2 (bd L (u2 I 46 7 (oI (ld I 46 7 + 1))) R S) (fun o10 s => ∃ (I7 : mI) (R8 : mR) (S9 : mSh), s = bd L I7 R8 S9 ∧ (((o10 = none) → Q (some (.null)) (bd L I7 R8 S9)) ∧ (∀ p11 : Nat, (o10 = some p11) → obJ S9 p4 16 5 ∧ (obJ S9 p3 16 5 ∧ (h123_5 (d + 2) L I7 (u2 R8 p3 4 (some p11)) S9 Q x1 x2 p11 p4 ((x5 : Int) + 1) (.ref p11)))))) := by
      intro ck
      have hok : tkOk T N (bl T N r) w := by rw [hb]; exact hm.mpr (by omega)
      have l1 := h.lt (by omega)
      have h1 := h.nx l1.1 (v := ld I 46 7 + 1) (by omega)
      have e1 : bl T N (lt T N (bl T N r)) = plc T N (t + 1) := by
        show _ = bl T N (tkE T N (plc T N t))
        rw [hb, tk_wordE (i := i) (by omega)]
      have hlt := lt_in (T := T) (N := N) (q := bl T N r) (by rw [hb]; exact hpl)
      have hbl := bl_in (T := T) hrN
      have hrd := hr (lt T N (bl T N r)) hlt.2
      refine he _ R S (t + 1) (lt T N (bl T N r)) _ h1.2 e1 hlt.2 (fun r' I1 R1 S1 hs fa => ?_) (fun x r2 I2 R2 S2 t2 q hs cu ht2 res => ?_)
      · obtain ⟨fa1, t3, fa2, fa3, fa4⟩ := fa
        refine ⟨_, _, _, rfl, fun _ => hn r' I1 R1 S1 (chK_n hok hs) ⟨(gw.trans (Gw.fr h1.1)).trans fa1, t3, by omega, ?_, fa4⟩, fun p11 h11 => (by cases h11)⟩
        rcases hph with q1 | q1 <;> omega
      · refine ⟨_, _, _, rfl, fun h9 => (by cases h9), fun p11 h11 => ?_⟩
        obtain rfl := Option.some.inj h11
        obtain ⟨cu1, cu2, cu3, cu4, cu5, cu6⟩ := cu
        have hl2 := cu1.len
        have hq1 := res.1
        rw [hs] at hrd
        have hr2 := hrd.2.2 x rfl
        dsimp only at hr2
        refine ⟨cu1.ob ho4, cu1.ob ho3, ?_⟩
        have cst : ((x5 : Int) + 1) = ((x5 + 1 : Nat) : Int) := by omega
        rw [cst]
        have hI : ∀ p k, 155 ≤ p → p < 155 + S.length → I2 p k = I p k := fun p k h8 h9 => (cu1.2.1 p k h9 (osN_hi h8)).trans (v2_ne (by omega))
        have hR : ∀ p k, p < 155 + S.length → R2 p k = R p k := fun p k h9 => cu1.2.2 p k h9 rfl
        refine ih I2 (u2 R2 p3 4 (some q)) S2 t2 r2 q (xs ++ [x]) (x5 + 1) _ (by omega) cu2 cu3 cu4 (by omega) (((gw.trans (Gw.fr h1.1)).trans cu1).wR hp3.1) ⟨by omega, hq1.2⟩ ⟨hp4.1, by omega⟩ (by omega) res.2.2.1 (cu1.ob ho4) ?_ ?_ ?_ (by omega) (Or.inr ⟨?_, ?_⟩) ?_ ?_ ?_
        · rw [v2_ne (by omega)]; exact res.2.1
        · rw [v2_ne (fun h9 => hne h9.symm), hR p4 4 hp4.2]; exact hn4
        · show (I2 p4 0).toInt = x1
          rw [hI p4 0 (by omega) hp4.2]; exact hk
        · rw [List.length_append]
          show 2 ≤ xs.length + 1
          rcases hph with q1 | q1 <;> omega
        · rcases hph with q1 | q1 <;> omega
        · intro I' R' S' ga ys hys
          have g3 := ga p3 hp3.1 (by omega)
          have e3 : R' p3 4 = some q := (g3.2.2.1 (by omega) hne).trans v2_eq
          have old := hcl I' R' S' (fun p h8 h9 => ?_) (x :: ys) ⟨q, e3, res.2.2.2 I' R' S' (fun p h8 h9 => ?_), hys⟩
          · rw [List.append_assoc]; exact old
          · have gp := ga p h8 (by omega)
            refine ⟨fun k => (gp.1 k).trans (hI p k (by omega) h9), ?_, fun c1 c2 => ?_, gp.2.2.2.trans (cu1.at (by omega))⟩
            · rw [gp.2.1, v2_nk (by decide), hR p 3 h9]
            · rw [gp.2.2.1 (by omega) c2, v2_ne c1, hR p 4 h9]
          · have gp := ga p (by omega) h9
            refine ⟨gp.1, ?_, fun c1 => ?_, gp.2.2.2⟩
            · rw [gp.2.1, v2_nk (by decide)]
            · rw [gp.2.2.1 c1 (by omega), v2_ne (by omega)]
        · intro r' I1 R1 S1 h8 h9
          exact hn r' I1 R1 S1 ((chK_s hok hs).trans h8) h9
        · intro l r' I1 R1 S1 t3 h8 h9
          exact hy l r' I1 R1 S1 t3 ((chK_s hok hs).trans h8) h9
    refine e123_5 (d := d + 1) ⟨⟨by omega, by omega⟩, fun c => ⟨g.2.2.2, hx1, fun ck => ?_, fun ck => ?_⟩, fun c => absurd (show (x5 : Int) < 800 by omega) c⟩
    · rw [g.1] at ck
      rcases hsel with ⟨c1, rfl, rfl⟩ | ⟨c1, rfl, rfl⟩
      · exact ⟨fun _ => step ck, fun c2 => absurd c1 c2⟩
      · exact ⟨fun c2 => absurd c2 c1, fun _ => step ck⟩
    · rw [g.1] at ck
      rcases hph with q1 | q1
      · exact absurd q1.1 ck
      · refine hy xs (bl T N r) I R S t (chK_end (by rw [hb]; exact fun h9 => ck (by have := hm.mp h9; omega))) ⟨gw, h, by rw [bl_bl hrN]; exact hb, (bl_in hrN).2, by omega, q1.2⟩ ht0 ⟨hp4, hn4, ho4, fun I' R' S' ga => ?_⟩
        have g4 := ga p4 hp4.1 hp4.2
        have g3 := ga p3 hp3.1 hp3.2
        refine Or.inr ⟨q1.1, ⟨by omega, g4.2.2.2.trans ho4.2⟩, ?_, ?_⟩
        · show (I' p4 0).toInt = x1
          rw [g4.1 0]; exact hk
        · have := hcl I' R' S' (fun p h8 h9 => ⟨(ga p h8 h9).1, (ga p h8 h9).2.1, fun _ c2 => (ga p h8 h9).2.2.1 c2, (ga p h8 h9).2.2.2⟩) [] ((g3.2.2.1 hne).trans hn3)
          rw [List.append_nil] at this
          exact this
theorem k123 {α : Type} {x1 x2 : Int} {i m2 F : Nat} {w : Int64} {as2 : List Value} {e : Nat → Option α × Nat} {P : mR → mSh → mI → Nat → α → Prop} (hi : i < 41) (hw : wc i = w) (hx : x1 = 128 + (i : Int)) (hsel : (x1 = 163 ∧ m2 = 123 ∧ as2 = [.ref 46, .int (oI 164), .int (oI x2)]) ∨ (¬ x1 = 163 ∧ m2 = 124 ∧ as2 = [.ref 46, .int (oI x2)])) (he : NdC T N nt (d + 1) L m2 as2 e P) (hr : ∀ p, p ≤ N → rdOk N 3 p (e p)) (hF : N < F) : NdC T N nt (d + 2) L 123 [.ref 46, .int (oI x1), .int (oI x2)] (chP T N w e F) (fun R S I q l => NJn x1 (P R S I) R S I q l) := by
  intro I R S t p K h hb hp k0 k1
  obtain ⟨f, rfl⟩ : ∃ f, F = f + 1 := ⟨F - 1, by omega⟩
  have hx1 : inR x1 := ⟨by omega, by omega⟩
  have hrd := hr p hp
  have step : CallR (d + 1) m2 as2 (bd L I R S) (fun o6 s => ∃ (I3 : mI) (R4 : mR) (S5 : mSh), s = bd L I3 R4 S5 ∧ (((o6 = none) → K none (bd L I3 R4 S5)) ∧ (∀ p7 : Nat, (o6 = some p7) → (0 ≤ ld I3 46 7 ∧ ld I3 46 7 < 801) ∧ (((ld I3 48 (ld I3 46 7).toNat = x1) → ∀ (p11 : Nat) (I12 : mI) (R13 : mR) (S14 : mSh), (AlC 16 5 I3 R4 S5 p11 I12 R13 S14) → (h123_5 (d + 2) L (u2 (u2 (u2 I12 p11 0 (oI x1)) p11 1 (oI 0)) p11 2 (oI 0)) (u2 R13 p11 3 (some p7)) S14 (rqR K) x1 x2 p7 p11 0 mUn)) ∧ (¬ (ld I3 48 (ld I3 46 7).toNat = x1) → K (some p7) (bd L I3 R4 S5)))))) := by
    refine he I R S t p _ h hb hp (fun r' I1 R1 S1 hs fa => ⟨_, _, _, rfl, fun _ => k0 r' I1 R1 S1 (chP_n hs) fa, fun p7 h7 => (by cases h7)⟩) (fun x r2 I2 R2 S2 t2 q hs cu ht2 res => ⟨_, _, _, rfl, fun h9 => (by cases h9), fun p7 h7 => ?_⟩)
    obtain rfl := Option.some.inj h7
    rw [hs] at hrd
    have hr2 := hrd.2.2 x rfl
    dsimp only at hr2
    obtain ⟨cu1, cu2, cu3, cu4, cu5, cu6⟩ := cu
    have g := cu2.at
    have hpl := plc_in (T := T) (N := N) t2
    have hm := tk_w (T := T) (N := N) hpl hi hw
    have hl1 := cu1.len
    refine ⟨g.2.2.2, fun ck p11 I12 R13 S14 ha => ?_, fun ck => ?_⟩
    · rw [g.1] at ck
      have hp11 := ha.1
      have hl : S14.length = S2.length + 1 := by rw [ha.2.1, List.length_append]; rfl
      have hq1 := res.1
      have hoq := (ha.keep res.2.2.1)
      refine lCh hi hw hx hsel he hr f (u2 (u2 (u2 I12 p11 0 (oI x1)) p11 1 (oI 0)) p11 2 (oI 0)) (u2 R13 p11 3 (some q)) S14 t2 r2 q [x] 0 mUn (by omega) (cu2.ag (fun a k h9 => ?_)) cu3 cu4 ht2 ((((cu1.trans (Gw.al ha (by decide))).wI (by omega)).wI (by omega)).wI (by omega) |>.wR (by omega)) ⟨hq1.1, by omega⟩ ⟨by omega, by omega⟩ (by omega) hoq.1 ha.ob ?_ ?_ ?_ (by omega) (Or.inl ⟨ck, rfl, by omega⟩) ?_ ?_ ?_
      · rw [v2_ne (by omega), v2_ne (by omega), v2_ne (by omega)]
        exact (ha.2.2.2.2 a k (by omega)).1
      · rw [v2_ne (by omega), (ha.2.2.2.2 q 4 (by omega)).2]; exact res.2.1
      · rw [v2_nk (by decide)]; exact ha.2.2.2.1 4
      · rw [ld_w (inRd rfl), if_neg (by decide), ld_w (inRd rfl), if_neg (by decide), ld_w hx1, if_pos rfl]
      · intro I' R' S' ga ys hys
        have g11 := ga p11 (by omega) (by omega)
        refine ⟨q, g11.2.1.trans v2_eq, res.2.2.2 I' R' S' (fun p h8 h9 => ?_), hys⟩
        have gp := ga p h8 (by omega)
        have ag := ha.2.2.2.2 p
        refine ⟨fun k => ?_, ?_, fun c1 => ?_, ?_⟩
        · rw [gp.1 k, v2_ne (by omega), v2_ne (by omega), v2_ne (by omega)]; exact (ag k (by omega)).1
        · rw [gp.2.1, v2_ne (by omega)]; exact (ag 3 (by omega)).2
        · rw [gp.2.2.1 c1 (by omega), v2_ne (by omega)]; exact (ag 4 (by omega)).2
        · rw [gp.2.2.2, ha.2.1, List.getElem?_append_left (by omega)]
      · intro r' I1 R1 S1 h8 h9
        exact rqR_of (x := none) (k0 r' I1 R1 S1 ((chP_s hs).trans h8) h9)
      · intro l r' I1 R1 S1 t3 h8 h9 h10 h11
        exact rqR_of (x := some p11) (k1 l r' I1 R1 S1 t3 p11 ((chP_s hs).trans h8) h9 h10 h11)
    · rw [g.1] at ck
      have ce : chP T N w e (f + 1) p = (some [x], bl T N r2) := (chP_s hs).trans (chK_end (by rw [cu3]; exact fun h9 => ck (by have := hm.mp h9; omega)))
      exact k1 [x] (bl T N r2) I2 R2 S2 t2 q ce ⟨cu1, cu2, by rw [bl_bl cu4]; exact cu3, (bl_in cu4).2, cu5, cu6⟩ ht2 ⟨res.1, res.2.1, res.2.2.1, fun I' R' S' ga => Or.inl ⟨x, rfl, res.2.2.2 I' R' S' ga⟩⟩
  refine e123 (d := d) ⟨hx1, ?_⟩
  rcases hsel with ⟨c1, rfl, rfl⟩ | ⟨c1, rfl, rfl⟩
  · exact ⟨fun _ => step, fun c2 => absurd c1 c2⟩
  · exact ⟨fun c2 => absurd c2 c1, fun _ => step⟩
end
