set_option maxRecDepth 4000 in
theorem e125 {d L : Nat} {I : Nat → Nat → Int32} {R : Nat → Nat → Option Nat} {S : List (Nat × Nat)} {K : Option Nat → mM → Prop}   (hE : (0 ≤ ld I 46 7 ∧ ld I 46 7 < 801) ∧ (((ld I 48 (ld I 46 7).toNat < 144) → CallV (d + 1) 114 [.ref 46] (bd L I R S) (fun s => ∃ (I3 : mI), s = bd L I3 R S ∧ (K none (bd L I3 R S)))) ∧ (¬ (ld I 48 (ld I 46 7).toNat < 144) → ((155 < ld I 48 (ld I 46 7).toNat) → CallV (d + 1) 114 [.ref 46] (bd L I R S) (fun s => ∃ (I5 : mI), s = bd L I5 R S ∧ (K none (bd L I5 R S)))) ∧ (¬ (155 < ld I 48 (ld I 46 7).toNat) → (0 ≤ ld I 46 7 + 1 ∧ ld I 46 7 + 1 < 801) ∧ (((ld I 48 (ld I 46 7 + 1).toNat = 60) → (0 ≤ ld I 46 7 + 1 + 1 ∧ ld I 46 7 + 1 + 1 < 801) ∧ (((ld I 48 (ld I 46 7 + 1 + 1).toNat = 2) → ∀ (p10 : Nat) (I11 : mI) (R12 : mR) (S13 : mSh), (AlC 16 5 (u2 (u2 (u2 I 46 7 (oI (ld I 46 7 + 1))) 46 7 (oI (ld I 46 7 + 1 + 1))) 46 7 (oI (ld I 46 7 + 1 + 1 + 1))) R S p10 I11 R12 S13) → (K (some p10) (bd L (u2 (u2 (u2 I11 p10 0 (oI (ld I 48 (ld I 46 7).toNat))) p10 1 (oI (ld I 48 (ld I 46 7 + 1).toNat))) p10 2 (oI (ld I 49 (ld I 46 7 + 1 + 1).toNat))) R12 S13))) ∧ (¬ (ld I 48 (ld I 46 7 + 1 + 1).toNat = 2) → CallV (d + 1) 114 [.ref 46] (bd L (u2 (u2 I 46 7 (oI (ld I 46 7 + 1))) 46 7 (oI (ld I 46 7 + 1 + 1))) R S) (fun s => ∃ (I15 : mI), s = bd L I15 R S ∧ (K none (bd L I15 R S)))))) ∧ (¬ (ld I 48 (ld I 46 7 + 1).toNat = 60) → ((ld I 48 (ld I 46 7 + 1).toNat = 62) → (0 ≤ ld I 46 7 + 1 + 1 ∧ ld I 46 7 + 1 + 1 < 801) ∧ (((ld I 48 (ld I 46 7 + 1 + 1).toNat = 2) → ∀ (p19 : Nat) (I20 : mI) (R21 : mR) (S22 : mSh), (AlC 16 5 (u2 (u2 (u2 I 46 7 (oI (ld I 46 7 + 1))) 46 7 (oI (ld I 46 7 + 1 + 1))) 46 7 (oI (ld I 46 7 + 1 + 1 + 1))) R S p19 I20 R21 S22) → (K (some p19) (bd L (u2 (u2 (u2 I20 p19 0 (oI (ld I 48 (ld I 46 7).toNat))) p19 1 (oI (ld I 48 (ld I 46 7 + 1).toNat))) p19 2 (oI (ld I 49 (ld I 46 7 + 1 + 1).toNat))) R21 S22))) ∧ (¬ (ld I 48 (ld I 46 7 + 1 + 1).toNat = 2) → CallV (d + 1) 114 [.ref 46] (bd L (u2 (u2 I 46 7 (oI (ld I 46 7 + 1))) 46 7 (oI (ld I 46 7 + 1 + 1))) R S) (fun s => ∃ (I24 : mI), s = bd L I24 R S ∧ (K none (bd L I24 R S)))))) ∧ (¬ (ld I 48 (ld I 46 7 + 1).toNat = 62) → ((ld I 48 (ld I 46 7 + 1).toNat = 61) → (0 ≤ ld I 46 7 + 1 + 1 ∧ ld I 46 7 + 1 + 1 < 801) ∧ (((ld I 48 (ld I 46 7 + 1 + 1).toNat = 2) → ∀ (p28 : Nat) (I29 : mI) (R30 : mR) (S31 : mSh), (AlC 16 5 (u2 (u2 (u2 I 46 7 (oI (ld I 46 7 + 1))) 46 7 (oI (ld I 46 7 + 1 + 1))) 46 7 (oI (ld I 46 7 + 1 + 1 + 1))) R S p28 I29 R30 S31) → (K (some p28) (bd L (u2 (u2 (u2 I29 p28 0 (oI (ld I 48 (ld I 46 7).toNat))) p28 1 (oI (ld I 48 (ld I 46 7 + 1).toNat))) p28 2 (oI (ld I 49 (ld I 46 7 + 1 + 1).toNat))) R30 S31))) ∧ (¬ (ld I 48 (ld I 46 7 + 1 + 1).toNat = 2) → CallV (d + 1) 114 [.ref 46] (bd L (u2 (u2 I 46 7 (oI (ld I 46 7 + 1))) 46 7 (oI (ld I 46 7 + 1 + 1))) R S) (fun s => ∃ (I33 : mI), s = bd L I33 R S ∧ (K none (bd L I33 R S)))))) ∧ (¬ (ld I 48 (ld I 46 7 + 1).toNat = 61) → CallV (d + 1) 114 [.ref 46] (bd L (u2 I 46 7 (oI (ld I 46 7 + 1))) R S) (fun s => ∃ (I34 : mI), s = bd L I34 R S ∧ (K none (bd L I34 R S))))))))))) : CallR (d + 2) 125 [.ref 46] (bd L I R S) K := by
  refine cR_of (ls := [.ref 46, mUn, mUn, mUn]) rfl ?_
  refine xG gb125.1 ?_
  refine s6 (p := 46) rfl ?_
  refine s51 sh46 (by decide) (by decide) rf46_3 ?_
  refine s6 (p := 46) rfl ?_
  refine s50 (v := ld I 46 7) sh46 (by decide) (by decide) (oI_ld _ _ _) ?_
  obtain ⟨g1, hE⟩ := hE
  refine s40 (v := ld I 48 (ld I 46 7).toNat) sh48 g1 rfl (oI_ld _ _ _) ?_
  refine s7 (ls' := [.ref 46, .int (oI (ld I 48 (ld I 46 7).toNat)), mUn, mUn]) (Nat.le_of_ble_eq_true rfl) rfl ?_
  refine s4 (x := ld I 48 (ld I 46 7).toNat) rfl ?_
  refine s0 ?_
  refine s63 (ld_inR _ _ _) (inRd rfl) (fun c2 => ?_) (fun c2 => ?_)
  · replace hE := hE.1 c2
    refine xG gb125.2.1 ?_
    refine s6 (p := 46) rfl ?_
    refine sV rc114 rfl (Nat.le_of_ble_eq_true rfl) ?_
    refine CallV.mono hE ?_
    rintro _ ⟨I3, rfl, hE⟩
    refine s3 ?_
    refine s82o (o := none) ?_
    exact rqR_of (x := none) hE
  · replace hE := hE.2 c2
    refine s4 (x := ld I 48 (ld I 46 7).toNat) rfl ?_
    refine s0 ?_
    refine s66 (ld_inR _ _ _) (inRd rfl) (fun c4 => ?_) (fun c4 => ?_)
    · replace hE := hE.1 c4
      refine s79 ?_
      refine xG gb125.2.1 ?_
      refine s6 (p := 46) rfl ?_
      refine sV rc114 rfl (Nat.le_of_ble_eq_true rfl) ?_
      refine CallV.mono hE ?_
      rintro _ ⟨I5, rfl, hE⟩
      refine s3 ?_
      refine s82o (o := none) ?_
      exact rqR_of (x := none) hE
    · replace hE := hE.2 c4
      refine xG gb125.2.2.1 ?_
      refine s6 (p := 46) rfl ?_
      refine s13r ?_
      refine s50 (v := ld I 46 7) sh46 (by decide) (by decide) (oI_ld _ _ _) ?_
      refine s0 ?_
      refine s16 ?_
      refine s52 sh46 (by decide) (by decide) ?_
      refine s6 (p := 46) rfl ?_
      refine s51 sh46 (by decide) (by decide) rf46_3 ?_
      refine s6 (p := 46) rfl ?_
      refine s50 (v := ld I 46 7 + 1) sh46 (by decide) (by decide) (v2_eq) ?_
      obtain ⟨g6, hE⟩ := hE
      refine s40 (v := ld I 48 (ld I 46 7 + 1).toNat) sh48 g6 rfl ((v2_ne (by decide)).trans (oI_ld _ _ _)) ?_
      refine s7 (ls' := [.ref 46, .int (oI (ld I 48 (ld I 46 7).toNat)), .int (oI (ld I 48 (ld I 46 7 + 1).toNat)), mUn]) (Nat.le_of_ble_eq_true rfl) rfl ?_
      refine s4 (x := ld I 48 (ld I 46 7 + 1).toNat) rfl ?_
      refine s0 ?_
      refine s61 (ld_inR _ _ _) (inRd rfl) (fun c7 => ?_) (fun c7 => ?_)
      · replace hE := hE.1 c7
        refine xG gb125.2.2.2.1 ?_
        refine s6 (p := 46) rfl ?_
        refine s13r ?_
        refine s50 (v := ld I 46 7 + 1) sh46 (by decide) (by decide) (v2_eq) ?_
        refine s0 ?_
        refine s16 ?_
        refine s52 sh46 (by decide) (by decide) ?_
        refine s6 (p := 46) rfl ?_
        refine s51 sh46 (by decide) (by decide) rf46_3 ?_
        refine s6 (p := 46) rfl ?_
        refine s50 (v := ld I 46 7 + 1 + 1) sh46 (by decide) (by decide) (v2_eq) ?_
        obtain ⟨g8, hE⟩ := hE
        refine s40 (v := ld I 48 (ld I 46 7 + 1 + 1).toNat) sh48 g8 rfl ((v2_ne (by decide)).trans ((v2_ne (by decide)).trans (oI_ld _ _ _))) ?_
        refine s0 ?_
        refine s61 (ld_inR _ _ _) (inRd rfl) (fun c9 => ?_) (fun c9 => ?_)
        · replace hE := hE.1 c9
          refine xG gb125.2.2.2.2 ?_
          refine s6 (p := 46) rfl ?_
          refine s51 sh46 (by decide) (by decide) rf46_4 ?_
          refine s6 (p := 46) rfl ?_
          refine s50 (v := ld I 46 7 + 1 + 1) sh46 (by decide) (by decide) (v2_eq) ?_
          refine s40 (v := ld I 49 (ld I 46 7 + 1 + 1).toNat) sh49 g8 rfl ((v2_ne (by decide)).trans ((v2_ne (by decide)).trans (oI_ld _ _ _))) ?_
          refine s7 (ls' := [.ref 46, .int (oI (ld I 48 (ld I 46 7).toNat)), .int (oI (ld I 48 (ld I 46 7 + 1).toNat)), .int (oI (ld I 49 (ld I 46 7 + 1 + 1).toNat))]) (Nat.le_of_ble_eq_true rfl) rfl ?_
          refine s6 (p := 46) rfl ?_
          refine s13r ?_
          refine s50 (v := ld I 46 7 + 1 + 1) sh46 (by decide) (by decide) (v2_eq) ?_
          refine s0 ?_
          refine s16 ?_
          refine s52 sh46 (by decide) (by decide) ?_
          refine s58 rfl (fun p10 I11 R12 S13 a14 => ?_)
          replace hE := hE p10 I11 R12 S13 a14
          refine s13r ?_
          refine s4 (x := ld I 48 (ld I 46 7).toNat) rfl ?_
          refine s4 (x := ld I 48 (ld I 46 7 + 1).toNat) rfl ?_
          refine s4 (x := ld I 49 (ld I 46 7 + 1 + 1).toNat) rfl ?_
          refine sV (rcvO a14.ob rfl rfl) rfl (Nat.le_of_ble_eq_true rfl) ?_
          refine cV_of (ls := [.ref p10, .int (oI (ld I 48 (ld I 46 7).toNat)), .int (oI (ld I 48 (ld I 46 7 + 1).toNat)), .int (oI (ld I 49 (ld I 46 7 + 1 + 1).toNat))]) rfl ?_
          refine xG gb196 ?_
          refine s6 (p := p10) rfl ?_
          refine s107 (Nat.le_of_ble_eq_true rfl) ?_
          refine s6 (p := p10) rfl ?_
          refine s4 (x := ld I 48 (ld I 46 7).toNat) rfl ?_
          refine s52 a14.ob.sh a14.ob.sp (by decide) ?_
          refine s6 (p := p10) rfl ?_
          refine s4 (x := ld I 48 (ld I 46 7 + 1).toNat) rfl ?_
          refine s52 a14.ob.sh a14.ob.sp (by decide) ?_
          refine s6 (p := p10) rfl ?_
          refine s4 (x := ld I 49 (ld I 46 7 + 1 + 1).toNat) rfl ?_
          refine s52 a14.ob.sh a14.ob.sp (by decide) ?_
          refine s83 ?_
          refine rqV_of ?_
          refine s82o (o := some p10) ?_
          exact rqR_of (x := (some p10)) hE
        · replace hE := hE.2 c9
          refine s6 (p := 46) rfl ?_
          refine sV rc114 rfl (Nat.le_of_ble_eq_true rfl) ?_
          refine CallV.mono hE ?_
          rintro _ ⟨I15, rfl, hE⟩
          refine s3 ?_
          refine s82o (o := none) ?_
          exact rqR_of (x := none) hE
      · replace hE := hE.2 c7
        refine s4 (x := ld I 48 (ld I 46 7 + 1).toNat) rfl ?_
        refine s0 ?_
        refine s61 (ld_inR _ _ _) (inRd rfl) (fun c16 => ?_) (fun c16 => ?_)
        · replace hE := hE.1 c16
          refine xG gb125.2.2.2.1 ?_
          refine s6 (p := 46) rfl ?_
          refine s13r ?_
          refine s50 (v := ld I 46 7 + 1) sh46 (by decide) (by decide) (v2_eq) ?_
          refine s0 ?_
          refine s16 ?_
          refine s52 sh46 (by decide) (by decide) ?_
          refine s6 (p := 46) rfl ?_
          refine s51 sh46 (by decide) (by decide) rf46_3 ?_
          refine s6 (p := 46) rfl ?_
          refine s50 (v := ld I 46 7 + 1 + 1) sh46 (by decide) (by decide) (v2_eq) ?_
          obtain ⟨g17, hE⟩ := hE
          refine s40 (v := ld I 48 (ld I 46 7 + 1 + 1).toNat) sh48 g17 rfl ((v2_ne (by decide)).trans ((v2_ne (by decide)).trans (oI_ld _ _ _))) ?_
          refine s0 ?_
          refine s61 (ld_inR _ _ _) (inRd rfl) (fun c18 => ?_) (fun c18 => ?_)
          · replace hE := hE.1 c18
            refine xG gb125.2.2.2.2 ?_
            refine s6 (p := 46) rfl ?_
            refine s51 sh46 (by decide) (by decide) rf46_4 ?_
            refine s6 (p := 46) rfl ?_
            refine s50 (v := ld I 46 7 + 1 + 1) sh46 (by decide) (by decide) (v2_eq) ?_
            refine s40 (v := ld I 49 (ld I 46 7 + 1 + 1).toNat) sh49 g17 rfl ((v2_ne (by decide)).trans ((v2_ne (by decide)).trans (oI_ld _ _ _))) ?_
            refine s7 (ls' := [.ref 46, .int (oI (ld I 48 (ld I 46 7).toNat)), .int (oI (ld I 48 (ld I 46 7 + 1).toNat)), .int (oI (ld I 49 (ld I 46 7 + 1 + 1).toNat))]) (Nat.le_of_ble_eq_true rfl) rfl ?_
            refine s6 (p := 46) rfl ?_
            refine s13r ?_
            refine s50 (v := ld I 46 7 + 1 + 1) sh46 (by decide) (by decide) (v2_eq) ?_
            refine s0 ?_
            refine s16 ?_
            refine s52 sh46 (by decide) (by decide) ?_
            refine s58 rfl (fun p19 I20 R21 S22 a23 => ?_)
            replace hE := hE p19 I20 R21 S22 a23
            refine s13r ?_
            refine s4 (x := ld I 48 (ld I 46 7).toNat) rfl ?_
            refine s4 (x := ld I 48 (ld I 46 7 + 1).toNat) rfl ?_
            refine s4 (x := ld I 49 (ld I 46 7 + 1 + 1).toNat) rfl ?_
            refine sV (rcvO a23.ob rfl rfl) rfl (Nat.le_of_ble_eq_true rfl) ?_
            refine cV_of (ls := [.ref p19, .int (oI (ld I 48 (ld I 46 7).toNat)), .int (oI (ld I 48 (ld I 46 7 + 1).toNat)), .int (oI (ld I 49 (ld I 46 7 + 1 + 1).toNat))]) rfl ?_
            refine xG gb196 ?_
            refine s6 (p := p19) rfl ?_
            refine s107 (Nat.le_of_ble_eq_true rfl) ?_
            refine s6 (p := p19) rfl ?_
            refine s4 (x := ld I 48 (ld I 46 7).toNat) rfl ?_
            refine s52 a23.ob.sh a23.ob.sp (by decide) ?_
            refine s6 (p := p19) rfl ?_
            refine s4 (x := ld I 48 (ld I 46 7 + 1).toNat) rfl ?_
            refine s52 a23.ob.sh a23.ob.sp (by decide) ?_
            refine s6 (p := p19) rfl ?_
            refine s4 (x := ld I 49 (ld I 46 7 + 1 + 1).toNat) rfl ?_
            refine s52 a23.ob.sh a23.ob.sp (by decide) ?_
            refine s83 ?_
            refine rqV_of ?_
            refine s82o (o := some p19) ?_
            exact rqR_of (x := (some p19)) hE
          · replace hE := hE.2 c18
            refine s6 (p := 46) rfl ?_
            refine sV rc114 rfl (Nat.le_of_ble_eq_true rfl) ?_
            refine CallV.mono hE ?_
            rintro _ ⟨I24, rfl, hE⟩
            refine s3 ?_
            refine s82o (o := none) ?_
            exact rqR_of (x := none) hE
        · replace hE := hE.2 c16
          refine s4 (x := ld I 48 (ld I 46 7 + 1).toNat) rfl ?_
          refine s0 ?_
          refine s61 (ld_inR _ _ _) (inRd rfl) (fun c25 => ?_) (fun c25 => ?_)
          · replace hE := hE.1 c25
            refine xG gb125.2.2.2.1 ?_
            refine s6 (p := 46) rfl ?_
            refine s13r ?_
            refine s50 (v := ld I 46 7 + 1) sh46 (by decide) (by decide) (v2_eq) ?_
            refine s0 ?_
            refine s16 ?_
            refine s52 sh46 (by decide) (by decide) ?_
            refine s6 (p := 46) rfl ?_
            refine s51 sh46 (by decide) (by decide) rf46_3 ?_
            refine s6 (p := 46) rfl ?_
            refine s50 (v := ld I 46 7 + 1 + 1) sh46 (by decide) (by decide) (v2_eq) ?_
            obtain ⟨g26, hE⟩ := hE
            refine s40 (v := ld I 48 (ld I 46 7 + 1 + 1).toNat) sh48 g26 rfl ((v2_ne (by decide)).trans ((v2_ne (by decide)).trans (oI_ld _ _ _))) ?_
            refine s0 ?_
            refine s61 (ld_inR _ _ _) (inRd rfl) (fun c27 => ?_) (fun c27 => ?_)
            · replace hE := hE.1 c27
              refine xG gb125.2.2.2.2 ?_
              refine s6 (p := 46) rfl ?_
              refine s51 sh46 (by decide) (by decide) rf46_4 ?_
              refine s6 (p := 46) rfl ?_
              refine s50 (v := ld I 46 7 + 1 + 1) sh46 (by decide) (by decide) (v2_eq) ?_
              refine s40 (v := ld I 49 (ld I 46 7 + 1 + 1).toNat) sh49 g26 rfl ((v2_ne (by decide)).trans ((v2_ne (by decide)).trans (oI_ld _ _ _))) ?_
              refine s7 (ls' := [.ref 46, .int (oI (ld I 48 (ld I 46 7).toNat)), .int (oI (ld I 48 (ld I 46 7 + 1).toNat)), .int (oI (ld I 49 (ld I 46 7 + 1 + 1).toNat))]) (Nat.le_of_ble_eq_true rfl) rfl ?_
              refine s6 (p := 46) rfl ?_
              refine s13r ?_
              refine s50 (v := ld I 46 7 + 1 + 1) sh46 (by decide) (by decide) (v2_eq) ?_
              refine s0 ?_
              refine s16 ?_
              refine s52 sh46 (by decide) (by decide) ?_
              refine s58 rfl (fun p28 I29 R30 S31 a32 => ?_)
              replace hE := hE p28 I29 R30 S31 a32
              refine s13r ?_
              refine s4 (x := ld I 48 (ld I 46 7).toNat) rfl ?_
              refine s4 (x := ld I 48 (ld I 46 7 + 1).toNat) rfl ?_
              refine s4 (x := ld I 49 (ld I 46 7 + 1 + 1).toNat) rfl ?_
              refine sV (rcvO a32.ob rfl rfl) rfl (Nat.le_of_ble_eq_true rfl) ?_
              refine cV_of (ls := [.ref p28, .int (oI (ld I 48 (ld I 46 7).toNat)), .int (oI (ld I 48 (ld I 46 7 + 1).toNat)), .int (oI (ld I 49 (ld I 46 7 + 1 + 1).toNat))]) rfl ?_
              refine xG gb196 ?_
              refine s6 (p := p28) rfl ?_
              refine s107 (Nat.le_of_ble_eq_true rfl) ?_
              refine s6 (p := p28) rfl ?_
              refine s4 (x := ld I 48 (ld I 46 7).toNat) rfl ?_
              refine s52 a32.ob.sh a32.ob.sp (by decide) ?_
              refine s6 (p := p28) rfl ?_
              refine s4 (x := ld I 48 (ld I 46 7 + 1).toNat) rfl ?_
              refine s52 a32.ob.sh a32.ob.sp (by decide) ?_
              refine s6 (p := p28) rfl ?_
              refine s4 (x := ld I 49 (ld I 46 7 + 1 + 1).toNat) rfl ?_
              refine s52 a32.ob.sh a32.ob.sp (by decide) ?_
              refine s83 ?_
              refine rqV_of ?_
              refine s82o (o := some p28) ?_
              exact rqR_of (x := (some p28)) hE
            · replace hE := hE.2 c27
              refine s6 (p := 46) rfl ?_
              refine sV rc114 rfl (Nat.le_of_ble_eq_true rfl) ?_
              refine CallV.mono hE ?_
              rintro _ ⟨I33, rfl, hE⟩
              refine s3 ?_
              refine s82o (o := none) ?_
              exact rqR_of (x := none) hE
          · replace hE := hE.2 c25
            refine s6 (p := 46) rfl ?_
            refine sV rc114 rfl (Nat.le_of_ble_eq_true rfl) ?_
            refine CallV.mono hE ?_
            rintro _ ⟨I34, rfl, hE⟩
            refine s3 ?_
            refine s82o (o := none) ?_
            exact rqR_of (x := none) hE
section
variable {d L : Nat} {T : Nat → Int} {N nt : Nat}
theorem k125 : NdC T N nt (d + 2) L 125 [.ref 46] (fun p => yLf T N (bl T N p)) (fun R S I q l => NLf R S I q l) := by
  intro I R S t p K h hb hp k0 k1
  have hAt := h.1.2.2.2
  have h7 := h.2.2.1
  have hN := h.2.2.2.2
  have ht := h.2.1
  have hnt := h.1.1
  have hq := plc_in (T := T) (N := N) t
  have c0 : ((t : Int)).toNat = t := Int.toNat_natCast t
  have c1 : ((t : Int) + 1).toNat = t + 1 := by omega
  have c2 : ((t : Int) + 1 + 1).toNat = t + 2 := by omega
  refine e125 (d := d) ?_
  rw [h7, c0, c1, c2, (hAt t ht).1]
  rcases nm_tkx hq _ rfl with ⟨hn, hk⟩ | ⟨hk, hk2, hb0, hb1⟩
  · have neg : CallV (d + 1) 114 [.ref 46] (bd L I R S) (fun s => ∃ (I6 : mI), s = bd L I6 R S ∧ (K none (bd L I6 R S))) := k114 h (fun I1 q1 q2 => ⟨_, rfl, k0 _ _ _ _ (by show yLf T N (bl T N p) = _; rw [hb]; unfold yLf; rw [if_pos hn]) ⟨Gw.fr q1, t, Nat.le_refl _, Nat.le_refl _, q2⟩⟩)
    exact ⟨⟨by omega, by omega⟩, fun c => neg, fun c => ⟨fun c2 => neg, fun c2 => absurd ⟨by omega, by omega⟩ hk⟩⟩
  · have hnm : ¬ nmS T N (plc T N t) = -1 := by omega
    have l1 := h.lt (by omega)
    have e1 : plc T N (t + 1) = bl T N (lt T N (plc T N t)) := by
      show bl T N (tkE T N (plc T N t)) = _
      rw [tk_wordE (i := (tkK T N (plc T N t) - 128).toNat) (by omega)]
    have h1 := h.nx l1.1 (v := (t : Int) + 1) rfl
    rw [(hAt (t + 1) l1.2).1]
    have hsg : ∀ b : Int, (b = 60 ∨ b = 62 ∨ b = 61) → tkK T N (plc T N (t + 1)) = b → (0 ≤ (t : Int) + 1 + 1 ∧ (t : Int) + 1 + 1 < 801) ∧ (((ld I 48 (t + 2) = 2) → ∀ (p10 : Nat) (I11 : mI) (R12 : mR) (S13 : mSh), (AlC 16 5 (u2 (u2 (u2 I 46 7 (oI ((t : Int) + 1))) 46 7 (oI ((t : Int) + 1 + 1))) 46 7 (oI ((t : Int) + 1 + 1 + 1))) R S p10 I11 R12 S13) → (K (some p10) (bd L (u2 (u2 (u2 I11 p10 0 (oI (tkK T N (plc T N t)))) p10 1 (oI (tkK T N (plc T N (t + 1))))) p10 2 (oI (ld I 49 (t + 2)))) R12 S13))) ∧ (¬ (ld I 48 (t + 2) = 2) → CallV (d + 1) 114 [.ref 46] (bd L (u2 (u2 I 46 7 (oI ((t : Int) + 1))) 46 7 (oI ((t : Int) + 1 + 1))) R S) (fun s => ∃ (I15 : mI), s = bd L I15 R S ∧ (K none (bd L I15 R S))))) := by
      intro b hb3 hbk
      have hbg : isg b := by unfold isg; omega
      have l2 := h1.2.lt (by omega)
      have h2 := h1.2.nx l2.1 (v := (t : Int) + 1 + 1) (by omega)
      have e2 : plc T N (t + 2) = bl T N (plc T N (t + 1) + 1) := by
        show bl T N (tkE T N (plc T N (t + 1))) = _
        rw [tk_signE hbg hbk]
      have sg := (tk_sign hbg).mpr hbk
      have hm := tk_num (T := T) (N := N) (q := plc T N (t + 2)) (lo := 0) (hi := 9999) (plc_in _)
      rw [(hAt (t + 2) l2.2).1, (hAt (t + 2) l2.2).2.1]
      refine ⟨⟨by omega, by omega⟩, fun c p1 I11 R12 S13 ha => ?_, fun c => ?_⟩
      · have l3 := h2.2.lt (by rw [c]; decide)
        have en := tk_numE c
        have h3 := h2.2.nx l3.1 (v := (t : Int) + 1 + 1 + 1) (by omega)
        have hp1 := ha.1
        have hl : S13.length = S.length + 1 := by rw [ha.2.1, List.length_append]; rfl
        have gw : Gw osN [] I R S I11 R12 S13 := (Gw.fr ((h1.1.trans h2.1).trans h3.1)).trans (Gw.al ha (by decide))
        have i1 : inR (tkK T N (plc T N t)) := ⟨by omega, by omega⟩
        have i2 : inR (tkK T N (plc T N (t + 1))) := ⟨by omega, by omega⟩
        have i3 : inR (tkV T N (plc T N (t + 2))) := by have := en.2; exact ⟨by omega, by omega⟩
        have hps : PsC (u2 (u2 (u2 I11 p1 0 (oI (tkK T N (plc T N t)))) p1 1 (oI (tkK T N (plc T N (t + 1))))) p1 2 (oI (tkV T N (plc T N (t + 2))))) T N nt (t + 3) (-1) := h3.2.ag (fun a k hlt => by
          rw [v2_ne (by omega), v2_ne (by omega), v2_ne (by omega)]
          exact (ha.2.2.2.2 a k (by omega)).1)
        refine k1 (nmS T N (plc T N t), T (plc T N (t + 1)), nv T N (plc T N (t + 2))) (dg T N (plc T N (t + 2))) _ _ _ (t + 3) p1 ?_ ⟨((gw.wI (by omega)).wI (by omega)).wI (by omega), hps, ?_, (dg_in (plc_in _)).2, by omega, by omega⟩ (by omega) ⟨⟨by omega, by omega⟩, ha.2.2.2.1 4, ha.ob, fun I' R' S' g => ?_⟩
        · show yLf T N (bl T N p) = _
          rw [hb]
          unfold yLf
          rw [if_neg hnm, ← e1, if_pos ⟨sg.1, by rw [sg.2]; exact hb3⟩, ← e2, if_pos (hm.mpr ⟨c, by rw [en.2.1]; exact en.2.2⟩)]
        · show bl T N (dg T N (plc T N (t + 2))) = bl T N (tkE T N (plc T N (t + 2)))
          rw [en.1]
        · have gp := g p1 (by omega) (by omega)
          have l : ∀ k, ld I' p1 k = ld (u2 (u2 (u2 I11 p1 0 (oI (tkK T N (plc T N t)))) p1 1 (oI (tkK T N (plc T N (t + 1))))) p1 2 (oI (tkV T N (plc T N (t + 2))))) p1 k := fun k => by unfold ld; rw [gp.1 k]
          refine ⟨⟨by omega, gp.2.2.2.trans ha.ob.2⟩, ?_, ?_, ?_, gp.2.1.trans (ha.2.2.2.1 3), ⟨hb0, hb1⟩, ?_, en.2.2⟩
          · rw [l, ld_w i3, if_neg (by decide), ld_w i2, if_neg (by decide), ld_w i1, if_pos rfl]; exact hk2
          · rw [l, ld_w i3, if_neg (by decide), ld_w i2, if_pos rfl, hbk]; exact sg.2.symm
          · rw [l, ld_w i3, if_pos rfl]; exact en.2.1
          · show T (plc T N (t + 1)) = 60 ∨ T (plc T N (t + 1)) = 61 ∨ T (plc T N (t + 1)) = 62
            rw [sg.2]; omega
      · refine k114 h2.2 (fun I1 q1 q2 => ⟨_, rfl, k0 _ _ _ _ ?_ ⟨Gw.fr ((h1.1.trans h2.1).trans q1), t + 2, by omega, by omega, q2⟩⟩)
        show yLf T N (bl T N p) = _
        rw [hb]
        unfold yLf
        rw [if_neg hnm, ← e1, if_pos ⟨sg.1, by rw [sg.2]; exact hb3⟩, ← e2, if_neg]
        intro hm2
        exact c (hm.mp hm2).1
    refine ⟨⟨by omega, by omega⟩, fun c => absurd c (by omega), fun _ => ⟨fun c => absurd c (by omega), fun _ => ⟨⟨by omega, by omega⟩, fun c => hsg 60 (by decide) c, fun c3 => ⟨fun c => hsg 62 (by decide) c, fun c4 => ⟨fun c => hsg 61 (by decide) c, fun c5 => ?_⟩⟩⟩⟩⟩
    refine k114 h1.2 (fun I1 q1 q2 => ⟨_, rfl, k0 _ _ _ _ ?_ ⟨Gw.fr (h1.1.trans q1), t + 1, by omega, by omega, q2⟩⟩)
    show yLf T N (bl T N p) = _
    rw [hb]
    unfold yLf
    rw [if_neg hnm, ← e1, if_neg]
    rintro ⟨g1, g2⟩
    rcases g2 with g2 | g2 | g2
    · exact c3 ((tk_sign (b := 60) (by decide)).mp ⟨g1, g2⟩)
    · exact c4 ((tk_sign (b := 62) (by decide)).mp ⟨g1, g2⟩)
    · exact c5 ((tk_sign (b := 61) (by decide)).mp ⟨g1, g2⟩)
end
