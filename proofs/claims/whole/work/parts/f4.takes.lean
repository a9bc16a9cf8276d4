set_option maxRecDepth 4000 in
theorem e114 {d L : Nat} {I : Nat → Nat → Int32} {R : Nat → Nat → Option Nat} {S : List (Nat × Nat)} {K : mM → Prop}   (hE : ((ld I 46 2 = (-1)) → (0 ≤ ld I 46 7 ∧ ld I 46 7 < 801) ∧ (K (bd L (u2 I 46 2 (oI (ld I 50 (ld I 46 7).toNat))) R S))) ∧ (¬ (ld I 46 2 = (-1)) → K (bd L I R S))) : CallV d 114 [.ref 46] (bd L I R S) K := by
  refine cV_of (ls := [.ref 46]) rfl ?_
  refine xG gb114.1 ?_
  refine s6 (p := 46) rfl ?_
  refine s50 (v := ld I 46 2) sh46 (by decide) (by decide) (oI_ld _ _ _) ?_
  refine s0 ?_
  refine s62 (ld_inR _ _ _) (inRd rfl) (fun c1 => ?_) (fun c1 => ?_)
  · replace hE := hE.1 c1
    refine s6 (p := 46) rfl ?_
    refine s6 (p := 46) rfl ?_
    refine s51 sh46 (by decide) (by decide) rf46_5 ?_
    refine s6 (p := 46) rfl ?_
    refine s50 (v := ld I 46 7) sh46 (by decide) (by decide) (oI_ld _ _ _) ?_
    obtain ⟨g2, hE⟩ := hE
    refine s40 (v := ld I 50 (ld I 46 7).toNat) sh50 g2 rfl (oI_ld _ _ _) ?_
    refine s52 sh46 (by decide) (by decide) ?_
    refine s79 ?_
    refine xG gb114.2 ?_
    refine s83 ?_
    exact rqV_of hE
  · replace hE := hE.2 c1
    refine xG gb114.2 ?_
    refine s83 ?_
    exact rqV_of hE
set_option maxRecDepth 4000 in
theorem e116 {d L : Nat} {I : Nat → Nat → Int32} {R : Nat → Nat → Option Nat} {S : List (Nat × Nat)} {K : Int32 → mM → Prop}  {x1 : Int} {x2 : Int} (hE : (0 ≤ ld I 46 7 ∧ ld I 46 7 < 801) ∧ (((ld I 46 2 = (-1)) → ((ld I 48 (ld I 46 7).toNat = 2) → inR x1 ∧ (((ld I 49 (ld I 46 7).toNat < x1) → CallV d 114 [.ref 46] (bd L I R S) (fun s => ∃ (I6 : mI), s = bd L I6 R S ∧ (K (oI 0) (bd L I6 R S)))) ∧ (¬ (ld I 49 (ld I 46 7).toNat < x1) → inR x2 ∧ (((x2 < ld I 49 (ld I 46 7).toNat) → CallV d 114 [.ref 46] (bd L I R S) (fun s => ∃ (I9 : mI), s = bd L I9 R S ∧ (K (oI 0) (bd L I9 R S)))) ∧ (¬ (x2 < ld I 49 (ld I 46 7).toNat) → K (oI (ld I 49 (ld I 46 7).toNat)) (bd L (u2 I 46 7 (oI (ld I 46 7 + 1))) R S)))))) ∧ (¬ (ld I 48 (ld I 46 7).toNat = 2) → CallV d 114 [.ref 46] (bd L I R S) (fun s => ∃ (I10 : mI), s = bd L I10 R S ∧ (K (oI 0) (bd L I10 R S))))) ∧ (¬ (ld I 46 2 = (-1)) → CallV d 114 [.ref 46] (bd L I R S) (fun s => ∃ (I11 : mI), s = bd L I11 R S ∧ (K (oI 0) (bd L I11 R S)))))) : CallI (d + 1) 116 [.ref 46, .int (oI x1), .int (oI x2)] (bd L I R S) K := by
  refine cI_of (ls := [.ref 46, .int (oI x1), .int (oI x2), mUn]) rfl ?_
  refine xG gb116.1 ?_
  refine s6 (p := 46) rfl ?_
  refine s51 sh46 (by decide) (by decide) rf46_4 ?_
  refine s6 (p := 46) rfl ?_
  refine s50 (v := ld I 46 7) sh46 (by decide) (by decide) (oI_ld _ _ _) ?_
  obtain ⟨g1, hE⟩ := hE
  refine s40 (v := ld I 49 (ld I 46 7).toNat) sh49 g1 rfl (oI_ld _ _ _) ?_
  refine s7 (ls' := [.ref 46, .int (oI x1), .int (oI x2), .int (oI (ld I 49 (ld I 46 7).toNat))]) (Nat.le_of_ble_eq_true rfl) rfl ?_
  refine s6 (p := 46) rfl ?_
  refine s50 (v := ld I 46 2) sh46 (by decide) (by decide) (oI_ld _ _ _) ?_
  refine s0 ?_
  refine s62 (ld_inR _ _ _) (inRd rfl) (fun c2 => ?_) (fun c2 => ?_)
  · replace hE := hE.1 c2
    refine s6 (p := 46) rfl ?_
    refine s51 sh46 (by decide) (by decide) rf46_3 ?_
    refine s6 (p := 46) rfl ?_
    refine s50 (v := ld I 46 7) sh46 (by decide) (by decide) (oI_ld _ _ _) ?_
    refine s40 (v := ld I 48 (ld I 46 7).toNat) sh48 g1 rfl (oI_ld _ _ _) ?_
    refine s0 ?_
    refine s62 (ld_inR _ _ _) (inRd rfl) (fun c3 => ?_) (fun c3 => ?_)
    · replace hE := hE.1 c3
      refine s4 (x := ld I 49 (ld I 46 7).toNat) rfl ?_
      refine s4 (x := x1) rfl ?_
      obtain ⟨g4, hE⟩ := hE
      refine s63 (ld_inR _ _ _) g4 (fun c5 => ?_) (fun c5 => ?_)
      · replace hE := hE.1 c5
        refine xG gb116.2.1 ?_
        refine s6 (p := 46) rfl ?_
        refine sV rc114 rfl (Nat.le_of_ble_eq_true rfl) ?_
        refine CallV.mono hE ?_
        rintro _ ⟨I6, rfl, hE⟩
        refine s0 ?_
        refine s80 ?_
        exact rqI_of hE
      · replace hE := hE.2 c5
        refine s4 (x := ld I 49 (ld I 46 7).toNat) rfl ?_
        refine s4 (x := x2) rfl ?_
        obtain ⟨g7, hE⟩ := hE
        refine s66 (ld_inR _ _ _) g7 (fun c8 => ?_) (fun c8 => ?_)
        · replace hE := hE.1 c8
          refine s79 ?_
          refine xG gb116.2.1 ?_
          refine s6 (p := 46) rfl ?_
          refine sV rc114 rfl (Nat.le_of_ble_eq_true rfl) ?_
          refine CallV.mono hE ?_
          rintro _ ⟨I9, rfl, hE⟩
          refine s0 ?_
          refine s80 ?_
          exact rqI_of hE
        · replace hE := hE.2 c8
          refine xG gb116.2.2 ?_
          refine s6 (p := 46) rfl ?_
          refine s13r ?_
          refine s50 (v := ld I 46 7) sh46 (by decide) (by decide) (oI_ld _ _ _) ?_
          refine s0 ?_
          refine s16 ?_
          refine s52 sh46 (by decide) (by decide) ?_
          refine s4 (x := ld I 49 (ld I 46 7).toNat) rfl ?_
          refine s80 ?_
          exact rqI_of hE
    · replace hE := hE.2 c3
      refine xG gb116.2.1 ?_
      refine s6 (p := 46) rfl ?_
      refine sV rc114 rfl (Nat.le_of_ble_eq_true rfl) ?_
      refine CallV.mono hE ?_
      rintro _ ⟨I10, rfl, hE⟩
      refine s0 ?_
      refine s80 ?_
      exact rqI_of hE
  · replace hE := hE.2 c2
    refine xG gb116.2.1 ?_
    refine s6 (p := 46) rfl ?_
    refine sV rc114 rfl (Nat.le_of_ble_eq_true rfl) ?_
    refine CallV.mono hE ?_
    rintro _ ⟨I11, rfl, hE⟩
    refine s0 ?_
    refine s80 ?_
    exact rqI_of hE
set_option maxRecDepth 4000 in
theorem e118 {d L : Nat} {I : Nat → Nat → Int32} {R : Nat → Nat → Option Nat} {S : List (Nat × Nat)} {K : Int32 → mM → Prop}  {x1 : Int} (hE : ((ld I 46 2 = (-1)) → (0 ≤ ld I 46 7 ∧ ld I 46 7 < 801) ∧ (inR x1 ∧ (((ld I 48 (ld I 46 7).toNat = x1) → K (oI 1) (bd L (u2 I 46 7 (oI (ld I 46 7 + 1))) R S)) ∧ (¬ (ld I 48 (ld I 46 7).toNat = x1) → CallV d 114 [.ref 46] (bd L I R S) (fun s => ∃ (I5 : mI), s = bd L I5 R S ∧ (K (oI 0) (bd L I5 R S))))))) ∧ (¬ (ld I 46 2 = (-1)) → CallV d 114 [.ref 46] (bd L I R S) (fun s => ∃ (I6 : mI), s = bd L I6 R S ∧ (K (oI 0) (bd L I6 R S))))) : CallI (d + 1) 118 [.ref 46, .int (oI x1)] (bd L I R S) K := by
  refine cI_of (ls := [.ref 46, .int (oI x1)]) rfl ?_
  refine xG gb118.1 ?_
  refine s6 (p := 46) rfl ?_
  refine s50 (v := ld I 46 2) sh46 (by decide) (by decide) (oI_ld _ _ _) ?_
  refine s0 ?_
  refine s62 (ld_inR _ _ _) (inRd rfl) (fun c1 => ?_) (fun c1 => ?_)
  · replace hE := hE.1 c1
    refine s6 (p := 46) rfl ?_
    refine s51 sh46 (by decide) (by decide) rf46_3 ?_
    refine s6 (p := 46) rfl ?_
    refine s50 (v := ld I 46 7) sh46 (by decide) (by decide) (oI_ld _ _ _) ?_
    obtain ⟨g2, hE⟩ := hE
    refine s40 (v := ld I 48 (ld I 46 7).toNat) sh48 g2 rfl (oI_ld _ _ _) ?_
    refine s4 (x := x1) rfl ?_
    obtain ⟨g3, hE⟩ := hE
    refine s61 (ld_inR _ _ _) g3 (fun c4 => ?_) (fun c4 => ?_)
    · replace hE := hE.1 c4
      refine xG gb118.2.2 ?_
      refine s6 (p := 46) rfl ?_
      refine s13r ?_
      refine s50 (v := ld I 46 7) sh46 (by decide) (by decide) (oI_ld _ _ _) ?_
      refine s0 ?_
      refine s16 ?_
      refine s52 sh46 (by decide) (by decide) ?_
      refine s0 ?_
      refine s84 (by decide) ?_
      exact rqI_of hE
    · replace hE := hE.2 c4
      refine s79 ?_
      refine xG gb118.2.1 ?_
      refine s6 (p := 46) rfl ?_
      refine sV rc114 rfl (Nat.le_of_ble_eq_true rfl) ?_
      refine CallV.mono hE ?_
      rintro _ ⟨I5, rfl, hE⟩
      refine s0 ?_
      refine s84 (by decide) ?_
      exact rqI_of hE
  · replace hE := hE.2 c1
    refine xG gb118.2.1 ?_
    refine s6 (p := 46) rfl ?_
    refine sV rc114 rfl (Nat.le_of_ble_eq_true rfl) ?_
    refine CallV.mono hE ?_
    rintro _ ⟨I6, rfl, hE⟩
    refine s0 ?_
    refine s84 (by decide) ?_
    exact rqI_of hE
set_option maxRecDepth 4000 in
theorem e120 {d L : Nat} {I : Nat → Nat → Int32} {R : Nat → Nat → Option Nat} {S : List (Nat × Nat)} {K : Int32 → mM → Prop}   (hE : (0 ≤ ld I 46 7 ∧ ld I 46 7 < 801) ∧ (((ld I 46 2 = (-1)) → ((ld I 48 (ld I 46 7).toNat < 166) → CallV d 114 [.ref 46] (bd L I R S) (fun s => ∃ (I4 : mI), s = bd L I4 R S ∧ (K (oI 0) (bd L I4 R S)))) ∧ (¬ (ld I 48 (ld I 46 7).toNat < 166) → ((168 < ld I 48 (ld I 46 7).toNat) → CallV d 114 [.ref 46] (bd L I R S) (fun s => ∃ (I6 : mI), s = bd L I6 R S ∧ (K (oI 0) (bd L I6 R S)))) ∧ (¬ (168 < ld I 48 (ld I 46 7).toNat) → K (oI (ld I 48 (ld I 46 7).toNat - 166 + 1)) (bd L (u2 I 46 7 (oI (ld I 46 7 + 1))) R S)))) ∧ (¬ (ld I 46 2 = (-1)) → CallV d 114 [.ref 46] (bd L I R S) (fun s => ∃ (I7 : mI), s = bd L I7 R S ∧ (K (oI 0) (bd L I7 R S)))))) : CallI (d + 1) 120 [.ref 46] (bd L I R S) K := by
  refine cI_of (ls := [.ref 46, mUn]) rfl ?_
  refine xG gb120.1 ?_
  refine s6 (p := 46) rfl ?_
  refine s51 sh46 (by decide) (by decide) rf46_3 ?_
  refine s6 (p := 46) rfl ?_
  refine s50 (v := ld I 46 7) sh46 (by decide) (by decide) (oI_ld _ _ _) ?_
  obtain ⟨g1, hE⟩ := hE
  refine s40 (v := ld I 48 (ld I 46 7).toNat) sh48 g1 rfl (oI_ld _ _ _) ?_
  refine s7 (ls' := [.ref 46, .int (oI (ld I 48 (ld I 46 7).toNat))]) (Nat.le_of_ble_eq_true rfl) rfl ?_
  refine s6 (p := 46) rfl ?_
  refine s50 (v := ld I 46 2) sh46 (by decide) (by decide) (oI_ld _ _ _) ?_
  refine s0 ?_
  refine s62 (ld_inR _ _ _) (inRd rfl) (fun c2 => ?_) (fun c2 => ?_)
  · replace hE := hE.1 c2
    refine s4 (x := ld I 48 (ld I 46 7).toNat) rfl ?_
    refine s0 ?_
    refine s63 (ld_inR _ _ _) (inRd rfl) (fun c3 => ?_) (fun c3 => ?_)
    · replace hE := hE.1 c3
      refine xG gb120.2.1 ?_
      refine s6 (p := 46) rfl ?_
      refine sV rc114 rfl (Nat.le_of_ble_eq_true rfl) ?_
      refine CallV.mono hE ?_
      rintro _ ⟨I4, rfl, hE⟩
      refine s0 ?_
      refine s80 ?_
      exact rqI_of hE
    · replace hE := hE.2 c3
      refine s4 (x := ld I 48 (ld I 46 7).toNat) rfl ?_
      refine s0 ?_
      refine s66 (ld_inR _ _ _) (inRd rfl) (fun c5 => ?_) (fun c5 => ?_)
      · replace hE := hE.1 c5
        refine s79 ?_
        refine xG gb120.2.1 ?_
        refine s6 (p := 46) rfl ?_
        refine sV rc114 rfl (Nat.le_of_ble_eq_true rfl) ?_
        refine CallV.mono hE ?_
        rintro _ ⟨I6, rfl, hE⟩
        refine s0 ?_
        refine s80 ?_
        exact rqI_of hE
      · replace hE := hE.2 c5
        refine xG gb120.2.2 ?_
        refine s6 (p := 46) rfl ?_
        refine s13r ?_
        refine s50 (v := ld I 46 7) sh46 (by decide) (by decide) (oI_ld _ _ _) ?_
        refine s0 ?_
        refine s16 ?_
        refine s52 sh46 (by decide) (by decide) ?_
        refine s4 (x := ld I 48 (ld I 46 7).toNat) rfl ?_
        refine s0 ?_
        refine s17 ?_
        refine s0 ?_
        refine s16 ?_
        refine s80 ?_
        exact rqI_of hE
  · replace hE := hE.2 c2
    refine xG gb120.2.1 ?_
    refine s6 (p := 46) rfl ?_
    refine sV rc114 rfl (Nat.le_of_ble_eq_true rfl) ?_
    refine CallV.mono hE ?_
    rintro _ ⟨I7, rfl, hE⟩
    refine s0 ?_
    refine s80 ?_
    exact rqI_of hE
set_option maxRecDepth 4000 in
theorem e117 {d L : Nat} {I : Nat → Nat → Int32} {R : Nat → Nat → Option Nat} {S : List (Nat × Nat)} {K : Int32 → mM → Prop}   (hE : CallI d 118 [.ref 46, .int (oI 58)] (bd L I R S) (fun y s => ∃ (y2 : Int) (I1 : mI), y = oI y2 ∧ s = bd L I1 R S ∧ inR y2 ∧ (((y2 = 0) → CallV d 114 [.ref 46] (bd L I1 R S) (fun s => ∃ (I5 : mI), s = bd L I5 R S ∧ (K (oI 0) (bd L I5 R S)))) ∧ (¬ (y2 = 0) → (0 ≤ ld I1 46 7 ∧ ld I1 46 7 < 801) ∧ (((ld I1 48 (ld I1 46 7).toNat < 130) → CallV d 114 [.ref 46] (bd L I1 R S) (fun s => ∃ (I8 : mI), s = bd L I8 R S ∧ (K (oI 0) (bd L I8 R S)))) ∧ (¬ (ld I1 48 (ld I1 46 7).toNat < 130) → ((144 < ld I1 48 (ld I1 46 7).toNat) → CallV d 114 [.ref 46] (bd L I1 R S) (fun s => ∃ (I10 : mI), s = bd L I10 R S ∧ (K (oI 0) (bd L I10 R S)))) ∧ (¬ (144 < ld I1 48 (ld I1 46 7).toNat) → K (oI (ld I1 48 (ld I1 46 7).toNat)) (bd L (u2 I1 46 7 (oI (ld I1 46 7 + 1))) R S)))))))) : CallI (d + 1) 117 [.ref 46] (bd L I R S) K := by
  refine cI_of (ls := [.ref 46, mUn]) rfl ?_
  refine xG gb117.1 ?_
  refine s6 (p := 46) rfl ?_
  refine s0 ?_
  refine sI rc118 rfl (Nat.le_of_ble_eq_true rfl) ?_
  refine CallI.mono hE ?_
  rintro _ _ ⟨y2, I1, rfl, rfl, gy2, hE⟩
  refine s67 gy2 (fun c3 => ?_) (fun c3 => ?_)
  · replace hE := hE.1 c3
    refine xG gb117.2.1 ?_
    refine s0 ?_
    refine s79 ?_
    refine xG gb117.2.2.1 ?_
    refine s7 (ls' := [.ref 46, .int (oI 0)]) (Nat.le_of_ble_eq_true rfl) rfl ?_
    refine s4 (x := 0) rfl ?_
    refine s0 ?_
    refine s63 (inRd rfl) (inRd rfl) (fun _ => ?_) (fun c4 => absurd (by decide) c4)
    refine xG gb117.2.2.2.1 ?_
    refine s6 (p := 46) rfl ?_
    refine sV rc114 rfl (Nat.le_of_ble_eq_true rfl) ?_
    refine CallV.mono hE ?_
    rintro _ ⟨I5, rfl, hE⟩
    refine s0 ?_
    refine s80 ?_
    exact rqI_of hE
  · replace hE := hE.2 c3
    refine s6 (p := 46) rfl ?_
    refine s51 sh46 (by decide) (by decide) rf46_3 ?_
    refine s6 (p := 46) rfl ?_
    refine s50 (v := ld I1 46 7) sh46 (by decide) (by decide) (oI_ld _ _ _) ?_
    obtain ⟨g6, hE⟩ := hE
    refine s40 (v := ld I1 48 (ld I1 46 7).toNat) sh48 g6 rfl (oI_ld _ _ _) ?_
    refine s60 ?_
    refine xG gb117.2.2.1 ?_
    refine s7 (ls' := [.ref 46, .int (oI (ld I1 48 (ld I1 46 7).toNat))]) (Nat.le_of_ble_eq_true rfl) rfl ?_
    refine s4 (x := ld I1 48 (ld I1 46 7).toNat) rfl ?_
    refine s0 ?_
    refine s63 (ld_inR _ _ _) (inRd rfl) (fun c7 => ?_) (fun c7 => ?_)
    · replace hE := hE.1 c7
      refine xG gb117.2.2.2.1 ?_
      refine s6 (p := 46) rfl ?_
      refine sV rc114 rfl (Nat.le_of_ble_eq_true rfl) ?_
      refine CallV.mono hE ?_
      rintro _ ⟨I8, rfl, hE⟩
      refine s0 ?_
      refine s80 ?_
      exact rqI_of hE
    · replace hE := hE.2 c7
      refine s4 (x := ld I1 48 (ld I1 46 7).toNat) rfl ?_
      refine s0 ?_
      refine s66 (ld_inR _ _ _) (inRd rfl) (fun c9 => ?_) (fun c9 => ?_)
      · replace hE := hE.1 c9
        refine s79 ?_
        refine xG gb117.2.2.2.1 ?_
        refine s6 (p := 46) rfl ?_
        refine sV rc114 rfl (Nat.le_of_ble_eq_true rfl) ?_
        refine CallV.mono hE ?_
        rintro _ ⟨I10, rfl, hE⟩
        refine s0 ?_
        refine s80 ?_
        exact rqI_of hE
      · replace hE := hE.2 c9
        refine xG gb117.2.2.2.2 ?_
        refine s6 (p := 46) rfl ?_
        refine s13r ?_
        refine s50 (v := ld I1 46 7) sh46 (by decide) (by decide) (oI_ld _ _ _) ?_
        refine s0 ?_
        refine s16 ?_
        refine s52 sh46 (by decide) (by decide) ?_
        refine s4 (x := ld I1 48 (ld I1 46 7).toNat) rfl ?_
        refine s80 ?_
        exact rqI_of hE
section
variable {d L : Nat} {I I1 : mI} {R : mR} {S : mSh} {T : Nat → Int} {N nt t p : Nat} {f lo hi c : Int}
/-- the reader stands at token t; f: the fault, or -1 -/
def PsC (I : mI) (T : Nat → Int) (N nt t : Nat) (f : Int) : Prop := TkC I T N nt ∧ t ≤ nt ∧ ld I 46 7 = (t : Int) ∧ ld I 46 2 = f ∧ N ≤ 800
theorem PsC.fault (h : PsC I T N nt t (-1)) : Fr [] [(46, 7), (46, 2)] I (u2 I 46 2 (oI (plc T N t : Int))) ∧ PsC (u2 I 46 2 (oI (plc T N t : Int))) T N nt t (plc T N t : Int) := by
  obtain ⟨⟨h0, h1, h2, h3⟩, h4, h5, h6, h7⟩ := h
  have := plc_in (T := T) (N := N) t
  refine ⟨(Fr.refl _ _ _).wr rfl, ⟨h0, h1, h2, fun t' ht' => ?_⟩, h4, ?_, ?_, h7⟩
  · rw [ld_o (by decide), ld_o (by decide), ld_o (by decide)]; exact h3 t' ht'
  · rw [(fr1 I 46 2 _).ld rfl]; exact h5
  · rw [ld_w ⟨by omega, by omega⟩, if_pos rfl]
theorem PsC.next (h : PsC I T N nt t (-1)) (hn : plc T N t < N) : Fr [] [(46, 7), (46, 2)] I (u2 I 46 7 (oI ((t : Int) + 1))) ∧ PsC (u2 I 46 7 (oI ((t : Int) + 1))) T N nt (t + 1) (-1) := by
  obtain ⟨⟨h0, h1, h2, h3⟩, h4, h5, h6, h7⟩ := h
  have ht : t < nt := by
    rcases Nat.lt_or_ge t nt with g | g
    · exact g
    · have : t = nt := by omega
      rw [this, h1] at hn; omega
  refine ⟨(Fr.refl _ _ _).wr rfl, ⟨h0, h1, h2, fun t' ht' => ?_⟩, ht, ?_, ?_, h7⟩
  · rw [ld_o (by decide), ld_o (by decide), ld_o (by decide)]; exact h3 t' ht'
  · rw [ld_w ⟨by omega, by omega⟩, if_pos rfl]; omega
  · rw [(fr1 I 46 7 _).ld rfl]; exact h6
theorem PsC.at (h : PsC I T N nt t f) : ld I 48 (ld I 46 7).toNat = tkK T N (plc T N t) ∧ ld I 49 (ld I 46 7).toNat = tkV T N (plc T N t) ∧ ld I 50 (ld I 46 7).toNat = (plc T N t : Int) ∧ (0 ≤ ld I 46 7 ∧ ld I 46 7 < 801) := by
  obtain ⟨⟨h0, h1, h2, h3⟩, h4, h5, h6, h7⟩ := h
  rw [h5, Int.toNat_natCast]
  exact ⟨(h3 t h4).1, (h3 t h4).2.1, (h3 t h4).2.2, by omega⟩
theorem tk_lt (h : ¬ tkK T N (plc T N t) = 0) : plc T N t < N := by
  apply Classical.byContradiction
  intro c
  exact h (tk_end.mpr c)
theorem k114 {K : mM → Prop} (h : PsC I T N nt t (-1)) (hK : ∀ I1, Fr [] [(46, 7), (46, 2)] I I1 → PsC I1 T N nt t (plc T N t : Int) → K (bd L I1 R S)) : CallV d 114 [.ref 46] (bd L I R S) K := by
  have g := h.at
  have hf := h.2.2.2.1
  refine e114 (d := d) ⟨fun _ => ⟨g.2.2.2, ?_⟩, fun c => absurd hf c⟩
  rw [g.2.2.1]
  exact hK _ h.fault.1 h.fault.2
theorem k114f {K : mM → Prop} (h : PsC I T N nt t f) (hf : ¬ f = -1) (hK : K (bd L I R S)) : CallV d 114 [.ref 46] (bd L I R S) K :=
  e114 (d := d) ⟨fun c => absurd (h.2.2.2.1.symm.trans c) hf, fun _ => hK⟩
theorem k118 {K : Int32 → mM → Prop} (h : PsC I T N nt t (-1)) (hc : inR c ∧ ¬ c = 0) (h1 : tkK T N (plc T N t) = c → ∀ I1, Fr [] [(46, 7), (46, 2)] I I1 → PsC I1 T N nt (t + 1) (-1) → K (oI 1) (bd L I1 R S)) (h0 : ¬ tkK T N (plc T N t) = c → ∀ I1, Fr [] [(46, 7), (46, 2)] I I1 → PsC I1 T N nt t (plc T N t : Int) → K (oI 0) (bd L I1 R S)) : CallI (d + 1) 118 [.ref 46, .int (oI c)] (bd L I R S) K := by
  have g := h.at
  have hf := h.2.2.2.1
  refine e118 (d := d) ⟨fun _ => ⟨g.2.2.2, ?_⟩, fun c => absurd hf c⟩
  rw [g.1]
  refine ⟨hc.1, fun c1 => ?_, fun c1 => ?_⟩
  · have q := h.next (tk_lt (by rw [c1]; exact hc.2))
    rw [← h.2.2.1] at q
    exact h1 c1 _ q.1 q.2
  · exact k114 h (fun I1 q1 q2 => ⟨_, rfl, h0 c1 I1 q1 q2⟩)
theorem k118f {K : Int32 → mM → Prop} (h : PsC I T N nt t f) (hf : ¬ f = -1) (hK : K (oI 0) (bd L I R S)) : CallI (d + 1) 118 [.ref 46, .int (oI c)] (bd L I R S) K :=
  e118 (d := d) ⟨fun c => absurd (h.2.2.2.1.symm.trans c) hf, fun _ => k114f h hf ⟨_, rfl, hK⟩⟩
end
