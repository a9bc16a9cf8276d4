set_option maxRecDepth 4000 in
theorem e121 {d L : Nat} {I : Nat → Nat → Int32} {R : Nat → Nat → Option Nat} {S : List (Nat × Nat)} {K : mM → Prop}  {p1 : Nat} (hE : (0 ≤ ld I 46 7 ∧ ld I 46 7 < 801) ∧ (((ld I 46 2 = (-1)) → ((ld I 48 (ld I 46 7).toNat = 159) → obJ S p1 15 8 ∧ (K (bd L (u2 (u2 I 46 7 (oI (ld I 46 7 + 1))) p1 3 (oI (ld I 48 (ld I 46 7).toNat))) R S))) ∧ (¬ (ld I 48 (ld I 46 7).toNat = 159) → ((ld I 48 (ld I 46 7).toNat = 160) → obJ S p1 15 8 ∧ (K (bd L (u2 (u2 I 46 7 (oI (ld I 46 7 + 1))) p1 3 (oI (ld I 48 (ld I 46 7).toNat))) R S))) ∧ (¬ (ld I 48 (ld I 46 7).toNat = 160) → ((ld I 48 (ld I 46 7).toNat = 133) → obJ S p1 15 8 ∧ (CallI d 116 [.ref 46, .int (oI 0), .int (oI 5)] (bd L (u2 (u2 I 46 7 (oI (ld I 46 7 + 1))) p1 3 (oI (ld I 48 (ld I 46 7).toNat))) R S) (fun y s => ∃ (y13 : Int) (I12 : mI), y = oI y13 ∧ s = bd L I12 R S ∧ inR y13 ∧ (K (bd L (u2 I12 p1 2 (oI y13)) R S))))) ∧ (¬ (ld I 48 (ld I 46 7).toNat = 133) → CallV d 114 [.ref 46] (bd L I R S) (fun s => ∃ (I14 : mI), s = bd L I14 R S ∧ (K (bd L I14 R S))))))) ∧ (¬ (ld I 46 2 = (-1)) → CallV d 114 [.ref 46] (bd L I R S) (fun s => ∃ (I15 : mI), s = bd L I15 R S ∧ (K (bd L I15 R S)))))) : CallV (d + 1) 121 [.ref 46, .ref p1] (bd L I R S) K := by
  refine cV_of (ls := [.ref 46, .ref p1, mUn]) rfl ?_
  refine xG gb121.1 ?_
  refine s6 (p := 46) rfl ?_
  refine s51 sh46 (by decide) (by decide) rf46_3 ?_
  refine s6 (p := 46) rfl ?_
  refine s50 (v := ld I 46 7) sh46 (by decide) (by decide) (oI_ld _ _ _) ?_
  obtain ⟨g1, hE⟩ := hE
  refine s40 (v := ld I 48 (ld I 46 7).toNat) sh48 g1 rfl (oI_ld _ _ _) ?_
  refine s7 (ls' := [.ref 46, .ref p1, .int (oI (ld I 48 (ld I 46 7).toNat))]) (Nat.le_of_ble_eq_true rfl) rfl ?_
  refine s6 (p := 46) rfl ?_
  refine s50 (v := ld I 46 2) sh46 (by decide) (by decide) (oI_ld _ _ _) ?_
  refine s0 ?_
  refine s62 (ld_inR _ _ _) (inRd rfl) (fun c2 => ?_) (fun c2 => ?_)
  · replace hE := hE.1 c2
    refine s4 (x := ld I 48 (ld I 46 7).toNat) rfl ?_
    refine s0 ?_
    refine s61 (ld_inR _ _ _) (inRd rfl) (fun c3 => ?_) (fun c3 => ?_)
    · replace hE := hE.1 c3
      refine xG gb121.2.2.1 ?_
      refine s6 (p := 46) rfl ?_
      refine s13r ?_
      refine s50 (v := ld I 46 7) sh46 (by decide) (by decide) (oI_ld _ _ _) ?_
      refine s0 ?_
      refine s16 ?_
      refine s52 sh46 (by decide) (by decide) ?_
      refine s6 (p := p1) rfl ?_
      refine s4 (x := ld I 48 (ld I 46 7).toNat) rfl ?_
      obtain ⟨o4, hE⟩ := hE
      refine s52 o4.sh o4.sp (by decide) ?_
      refine s4 (x := ld I 48 (ld I 46 7).toNat) rfl ?_
      refine s0 ?_
      refine s62 (ld_inR _ _ _) (inRd rfl) (fun c5 => absurd c5 (fun h => absurd (h.symm.trans c3) (by decide))) (fun _ => ?_)
      refine xG gb121.2.2.2 ?_
      refine s83 ?_
      exact rqV_of hE
    · replace hE := hE.2 c3
      refine s4 (x := ld I 48 (ld I 46 7).toNat) rfl ?_
      refine s0 ?_
      refine s61 (ld_inR _ _ _) (inRd rfl) (fun c6 => ?_) (fun c6 => ?_)
      · replace hE := hE.1 c6
        refine xG gb121.2.2.1 ?_
        refine s6 (p := 46) rfl ?_
        refine s13r ?_
        refine s50 (v := ld I 46 7) sh46 (by decide) (by decide) (oI_ld _ _ _) ?_
        refine s0 ?_
        refine s16 ?_
        refine s52 sh46 (by decide) (by decide) ?_
        refine s6 (p := p1) rfl ?_
        refine s4 (x := ld I 48 (ld I 46 7).toNat) rfl ?_
        obtain ⟨o7, hE⟩ := hE
        refine s52 o7.sh o7.sp (by decide) ?_
        refine s4 (x := ld I 48 (ld I 46 7).toNat) rfl ?_
        refine s0 ?_
        refine s62 (ld_inR _ _ _) (inRd rfl) (fun c8 => absurd c8 (fun h => absurd (h.symm.trans c6) (by decide))) (fun _ => ?_)
        refine xG gb121.2.2.2 ?_
        refine s83 ?_
        exact rqV_of hE
      · replace hE := hE.2 c6
        refine s4 (x := ld I 48 (ld I 46 7).toNat) rfl ?_
        refine s0 ?_
        refine s61 (ld_inR _ _ _) (inRd rfl) (fun c9 => ?_) (fun c9 => ?_)
        · replace hE := hE.1 c9
          refine xG gb121.2.2.1 ?_
          refine s6 (p := 46) rfl ?_
          refine s13r ?_
          refine s50 (v := ld I 46 7) sh46 (by decide) (by decide) (oI_ld _ _ _) ?_
          refine s0 ?_
          refine s16 ?_
          refine s52 sh46 (by decide) (by decide) ?_
          refine s6 (p := p1) rfl ?_
          refine s4 (x := ld I 48 (ld I 46 7).toNat) rfl ?_
          obtain ⟨o10, hE⟩ := hE
          refine s52 o10.sh o10.sp (by decide) ?_
          refine s4 (x := ld I 48 (ld I 46 7).toNat) rfl ?_
          refine s0 ?_
          refine s62 (ld_inR _ _ _) (inRd rfl) (fun _ => ?_) (fun c11 => absurd c9 c11)
          refine s6 (p := p1) rfl ?_
          refine s6 (p := 46) rfl ?_
          refine s0 ?_
          refine s0 ?_
          refine sI rc116 rfl (Nat.le_of_ble_eq_true rfl) ?_
          refine CallI.mono hE ?_
          rintro _ _ ⟨y13, I12, rfl, rfl, gy13, hE⟩
          refine s52 o10.sh o10.sp (by decide) ?_
          refine s79 ?_
          refine xG gb121.2.2.2 ?_
          refine s83 ?_
          exact rqV_of hE
        · replace hE := hE.2 c9
          refine s79 ?_
          refine xG gb121.2.1 ?_
          refine s6 (p := 46) rfl ?_
          refine sV rc114 rfl (Nat.le_of_ble_eq_true rfl) ?_
          refine CallV.mono hE ?_
          rintro _ ⟨I14, rfl, hE⟩
          refine s83 ?_
          exact rqV_of hE
  · replace hE := hE.2 c2
    refine xG gb121.2.1 ?_
    refine s6 (p := 46) rfl ?_
    refine sV rc114 rfl (Nat.le_of_ble_eq_true rfl) ?_
    refine CallV.mono hE ?_
    rintro _ ⟨I15, rfl, hE⟩
    refine s83 ?_
    exact rqV_of hE
set_option maxRecDepth 4000 in
theorem e119 {d L : Nat} {I : Nat → Nat → Int32} {R : Nat → Nat → Option Nat} {S : List (Nat × Nat)} {K : mM → Prop}  {p1 : Nat} (hE : obJ S p1 15 8 ∧ ((ld I p1 1 = 129 → K (bd L I R S)) ∧ (ld I p1 1 = 130 → CallI d 120 [.ref 46] (bd L I R S) (fun y s => ∃ (y5 : Int) (I4 : mI), y = oI y5 ∧ s = bd L I4 R S ∧ inR y5 ∧ (CallI d 118 [.ref 46, .int (oI 156)] (bd L (u2 I4 p1 2 (oI y5)) R S) (fun y s => ∃ (y7 : Int) (I6 : mI), y = oI y7 ∧ s = bd L I6 R S ∧ inR y7 ∧ (CallI d 116 [.ref 46, .int (oI 0), .int (oI 2)] (bd L I6 R S) (fun y s => ∃ (y9 : Int) (I8 : mI), y = oI y9 ∧ s = bd L I8 R S ∧ inR y9 ∧ (K (bd L (u2 I8 p1 4 (oI y9)) R S)))))))) ∧ (ld I p1 1 = 131 → CallI d 116 [.ref 46, .int (oI 0), .int (oI 5)] (bd L I R S) (fun y s => ∃ (y12 : Int) (I11 : mI), y = oI y12 ∧ s = bd L I11 R S ∧ inR y12 ∧ (CallI d 118 [.ref 46, .int (oI 156)] (bd L (u2 I11 p1 2 (oI y12)) R S) (fun y s => ∃ (y14 : Int) (I13 : mI), y = oI y14 ∧ s = bd L I13 R S ∧ inR y14 ∧ (CallI d 116 [.ref 46, .int (oI 0), .int (oI 2)] (bd L I13 R S) (fun y s => ∃ (y16 : Int) (I15 : mI), y = oI y16 ∧ s = bd L I15 R S ∧ inR y16 ∧ (K (bd L (u2 I15 p1 4 (oI y16)) R S)))))))) ∧ (ld I p1 1 = 133 → CallI d 116 [.ref 46, .int (oI 0), .int (oI 5)] (bd L I R S) (fun y s => ∃ (y19 : Int) (I18 : mI), y = oI y19 ∧ s = bd L I18 R S ∧ inR y19 ∧ (CallI d 118 [.ref 46, .int (oI 157)] (bd L (u2 I18 p1 2 (oI y19)) R S) (fun y s => ∃ (y21 : Int) (I20 : mI), y = oI y21 ∧ s = bd L I20 R S ∧ inR y21 ∧ (CallI d 116 [.ref 46, .int (oI 0), .int (oI 9999)] (bd L I20 R S) (fun y s => ∃ (y23 : Int) (I22 : mI), y = oI y23 ∧ s = bd L I22 R S ∧ inR y23 ∧ (K (bd L (u2 I22 p1 4 (oI y23)) R S)))))))) ∧ (ld I p1 1 = 135 → CallI d 116 [.ref 46, .int (oI 0), .int (oI 9999)] (bd L I R S) (fun y s => ∃ (y26 : Int) (I25 : mI), y = oI y26 ∧ s = bd L I25 R S ∧ inR y26 ∧ (CallI d 118 [.ref 46, .int (oI 158)] (bd L (u2 I25 p1 4 (oI y26)) R S) (fun y s => ∃ (y28 : Int) (I27 : mI), y = oI y28 ∧ s = bd L I27 R S ∧ inR y28 ∧ (CallV d 121 [.ref 46, .ref p1] (bd L I27 R S) (fun s => ∃ (I29 : mI), s = bd L I29 R S ∧ (K (bd L I29 R S)))))))) ∧ (ld I p1 1 = 141 → CallI d 116 [.ref 46, .int (oI 0), .int (oI 9999)] (bd L I R S) (fun y s => ∃ (y32 : Int) (I31 : mI), y = oI y32 ∧ s = bd L I31 R S ∧ inR y32 ∧ (CallI d 118 [.ref 46, .int (oI 161)] (bd L (u2 I31 p1 2 (oI y32)) R S) (fun y s => ∃ (y34 : Int) (I33 : mI), y = oI y34 ∧ s = bd L I33 R S ∧ inR y34 ∧ (CallI d 116 [.ref 46, .int (oI 0), .int (oI 9999)] (bd L I33 R S) (fun y s => ∃ (y36 : Int) (I35 : mI), y = oI y36 ∧ s = bd L I35 R S ∧ inR y36 ∧ (K (bd L (u2 I35 p1 4 (oI y36)) R S)))))))) ∧ (ld I p1 1 = 142 → CallI d 116 [.ref 46, .int (oI 0), .int (oI 5)] (bd L I R S) (fun y s => ∃ (y39 : Int) (I38 : mI), y = oI y39 ∧ s = bd L I38 R S ∧ inR y39 ∧ (CallI d 118 [.ref 46, .int (oI 161)] (bd L (u2 I38 p1 2 (oI y39)) R S) (fun y s => ∃ (y41 : Int) (I40 : mI), y = oI y41 ∧ s = bd L I40 R S ∧ inR y41 ∧ (CallI d 116 [.ref 46, .int (oI 0), .int (oI 9999)] (bd L I40 R S) (fun y s => ∃ (y43 : Int) (I42 : mI), y = oI y43 ∧ s = bd L I42 R S ∧ inR y43 ∧ (K (bd L (u2 I42 p1 4 (oI y43)) R S)))))))) ∧ (ld I p1 1 = 144 → K (bd L I R S)) ∧ (¬ ld I p1 1 = 129 ∧ ¬ ld I p1 1 = 130 ∧ ¬ ld I p1 1 = 131 ∧ ¬ ld I p1 1 = 133 ∧ ¬ ld I p1 1 = 135 ∧ ¬ ld I p1 1 = 141 ∧ ¬ ld I p1 1 = 142 ∧ ¬ ld I p1 1 = 144 → CallI d 116 [.ref 46, .int (oI 0), .int (oI 9999)] (bd L I R S) (fun y s => ∃ (y46 : Int) (I45 : mI), y = oI y46 ∧ s = bd L I45 R S ∧ inR y46 ∧ (K (bd L (u2 I45 p1 4 (oI y46)) R S)))))) : CallV (d + 1) 119 [.ref 46, .ref p1] (bd L I R S) K := by
  refine cV_of (ls := [.ref 46, .ref p1]) rfl ?_
  refine xG gb119.1 ?_
  refine s6 (p := p1) rfl ?_
  obtain ⟨o1, hE⟩ := hE
  refine s50 (v := ld I p1 1) o1.sh o1.sp (by decide) (oI_ld _ _ _) ?_
  refine s76 (ld_inR _ _ _) ?_
  by_cases c2 : ld I p1 1 = 129
  · replace hE := hE.1 c2
    rw [show mSel ((jSW.getD 119 []).getD 0 []) (ld I p1 1 - 129) = 7 by rw [c2]; rfl]
    refine xG gb119.2.2.2.2.2.2.2.1 ?_
    refine s60 ?_
    refine xG gb119.2.2.2.2.2.2.2.2.2 ?_
    refine s83 ?_
    exact rqV_of hE
  replace hE := hE.2
  by_cases c3 : ld I p1 1 = 130
  · replace hE := hE.1 c3
    rw [show mSel ((jSW.getD 119 []).getD 0 []) (ld I p1 1 - 129) = 1 by rw [c3]; rfl]
    refine xG gb119.2.1 ?_
    refine s6 (p := p1) rfl ?_
    refine s6 (p := 46) rfl ?_
    refine sI rc120 rfl (Nat.le_of_ble_eq_true rfl) ?_
    refine CallI.mono hE ?_
    rintro _ _ ⟨y5, I4, rfl, rfl, gy5, hE⟩
    refine s52 o1.sh o1.sp (by decide) ?_
    refine s6 (p := 46) rfl ?_
    refine s0 ?_
    refine sI rc118 rfl (Nat.le_of_ble_eq_true rfl) ?_
    refine CallI.mono hE ?_
    rintro _ _ ⟨y7, I6, rfl, rfl, gy7, hE⟩
    refine s12i ?_
    refine s6 (p := p1) rfl ?_
    refine s6 (p := 46) rfl ?_
    refine s0 ?_
    refine s0 ?_
    refine sI rc116 rfl (Nat.le_of_ble_eq_true rfl) ?_
    refine CallI.mono hE ?_
    rintro _ _ ⟨y9, I8, rfl, rfl, gy9, hE⟩
    refine s52 o1.sh o1.sp (by decide) ?_
    refine s60 ?_
    refine xG gb119.2.2.2.2.2.2.2.2.2 ?_
    refine s83 ?_
    exact rqV_of hE
  replace hE := hE.2
  by_cases c10 : ld I p1 1 = 131
  · replace hE := hE.1 c10
    rw [show mSel ((jSW.getD 119 []).getD 0 []) (ld I p1 1 - 129) = 2 by rw [c10]; rfl]
    refine xG gb119.2.2.1 ?_
    refine s6 (p := p1) rfl ?_
    refine s6 (p := 46) rfl ?_
    refine s0 ?_
    refine s0 ?_
    refine sI rc116 rfl (Nat.le_of_ble_eq_true rfl) ?_
    refine CallI.mono hE ?_
    rintro _ _ ⟨y12, I11, rfl, rfl, gy12, hE⟩
    refine s52 o1.sh o1.sp (by decide) ?_
    refine s6 (p := 46) rfl ?_
    refine s0 ?_
    refine sI rc118 rfl (Nat.le_of_ble_eq_true rfl) ?_
    refine CallI.mono hE ?_
    rintro _ _ ⟨y14, I13, rfl, rfl, gy14, hE⟩
    refine s12i ?_
    refine s6 (p := p1) rfl ?_
    refine s6 (p := 46) rfl ?_
    refine s0 ?_
    refine s0 ?_
    refine sI rc116 rfl (Nat.le_of_ble_eq_true rfl) ?_
    refine CallI.mono hE ?_
    rintro _ _ ⟨y16, I15, rfl, rfl, gy16, hE⟩
    refine s52 o1.sh o1.sp (by decide) ?_
    refine s60 ?_
    refine xG gb119.2.2.2.2.2.2.2.2.2 ?_
    refine s83 ?_
    exact rqV_of hE
  replace hE := hE.2
  by_cases c17 : ld I p1 1 = 133
  · replace hE := hE.1 c17
    rw [show mSel ((jSW.getD 119 []).getD 0 []) (ld I p1 1 - 129) = 3 by rw [c17]; rfl]
    refine xG gb119.2.2.2.1 ?_
    refine s6 (p := p1) rfl ?_
    refine s6 (p := 46) rfl ?_
    refine s0 ?_
    refine s0 ?_
    refine sI rc116 rfl (Nat.le_of_ble_eq_true rfl) ?_
    refine CallI.mono hE ?_
    rintro _ _ ⟨y19, I18, rfl, rfl, gy19, hE⟩
    refine s52 o1.sh o1.sp (by decide) ?_
    refine s6 (p := 46) rfl ?_
    refine s0 ?_
    refine sI rc118 rfl (Nat.le_of_ble_eq_true rfl) ?_
    refine CallI.mono hE ?_
    rintro _ _ ⟨y21, I20, rfl, rfl, gy21, hE⟩
    refine s12i ?_
    refine s6 (p := p1) rfl ?_
    refine s6 (p := 46) rfl ?_
    refine s0 ?_
    refine s0 ?_
    refine sI rc116 rfl (Nat.le_of_ble_eq_true rfl) ?_
    refine CallI.mono hE ?_
    rintro _ _ ⟨y23, I22, rfl, rfl, gy23, hE⟩
    refine s52 o1.sh o1.sp (by decide) ?_
    refine s60 ?_
    refine xG gb119.2.2.2.2.2.2.2.2.2 ?_
    refine s83 ?_
    exact rqV_of hE
  replace hE := hE.2
  by_cases c24 : ld I p1 1 = 135
  · replace hE := hE.1 c24
    rw [show mSel ((jSW.getD 119 []).getD 0 []) (ld I p1 1 - 129) = 6 by rw [c24]; rfl]
    refine xG gb119.2.2.2.2.2.2.1 ?_
    refine s6 (p := p1) rfl ?_
    refine s6 (p := 46) rfl ?_
    refine s0 ?_
    refine s0 ?_
    refine sI rc116 rfl (Nat.le_of_ble_eq_true rfl) ?_
    refine CallI.mono hE ?_
    rintro _ _ ⟨y26, I25, rfl, rfl, gy26, hE⟩
    refine s52 o1.sh o1.sp (by decide) ?_
    refine s6 (p := 46) rfl ?_
    refine s0 ?_
    refine sI rc118 rfl (Nat.le_of_ble_eq_true rfl) ?_
    refine CallI.mono hE ?_
    rintro _ _ ⟨y28, I27, rfl, rfl, gy28, hE⟩
    refine s12i ?_
    refine s6 (p := 46) rfl ?_
    refine s6 (p := p1) rfl ?_
    refine sV rc121 rfl (Nat.le_of_ble_eq_true rfl) ?_
    refine CallV.mono hE ?_
    rintro _ ⟨I29, rfl, hE⟩
    refine s60 ?_
    refine xG gb119.2.2.2.2.2.2.2.2.2 ?_
    refine s83 ?_
    exact rqV_of hE
  replace hE := hE.2
  by_cases c30 : ld I p1 1 = 141
  · replace hE := hE.1 c30
    rw [show mSel ((jSW.getD 119 []).getD 0 []) (ld I p1 1 - 129) = 4 by rw [c30]; rfl]
    refine xG gb119.2.2.2.2.1 ?_
    refine s6 (p := p1) rfl ?_
    refine s6 (p := 46) rfl ?_
    refine s0 ?_
    refine s0 ?_
    refine sI rc116 rfl (Nat.le_of_ble_eq_true rfl) ?_
    refine CallI.mono hE ?_
    rintro _ _ ⟨y32, I31, rfl, rfl, gy32, hE⟩
    refine s52 o1.sh o1.sp (by decide) ?_
    refine s6 (p := 46) rfl ?_
    refine s0 ?_
    refine sI rc118 rfl (Nat.le_of_ble_eq_true rfl) ?_
    refine CallI.mono hE ?_
    rintro _ _ ⟨y34, I33, rfl, rfl, gy34, hE⟩
    refine s12i ?_
    refine s6 (p := p1) rfl ?_
    refine s6 (p := 46) rfl ?_
    refine s0 ?_
    refine s0 ?_
    refine sI rc116 rfl (Nat.le_of_ble_eq_true rfl) ?_
    refine CallI.mono hE ?_
    rintro _ _ ⟨y36, I35, rfl, rfl, gy36, hE⟩
    refine s52 o1.sh o1.sp (by decide) ?_
    refine s60 ?_
    refine xG gb119.2.2.2.2.2.2.2.2.2 ?_
    refine s83 ?_
    exact rqV_of hE
  replace hE := hE.2
  by_cases c37 : ld I p1 1 = 142
  · replace hE := hE.1 c37
    rw [show mSel ((jSW.getD 119 []).getD 0 []) (ld I p1 1 - 129) = 5 by rw [c37]; rfl]
    refine xG gb119.2.2.2.2.2.1 ?_
    refine s6 (p := p1) rfl ?_
    refine s6 (p := 46) rfl ?_
    refine s0 ?_
    refine s0 ?_
    refine sI rc116 rfl (Nat.le_of_ble_eq_true rfl) ?_
    refine CallI.mono hE ?_
    rintro _ _ ⟨y39, I38, rfl, rfl, gy39, hE⟩
    refine s52 o1.sh o1.sp (by decide) ?_
    refine s6 (p := 46) rfl ?_
    refine s0 ?_
    refine sI rc118 rfl (Nat.le_of_ble_eq_true rfl) ?_
    refine CallI.mono hE ?_
    rintro _ _ ⟨y41, I40, rfl, rfl, gy41, hE⟩
    refine s12i ?_
    refine s6 (p := p1) rfl ?_
    refine s6 (p := 46) rfl ?_
    refine s0 ?_
    refine s0 ?_
    refine sI rc116 rfl (Nat.le_of_ble_eq_true rfl) ?_
    refine CallI.mono hE ?_
    rintro _ _ ⟨y43, I42, rfl, rfl, gy43, hE⟩
    refine s52 o1.sh o1.sp (by decide) ?_
    refine s60 ?_
    refine xG gb119.2.2.2.2.2.2.2.2.2 ?_
    refine s83 ?_
    exact rqV_of hE
  replace hE := hE.2
  by_cases c44 : ld I p1 1 = 144
  · replace hE := hE.1 c44
    rw [show mSel ((jSW.getD 119 []).getD 0 []) (ld I p1 1 - 129) = 7 by rw [c44]; rfl]
    refine xG gb119.2.2.2.2.2.2.2.1 ?_
    refine s60 ?_
    refine xG gb119.2.2.2.2.2.2.2.2.2 ?_
    refine s83 ?_
    exact rqV_of hE
  replace hE := hE.2
  replace hE := hE ⟨c2, c3, c10, c17, c24, c30, c37, c44⟩
  rw [show mSel ((jSW.getD 119 []).getD 0 []) (ld I p1 1 - 129) = 8 by exact mSel_def (lo := 129) (vs := [129, 130, 131, 133, 135, 141, 142, 144]) rfl (by intro v hv; simp only [List.mem_cons, List.not_mem_nil, or_false] at hv; omega)]
  refine xG gb119.2.2.2.2.2.2.2.2.1 ?_
  refine s6 (p := p1) rfl ?_
  refine s6 (p := 46) rfl ?_
  refine s0 ?_
  refine s0 ?_
  refine sI rc116 rfl (Nat.le_of_ble_eq_true rfl) ?_
  refine CallI.mono hE ?_
  rintro _ _ ⟨y46, I45, rfl, rfl, gy46, hE⟩
  refine s52 o1.sh o1.sp (by decide) ?_
  refine s79 ?_
  refine xG gb119.2.2.2.2.2.2.2.2.2 ?_
  refine s83 ?_
  exact rqV_of hE
section
variable {d L : Nat} {I I1 I2 : mI} {R : mR} {S : mSh} {T : Nat → Int} {N nt t t1 p r q k : Nat} {f c ms v : Int} {x : Int32} {K : mM → Prop}
/-- what may change while a body is read into the clause q -/
def Pw (q : Nat) (I I1 : mI) : Prop := (∀ a k, ¬ a = q → osN.contains (a, k) = false → I1 a k = I a k) ∧ ∀ k, ¬ (k = 2 ∨ k = 3 ∨ k = 4) → I1 q k = I q k
theorem Pw.fr (hq : 155 ≤ q) (hf : Fr [] osN I I1) : Pw q I I1 := ⟨fun a k _ ho => hf a k (by show (false || osN.contains (a, k)) = false; rw [ho]; rfl), fun k _ => hf q k (by show (false || osN.contains (q, k)) = false; rw [osN_hi hq]; rfl)⟩
theorem Pw.refl (q : Nat) (I : mI) : Pw q I I := ⟨fun _ _ _ _ => rfl, fun _ _ => rfl⟩
theorem Pw.trans (h : Pw q I I1) (h2 : Pw q I1 I2) : Pw q I I2 := ⟨fun a k ha ho => (h2.1 a k ha ho).trans (h.1 a k ha ho), fun k hk => (h2.2 k hk).trans (h.2 k hk)⟩
theorem Pw.set (h : Pw q I I1) (hk : k = 2 ∨ k = 3 ∨ k = 4) : Pw q I (u2 I1 q k x) := ⟨fun a j ha ho => (v2_ne ha).trans (h.1 a j ha ho), fun j hj => (v2_nk (by intro e; exact hj (by rw [e]; exact hk))).trans (h.2 j hj)⟩
theorem PsC.wq (h : PsC I T N nt t f) (hq : 155 ≤ q) : PsC (u2 I q k x) T N nt t f := h.ag (fun a j ha => v2_ne (by omega))
theorem fr_q (hq : 155 ≤ q) (hf : Fr [] osN I I1) : ld I1 q k = ld I q k := hf.ld (by show (false || osN.contains (q, k)) = false; rw [osN_hi hq]; rfl)
theorem tl119 {i : Nat} {w : Int64} (h : PsC I T N nt t (-1)) (hb : bl T N p = plc T N t) (hi : i < 41) (hw : wc i = w) (hc : c = 128 + (i : Int)) (hms : inR ms)
    (k1 : ∀ (z : Int) (r1 r : Nat) (I1 : mI), rWord T N w p = (some (), r1) → rNum T N 0 ms r1 = (some z, r) → Fr [] osN I I1 → PsC I1 T N nt (t + 2) (-1) → bl T N r = plc T N (t + 2) → r ≤ N → inR z → K (bd L (u2 I1 q 4 (oI z)) R S))
    (k0 : ∀ (r : Nat) (I1 : mI) (t1 : Nat), (rWord T N w p = (none, r) ∨ ∃ r1, rWord T N w p = (some (), r1) ∧ rNum T N 0 ms r1 = (none, r)) → Fr [] osN I I1 → t ≤ t1 → PsC I1 T N nt t1 (r : Int) → K (bd L (u2 I1 q 4 (oI 0)) R S)) :
    CallI (d + 1) 118 [.ref 46, .int (oI c)] (bd L I R S) (fun y s => ∃ (y7 : Int) (I6 : mI), y = oI y7 ∧ s = bd L I6 R S ∧ inR y7 ∧ (CallI (d + 1) 116 [.ref 46, .int (oI 0), .int (oI ms)] (bd L I6 R S) (fun y s => ∃ (y9 : Int) (I8 : mI), y = oI y9 ∧ s = bd L I8 R S ∧ inR y9 ∧ (K (bd L (u2 I8 q 4 (oI y9)) R S))))) := by
  refine k118w h hb hi hw hc (fun r I1 e cs => ⟨1, I1, rfl, rfl, inRd rfl, ?_⟩) (fun r I1 e fs => ⟨0, I1, rfl, rfl, inRd rfl, ?_⟩)
  · refine k116s cs.2.1 cs.2.2.1 (inRd rfl) hms (fun z r2 I2 e2 cs2 => ?_) (fun r2 I2 e2 fs2 => ?_)
    · have hz := rNum_some e2
      have hin : inR z := by have := hms.2; exact ⟨by omega, by omega⟩
      exact ⟨z, I2, rfl, rfl, hin, k1 z r r2 I2 e e2 (cs.1.trans cs2.1) cs2.2.1 cs2.2.2.1 cs2.2.2.2.1 hin⟩
    · obtain ⟨f1, t1, f2, f3⟩ := fs2
      exact ⟨0, I2, rfl, rfl, inRd rfl, k0 r2 I2 t1 (Or.inr ⟨r, e, e2⟩) (cs.1.trans f1) (by omega) f3⟩
  · obtain ⟨f1, t1, f2, f3⟩ := fs
    exact k116f f3 (by omega) ⟨0, I1, rfl, rfl, inRd rfl, k0 r I1 t1 (Or.inl e) f1 f2 f3⟩
theorem tf119 (h : PsC I T N nt t f) (hf : ¬ f = -1) (hK : K (bd L (u2 I q 4 (oI 0)) R S)) :
    CallI (d + 1) 118 [.ref 46, .int (oI c)] (bd L I R S) (fun y s => ∃ (y7 : Int) (I6 : mI), y = oI y7 ∧ s = bd L I6 R S ∧ inR y7 ∧ (CallI (d + 1) 116 [.ref 46, .int (oI 0), .int (oI ms)] (bd L I6 R S) (fun y s => ∃ (y9 : Int) (I8 : mI), y = oI y9 ∧ s = bd L I8 R S ∧ inR y9 ∧ (K (bd L (u2 I8 q 4 (oI y9)) R S))))) :=
  k118f h hf ⟨0, I, rfl, rfl, inRd rfl, k116f h hf ⟨0, I, rfl, rfl, inRd rfl, hK⟩⟩
theorem pr119 {i m : Nat} {w : Int64} {as : List Value} {sp : Option Int × Nat} (h : PsC I T N nt t (-1)) (hq : 155 ≤ q) (hi : i < 41) (hw : wc i = w) (hc : c = 128 + (i : Int)) (hms : inR ms)
    (hA : ∀ K' : Int32 → mM → Prop, (∀ v r I1, sp = (some v, r) → CuS T N nt t I I1 (t + 1) r → inR v → K' (oI v) (bd L I1 R S)) → (∀ r I1, sp = (none, r) → FaS T N nt t I I1 r → K' (oI 0) (bd L I1 R S)) → CallI (d + 1) m as (bd L I R S) K')
    (k1 : ∀ (v z : Int) (r1 r2 r : Nat) (I1 : mI), sp = (some v, r1) → rWord T N w r1 = (some (), r2) → rNum T N 0 ms r2 = (some z, r) → Pw q I I1 → PsC I1 T N nt (t + 3) (-1) → bl T N r = plc T N (t + 3) → r ≤ N → ld I1 q 2 = v ∧ ld I1 q 4 = z ∧ ld I1 q 3 = ld I q 3 → K (bd L I1 R S))
    (k0 : ∀ (r : Nat) (I1 : mI) (t1 : Nat), (sp = (none, r) ∨ ∃ v r1, sp = (some v, r1) ∧ (rWord T N w r1 = (none, r) ∨ ∃ r2, rWord T N w r1 = (some (), r2) ∧ rNum T N 0 ms r2 = (none, r))) → Pw q I I1 → t ≤ t1 → PsC I1 T N nt t1 (r : Int) → K (bd L I1 R S)) :
    CallI (d + 1) m as (bd L I R S) (fun y s => ∃ (y5 : Int) (I4 : mI), y = oI y5 ∧ s = bd L I4 R S ∧ inR y5 ∧ (CallI (d + 1) 118 [.ref 46, .int (oI c)] (bd L (u2 I4 q 2 (oI y5)) R S) (fun y s => ∃ (y7 : Int) (I6 : mI), y = oI y7 ∧ s = bd L I6 R S ∧ inR y7 ∧ (CallI (d + 1) 116 [.ref 46, .int (oI 0), .int (oI ms)] (bd L I6 R S) (fun y s => ∃ (y9 : Int) (I8 : mI), y = oI y9 ∧ s = bd L I8 R S ∧ inR y9 ∧ (K (bd L (u2 I8 q 4 (oI y9)) R S))))))) := by
  refine hA _ (fun v r1 I1 e cs hv => ⟨v, I1, rfl, rfl, hv, ?_⟩) (fun r I1 e fs => ⟨0, I1, rfl, rfl, inRd rfl, ?_⟩)
  · refine tl119 (cs.2.1.wq hq) cs.2.2.1 hi hw hc hms (fun z r2 r I2 e2 e3 hf hps hbl hr hz => ?_) (fun r I2 t1 e2 hf ht1 hps => ?_)
    · refine k1 v z r1 r2 r _ e e2 e3 ((((Pw.fr hq cs.1).set (Or.inl rfl)).trans (Pw.fr hq hf)).set (Or.inr (Or.inr rfl))) (hps.wq hq) hbl hr ⟨?_, ?_, ?_⟩
      · rw [ld_w hz, if_neg (by decide), fr_q hq hf, ld_w hv, if_pos rfl]
      · rw [ld_w hz, if_pos rfl]
      · rw [ld_w hz, if_neg (by decide), fr_q hq hf, ld_w hv, if_neg (by decide), fr_q hq cs.1]
    · exact k0 r _ t1 (Or.inr ⟨v, r1, e, e2⟩) ((((Pw.fr hq cs.1).set (Or.inl rfl)).trans (Pw.fr hq hf)).set (Or.inr (Or.inr rfl))) (by omega) (hps.wq hq)
  · obtain ⟨f1, t1, f2, f3⟩ := fs
    exact tf119 (f3.wq hq) (by omega) (k0 r _ t1 (Or.inl e) (((Pw.fr hq f1).set (Or.inl rfl)).set (Or.inr (Or.inr rfl))) f2 ((f3.wq hq).wq hq))
theorem k116i {lo hi : Int} {K : Int32 → mM → Prop} (h : PsC I T N nt t (-1)) (hb : bl T N p = plc T N t) (hlo : inR lo) (hhi : inR hi) (h1 : ∀ v r I1, rNum T N lo hi p = (some v, r) → CuS T N nt t I I1 (t + 1) r → inR v → K (oI v) (bd L I1 R S)) (h0 : ∀ r I1, rNum T N lo hi p = (none, r) → FaS T N nt t I I1 r → K (oI 0) (bd L I1 R S)) : CallI (d + 1) 116 [.ref 46, .int (oI lo), .int (oI hi)] (bd L I R S) K :=
  k116s h hb hlo hhi (fun v r I1 e cs => h1 v r I1 e cs (by have := rNum_some e; have := hlo.1; have := hhi.2; exact ⟨by omega, by omega⟩)) h0
theorem mwP_in (h : mwP T N p = (some v, r)) : 1 ≤ v ∧ v ≤ 3 := by
  unfold mwP at h
  split at h
  · cases h; decide
  · split at h
    · cases h; decide
    · split at h
      · cases h; decide
      · cases h
theorem k120i {K : Int32 → mM → Prop} (h : PsC I T N nt t (-1)) (hb : bl T N p = plc T N t) (h1 : ∀ v r I1, mwP T N p = (some v, r) → CuS T N nt t I I1 (t + 1) r → inR v → K (oI v) (bd L I1 R S)) (h0 : ∀ r I1, mwP T N p = (none, r) → FaS T N nt t I I1 r → K (oI 0) (bd L I1 R S)) : CallI (d + 1) 120 [.ref 46] (bd L I R S) K :=
  k120s h hb (fun v r I1 e cs => h1 v r I1 e cs (by have := mwP_in e; exact ⟨by omega, by omega⟩)) h0
theorem k121s (h : PsC I T N nt t (-1)) (hb : bl T N p = plc T N t) (hob : obJ S q 15 8)
    (k1 : ∀ (z : Int) (r : Nat) (I1 : mI) (t1 : Nat), gpP T N p = (some z, r) → Pw q I I1 → t ≤ t1 → PsC I1 T N nt t1 (-1) → bl T N r = plc T N t1 → r ≤ N → ld I1 q 3 = cPer 6 z ∧ ld I1 q 2 = (if 0 ≤ z then z else ld I q 2) ∧ ld I1 q 4 = ld I q 4 → K (bd L I1 R S))
    (k0 : ∀ (r : Nat) (I1 : mI) (t1 : Nat), gpP T N p = (none, r) → Pw q I I1 → t ≤ t1 → PsC I1 T N nt t1 (r : Int) → K (bd L I1 R S)) : CallV (d + 2) 121 [.ref 46, .ref q] (bd L I R S) K := by
  have g := h.at
  have hq := hob.1
  have hf := h.2.2.2.1
  have h7 := h.2.2.1
  have hpl := plc_in (T := T) (N := N) t
  have m1 : tkOk T N (plc T N t) wHead ↔ tkK T N (plc T N t) = 159 := tk_w (i := 31) hpl (by decide) rfl
  have m2 : tkOk T N (plc T N t) wChild ↔ tkK T N (plc T N t) = 160 := tk_w (i := 32) hpl (by decide) rfl
  have m3 : tkOk T N (plc T N t) wPass ↔ tkK T N (plc T N t) = 133 := tk_w (i := 5) hpl (by decide) rfl
  refine e121 (d := d + 1) ⟨g.2.2.2, fun _ => ?_, fun c => absurd hf c⟩
  rw [g.1]
  refine ⟨fun c1 => ⟨hob, ?_⟩, fun c1 => ⟨fun c2 => ⟨hob, ?_⟩, fun c2 => ⟨fun c3 => ⟨hob, ?_⟩, fun c3 => ?_⟩⟩⟩
  · have l1 := h.lt (by omega)
    have h1 := h.nx l1.1 (v := ld I 46 7 + 1) (by omega)
    refine k1 (-2) (lt T N (plc T N t)) _ (t + 1) (by unfold gpP; rw [hb, if_pos (m1.mpr c1)]) ((Pw.fr hq h1.1).set (Or.inr (Or.inl rfl))) (by omega) (h1.2.wq hq) ?_ (lt_in hpl).2 ⟨?_, ?_, ?_⟩
    · show _ = bl T N (tkE T N (plc T N t))
      rw [tk_wordE (i := 31) c1]
    · rw [c1, ld_w (inRd rfl), if_pos rfl]; rfl
    · rw [c1, ld_w (inRd rfl), if_neg (by decide), fr_q hq h1.1]; rfl
    · rw [c1, ld_w (inRd rfl), if_neg (by decide), fr_q hq h1.1]
  · have l1 := h.lt (by omega)
    have h1 := h.nx l1.1 (v := ld I 46 7 + 1) (by omega)
    refine k1 (-3) (lt T N (plc T N t)) _ (t + 1) (by unfold gpP; rw [hb, if_neg (fun e => c1 (m1.mp e)), if_pos (m2.mpr c2)]) ((Pw.fr hq h1.1).set (Or.inr (Or.inl rfl))) (by omega) (h1.2.wq hq) ?_ (lt_in hpl).2 ⟨?_, ?_, ?_⟩
    · show _ = bl T N (tkE T N (plc T N t))
      rw [tk_wordE (i := 32) c2]
    · rw [c2, ld_w (inRd rfl), if_pos rfl]; rfl
    · rw [c2, ld_w (inRd rfl), if_neg (by decide), fr_q hq h1.1]; rfl
    · rw [c2, ld_w (inRd rfl), if_neg (by decide), fr_q hq h1.1]
  · have l1 := h.lt (by omega)
    have h1 := h.nx l1.1 (v := ld I 46 7 + 1) (by omega)
    have e1 : bl T N (lt T N (plc T N t)) = plc T N (t + 1) := by
      show _ = bl T N (tkE T N (plc T N t))
      rw [tk_wordE (i := 5) c3]
    have eg : gpP T N p = rNum T N 0 5 (lt T N (plc T N t)) := by
      unfold gpP
      rw [hb, if_neg (fun e => c1 (m1.mp e)), if_neg (fun e => c2 (m2.mp e)), rWord_p (by rw [hb]; exact m3.mpr c3)]
      show rNum T N 0 5 (lt T N (bl T N p)) = _
      rw [hb]
    rw [c3]
    refine k116i (h1.2.wq hq) e1 (inRd rfl) (inRd rfl) (fun v r I2 e cs hv => ⟨v, I2, rfl, rfl, hv, ?_⟩) (fun r I2 e fs => ⟨0, I2, rfl, rfl, inRd rfl, ?_⟩)
    · have hv2 := rNum_some e
      refine k1 v r _ (t + 2) (eg.trans e) ((((Pw.fr hq h1.1).set (Or.inr (Or.inl rfl))).trans (Pw.fr hq cs.1)).set (Or.inl rfl)) (by omega) (cs.2.1.wq hq) cs.2.2.1 cs.2.2.2.1 ⟨?_, ?_, ?_⟩
      · rw [ld_w hv, if_neg (by decide), fr_q hq cs.1, ld_w (inRd rfl), if_pos rfl]
        unfold cPer
        rw [if_pos rfl, if_neg (by omega), if_neg (by omega)]
      · rw [ld_w hv, if_pos rfl, if_pos hv2.1]
      · rw [ld_w hv, if_neg (by decide), fr_q hq cs.1, ld_w (inRd rfl), if_neg (by decide), fr_q hq h1.1]
    · obtain ⟨f1, t1, f2, f3⟩ := fs
      exact k0 r _ t1 (eg.trans e) ((((Pw.fr hq h1.1).set (Or.inr (Or.inl rfl))).trans (Pw.fr hq f1)).set (Or.inl rfl)) (by omega) (f3.wq hq)
  · refine k114 h (fun I1 q1 q2 => ⟨_, rfl, k0 _ _ t ?_ (Pw.fr hq q1) (Nat.le_refl _) q2⟩)
    unfold gpP
    rw [hb, if_neg (fun e => c1 (m1.mp e)), if_neg (fun e => c2 (m2.mp e)), rWord_n (by rw [hb]; exact fun e => c3 (m3.mp e)), hb]
    rfl
theorem k121f (h : PsC I T N nt t f) (hf : ¬ f = -1) (hK : K (bd L I R S)) : CallV (d + 2) 121 [.ref 46, .ref q] (bd L I R S) K :=
  e121 (d := d + 1) ⟨h.at.2.2.2, fun c => absurd (h.2.2.2.1.symm.trans c) hf, fun _ => k114f h hf ⟨_, rfl, hK⟩⟩
end
