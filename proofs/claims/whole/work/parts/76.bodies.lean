/-! the reference: what a clause says -/
set_option maxRecDepth 4000 in
theorem e308 {d L : Nat} {I : Nat → Nat → Int32} {R : Nat → Nat → Option Nat} {S : List (Nat × Nat)} {K : Int32 → mM → Prop} {A : aS} (hR : RM I A) {x1 : Int} {x2 : Int} (hE : (0 ≤ x1 ∧ x1 < 360) ∧ (inR x2 ∧ (WfC A ∧ ((((140 = 137 ∨ 140 = 138) ∧ (A 91 65).toNat ≤ x1.toNat) ∨ ((140 = 139 ∨ 140 = 140) ∧ 40 * (A 91 65).toNat ≤ x1.toNat)) ∧ (∀ (I5 : mI) (A6 : aS), (I5 = (u2 I 140 x1.toNat (oI x2))) → (A6 = (u2 A 140 x1.toNat x2)) → (RM I5 A6) → ∃ (T10 : Nat → Int) (N11 p12 : Nat), Tx I5 T10 N11 p12 ∧ (((nmOk T10 N11 (bl T10 N11 p12) 0 9999) → ∀ (I15 : mI), (Fr [] [(91, 69), (91, 90)] I5 I15) → (RM I15 A6) → (Tx I15 T10 N11 (dg T10 N11 (bl T10 N11 p12))) → (ld I15 91 90 = nv T10 N11 (bl T10 N11 p12)) → K (oI 1) (bd L (u2 I15 141 x1.toNat (oI (ld I15 91 90))) R S)) ∧ (¬ (nmOk T10 N11 (bl T10 N11 p12) 0 9999) → ∀ (I15 : mI), (Fr [] [(91, 69), (91, 90)] I5 I15) → (RM I15 A6) → (Tx I15 T10 N11 (bl T10 N11 p12)) → K (oI 0) (bd L I15 R S)))))))) : CallI (d + 3) 308 [.ref 91, .int (oI x1), .int (oI x2)] (bd L I R S) K := by
  refine cI_of (ls := [.ref 91, .int (oI x1), .int (oI x2)]) rfl ?_
  refine xG gb308.1 ?_
  refine s6 (p := 91) rfl ?_
  refine s51 sh91 (by decide) (by decide) rf91_75 ?_
  refine s4 (x := x1) rfl ?_
  refine s4 (x := x2) rfl ?_
  obtain ⟨g1, hE⟩ := hE
  refine s44 sh140 (by decide) g1 rfl ?_
  refine s6 (p := 91) rfl ?_
  refine sI rc309 rfl (Nat.le_of_ble_eq_true rfl) ?_
  refine cI_of (ls := [.ref 91]) rfl ?_
  refine xG gb309 ?_
  refine s6 (p := 91) rfl ?_
  refine s0 ?_
  refine s0 ?_
  obtain ⟨g2, hE⟩ := hE
  obtain ⟨g3, hE⟩ := hE
  obtain ⟨g4, hE⟩ := hE
  obtain ⟨I5, q7⟩ : ∃ i : mI, i = (u2 I 140 x1.toNat (oI x2)) := ⟨_, rfl⟩
  obtain ⟨A6, q8⟩ : ∃ i : aS, i = (u2 A 140 x1.toNat x2) := ⟨_, rfl⟩
  have q9 : RM I5 A6 := by rw [q7, q8]; exact (RM.setS hR g3 140 x1.toNat g2 g4)
  replace hE := hE I5 A6 q7 q8 q9
  obtain ⟨T10, N11, p12, k13, hE⟩ := hE
  refine sI rc305 rfl (Nat.le_of_ble_eq_true rfl) ?_
  rw [← q7]
  refine k305 q9 k13 (inRd rfl) (inRd rfl) (fun c14 I15 q16 q17 q18 q19 => ?_) (fun c14 I15 q16 q17 q18 => ?_)
  · replace hE := hE.1 c14 I15 q16 q17 q18 q19
    refine s84 (by decide) ?_
    refine rqI_of ?_
    refine s68 (inRd rfl) (fun c20 => absurd c20 (by decide)) (fun _ => ?_)
    refine xG gb308.2 ?_
    refine s6 (p := 91) rfl ?_
    refine s51 sh91 (by decide) (by decide) rf91_76 ?_
    refine s4 (x := x1) rfl ?_
    refine s6 (p := 91) rfl ?_
    refine s50 (v := ld I15 91 90) sh91 (by decide) (by decide) (oI_ld _ _ _) ?_
    refine s44 sh141 (by decide) g1 rfl ?_
    refine s0 ?_
    refine s84 (by decide) ?_
    exact rqI_of hE
  · replace hE := hE.2 c14 I15 q16 q17 q18
    refine s84 (by decide) ?_
    refine rqI_of ?_
    refine s68 (inRd rfl) (fun _ => ?_) (fun c21 => absurd (by decide) c21)
    refine s0 ?_
    refine s84 (by decide) ?_
    exact rqI_of hE
set_option maxRecDepth 4000 in
theorem e310 {d L : Nat} {I : Nat → Nat → Int32} {R : Nat → Nat → Option Nat} {S : List (Nat × Nat)} {K : Int32 → mM → Prop} {A : aS} (hR : RM I A) {x1 : Int} {x2 : Int} {x3 : Int} {X4 : Int64} {x5 : Int} (hE : (0 ≤ x1 ∧ x1 < 360) ∧ (inR x2 ∧ (WfC A ∧ ((((140 = 137 ∨ 140 = 138) ∧ (A 91 65).toNat ≤ x1.toNat) ∨ ((140 = 139 ∨ 140 = 140) ∧ 40 * (A 91 65).toNat ≤ x1.toNat)) ∧ (∀ (I5 : mI) (A6 : aS), (I5 = (u2 I 140 x1.toNat (oI x2))) → (A6 = (u2 A 140 x1.toNat x2)) → (RM I5 A6) → inR x3 ∧ (∃ (T10 : Nat → Int) (N11 p12 : Nat), Tx I5 T10 N11 p12 ∧ (((nmOk T10 N11 (bl T10 N11 p12) 0 x3) → ∀ (I16 : mI), (Fr [] [(91, 69), (91, 90)] I5 I16) → (RM I16 A6) → (Tx I16 T10 N11 (dg T10 N11 (bl T10 N11 p12))) → (ld I16 91 90 = nv T10 N11 (bl T10 N11 p12)) → ∀ (I22 : mI) (A23 : aS), (I22 = (u2 I16 141 x1.toNat (oI (ld I16 91 90)))) → (A23 = (u2 A6 141 x1.toNat (ld I16 91 90))) → (RM I22 A23) → ∃ (T27 : Nat → Int) (N28 p29 : Nat), Tx I22 T27 N28 p29 ∧ (((tkOk T27 N28 (bl T27 N28 p29) X4) → ∀ (I32 : mI), (Fr [] [(91, 69)] I22 I32) → (RM I32 A23) → (Tx I32 T27 N28 (lt T27 N28 (bl T27 N28 p29))) → inR x5 ∧ (∃ (T38 : Nat → Int) (N39 p40 : Nat), Tx I32 T38 N39 p40 ∧ (((nmOk T38 N39 (bl T38 N39 p40) 0 x5) → ∀ (I44 : mI), (Fr [] [(91, 69), (91, 90)] I32 I44) → (RM I44 A23) → (Tx I44 T38 N39 (dg T38 N39 (bl T38 N39 p40))) → (ld I44 91 90 = nv T38 N39 (bl T38 N39 p40)) → K (oI 1) (bd L (u2 I44 142 x1.toNat (oI (ld I44 91 90))) R S)) ∧ (¬ (nmOk T38 N39 (bl T38 N39 p40) 0 x5) → ∀ (I44 : mI), (Fr [] [(91, 69), (91, 90)] I32 I44) → (RM I44 A23) → (Tx I44 T38 N39 (bl T38 N39 p40)) → K (oI 0) (bd L I44 R S))))) ∧ (¬ (tkOk T27 N28 (bl T27 N28 p29) X4) → ∀ (I32 : mI), (Fr [] [(91, 69)] I22 I32) → (RM I32 A23) → (Tx I32 T27 N28 (bl T27 N28 p29)) → K (oI 0) (bd L I32 R S)))) ∧ (¬ (nmOk T10 N11 (bl T10 N11 p12) 0 x3) → ∀ (I16 : mI), (Fr [] [(91, 69), (91, 90)] I5 I16) → (RM I16 A6) → (Tx I16 T10 N11 (bl T10 N11 p12)) → K (oI 0) (bd L I16 R S))))))))) : CallI (d + 2) 310 [.ref 91, .int (oI x1), .int (oI x2), .int (oI x3), .long X4, .int (oI x5)] (bd L I R S) K := by
  refine cI_of (ls := [.ref 91, .int (oI x1), .int (oI x2), .int (oI x3), .long X4, mUn, .int (oI x5)]) rfl ?_
  refine xG gb310.1 ?_
  refine s6 (p := 91) rfl ?_
  refine s51 sh91 (by decide) (by decide) rf91_75 ?_
  refine s4 (x := x1) rfl ?_
  refine s4 (x := x2) rfl ?_
  obtain ⟨g1, hE⟩ := hE
  refine s44 sh140 (by decide) g1 rfl ?_
  refine s6 (p := 91) rfl ?_
  refine s0 ?_
  refine s4 (x := x3) rfl ?_
  obtain ⟨g2, hE⟩ := hE
  obtain ⟨g3, hE⟩ := hE
  obtain ⟨g4, hE⟩ := hE
  obtain ⟨I5, q7⟩ : ∃ i : mI, i = (u2 I 140 x1.toNat (oI x2)) := ⟨_, rfl⟩
  obtain ⟨A6, q8⟩ : ∃ i : aS, i = (u2 A 140 x1.toNat x2) := ⟨_, rfl⟩
  have q9 : RM I5 A6 := by rw [q7, q8]; exact (RM.setS hR g3 140 x1.toNat g2 g4)
  replace hE := hE I5 A6 q7 q8 q9
  obtain ⟨g14, hE⟩ := hE
  obtain ⟨T10, N11, p12, k13, hE⟩ := hE
  refine sI rc305 rfl (Nat.le_of_ble_eq_true rfl) ?_
  rw [← q7]
  refine k305 q9 k13 (inRd rfl) g14 (fun c15 I16 q17 q18 q19 q20 => ?_) (fun c15 I16 q17 q18 q19 => ?_)
  · replace hE := hE.1 c15 I16 q17 q18 q19 q20
    refine s68 (inRd rfl) (fun c21 => absurd c21 (by decide)) (fun _ => ?_)
    refine xG gb310.2.1 ?_
    refine s6 (p := 91) rfl ?_
    refine s51 sh91 (by decide) (by decide) rf91_76 ?_
    refine s4 (x := x1) rfl ?_
    refine s6 (p := 91) rfl ?_
    refine s50 (v := ld I16 91 90) sh91 (by decide) (by decide) (oI_ld _ _ _) ?_
    refine s44 sh141 (by decide) g1 rfl ?_
    refine s6 (p := 91) rfl ?_
    refine s5 (X := X4) rfl ?_
    obtain ⟨I22, q24⟩ : ∃ i : mI, i = (u2 I16 141 x1.toNat (oI (ld I16 91 90))) := ⟨_, rfl⟩
    obtain ⟨A23, q25⟩ : ∃ i : aS, i = (u2 A6 141 x1.toNat (ld I16 91 90)) := ⟨_, rfl⟩
    have q26 : RM I22 A23 := by rw [q24, q25]; exact (RM.set q18 141 x1.toNat (ld_inR _ _ _) rfl)
    replace hE := hE I22 A23 q24 q25 q26
    obtain ⟨T27, N28, p29, k30, hE⟩ := hE
    refine sI rc304 rfl (Nat.le_of_ble_eq_true rfl) ?_
    rw [← q24]
    refine k304 q26 k30 (fun c31 I32 q33 q34 q35 => ?_) (fun c31 I32 q33 q34 q35 => ?_)
    · replace hE := hE.1 c31 I32 q33 q34 q35
      refine s67 (inRd rfl) (fun c37 => absurd c37 (by decide)) (fun _ => ?_)
      refine s6 (p := 91) rfl ?_
      refine s0 ?_
      refine s4 (x := x5) rfl ?_
      obtain ⟨g42, hE⟩ := hE
      obtain ⟨T38, N39, p40, k41, hE⟩ := hE
      refine sI rc305 rfl (Nat.le_of_ble_eq_true rfl) ?_
      refine k305 q34 k41 (inRd rfl) g42 (fun c43 I44 q45 q46 q47 q48 => ?_) (fun c43 I44 q45 q46 q47 => ?_)
      · replace hE := hE.1 c43 I44 q45 q46 q47 q48
        refine s68 (inRd rfl) (fun c49 => absurd c49 (by decide)) (fun _ => ?_)
        refine xG gb310.2.2.2 ?_
        refine s6 (p := 91) rfl ?_
        refine s51 sh91 (by decide) (by decide) rf91_77 ?_
        refine s4 (x := x1) rfl ?_
        refine s6 (p := 91) rfl ?_
        refine s50 (v := ld I44 91 90) sh91 (by decide) (by decide) (oI_ld _ _ _) ?_
        refine s44 sh142 (by decide) g1 rfl ?_
        refine s0 ?_
        refine s84 (by decide) ?_
        exact rqI_of hE
      · replace hE := hE.2 c43 I44 q45 q46 q47
        refine s68 (inRd rfl) (fun _ => ?_) (fun c50 => absurd (by decide) c50)
        refine s79 ?_
        refine xG gb310.2.2.1 ?_
        refine s0 ?_
        refine s84 (by decide) ?_
        exact rqI_of hE
    · replace hE := hE.2 c31 I32 q33 q34 q35
      refine s67 (inRd rfl) (fun _ => ?_) (fun c51 => absurd (by decide) c51)
      refine xG gb310.2.2.1 ?_
      refine s0 ?_
      refine s84 (by decide) ?_
      exact rqI_of hE
  · replace hE := hE.2 c15 I16 q17 q18 q19
    refine s68 (inRd rfl) (fun _ => ?_) (fun c52 => absurd (by decide) c52)
    refine s0 ?_
    refine s84 (by decide) ?_
    exact rqI_of hE
set_option maxRecDepth 4000 in
theorem e311 {d L : Nat} {I : Nat → Nat → Int32} {R : Nat → Nat → Option Nat} {S : List (Nat × Nat)} {K : Int32 → mM → Prop} {A : aS} (hR : RM I A) {x1 : Int} (hE : (0 ≤ x1 ∧ x1 < 360) ∧ (WfC A ∧ ((((140 = 137 ∨ 140 = 138) ∧ (A 91 65).toNat ≤ x1.toNat) ∨ ((140 = 139 ∨ 140 = 140) ∧ 40 * (A 91 65).toNat ≤ x1.toNat)) ∧ (∀ (I4 : mI) (A5 : aS), (I4 = (u2 I 140 x1.toNat (oI 1))) → (A5 = (u2 A 140 x1.toNat 1)) → (RM I4 A5) → ∃ (T9 : Nat → Int) (N10 p11 : Nat), Tx I4 T9 N10 p11 ∧ (((tkOk T9 N10 (bl T9 N10 p11) (Int64.ofInt 31650977444884084)) → ∀ (I14 : mI), (Fr [] [(91, 69)] I4 I14) → (RM I14 A5) → (Tx I14 T9 N10 (lt T9 N10 (bl T9 N10 p11))) → ∀ (I21 : mI) (A22 : aS), (I21 = (u2 I14 141 x1.toNat (oI 1))) → (A22 = (u2 A5 141 x1.toNat 1)) → (RM I21 A22) → ∃ (T26 : Nat → Int) (N27 p28 : Nat), Tx I21 T26 N27 p28 ∧ (((tkOk T26 N27 (bl T26 N27 p28) (Int64.ofInt 24947)) → ∀ (I31 : mI), (Fr [] [(91, 69)] I21 I31) → (RM I31 A22) → (Tx I31 T26 N27 (lt T26 N27 (bl T26 N27 p28))) → ∃ (T37 : Nat → Int) (N38 p39 : Nat), Tx I31 T37 N38 p39 ∧ (((nmOk T37 N38 (bl T37 N38 p39) 0 2) → ∀ (I42 : mI), (Fr [] [(91, 69), (91, 90)] I31 I42) → (RM I42 A22) → (Tx I42 T37 N38 (dg T37 N38 (bl T37 N38 p39))) → (ld I42 91 90 = nv T37 N38 (bl T37 N38 p39)) → K (oI 1) (bd L (u2 I42 142 x1.toNat (oI (ld I42 91 90))) R S)) ∧ (¬ (nmOk T37 N38 (bl T37 N38 p39) 0 2) → ∀ (I42 : mI), (Fr [] [(91, 69), (91, 90)] I31 I42) → (RM I42 A22) → (Tx I42 T37 N38 (bl T37 N38 p39)) → K (oI 0) (bd L I42 R S)))) ∧ (¬ (tkOk T26 N27 (bl T26 N27 p28) (Int64.ofInt 24947)) → ∀ (I31 : mI), (Fr [] [(91, 69)] I21 I31) → (RM I31 A22) → (Tx I31 T26 N27 (bl T26 N27 p28)) → K (oI 0) (bd L I31 R S)))) ∧ (¬ (tkOk T9 N10 (bl T9 N10 p11) (Int64.ofInt 31650977444884084)) → ∀ (I14 : mI), (Fr [] [(91, 69)] I4 I14) → (RM I14 A5) → (Tx I14 T9 N10 (bl T9 N10 p11)) → ∃ (T51 : Nat → Int) (N52 p53 : Nat), Tx I14 T51 N52 p53 ∧ (((tkOk T51 N52 (bl T51 N52 p53) (Int64.ofInt 1818326117)) → ∀ (I56 : mI), (Fr [] [(91, 69)] I14 I56) → (RM I56 A5) → (Tx I56 T51 N52 (lt T51 N52 (bl T51 N52 p53))) → ∀ (I63 : mI) (A64 : aS), (I63 = (u2 I56 141 x1.toNat (oI 2))) → (A64 = (u2 A5 141 x1.toNat 2)) → (RM I63 A64) → ∃ (T68 : Nat → Int) (N69 p70 : Nat), Tx I63 T68 N69 p70 ∧ (((tkOk T68 N69 (bl T68 N69 p70) (Int64.ofInt 24947)) → ∀ (I73 : mI), (Fr [] [(91, 69)] I63 I73) → (RM I73 A64) → (Tx I73 T68 N69 (lt T68 N69 (bl T68 N69 p70))) → ∃ (T79 : Nat → Int) (N80 p81 : Nat), Tx I73 T79 N80 p81 ∧ (((nmOk T79 N80 (bl T79 N80 p81) 0 2) → ∀ (I84 : mI), (Fr [] [(91, 69), (91, 90)] I73 I84) → (RM I84 A64) → (Tx I84 T79 N80 (dg T79 N80 (bl T79 N80 p81))) → (ld I84 91 90 = nv T79 N80 (bl T79 N80 p81)) → K (oI 1) (bd L (u2 I84 142 x1.toNat (oI (ld I84 91 90))) R S)) ∧ (¬ (nmOk T79 N80 (bl T79 N80 p81) 0 2) → ∀ (I84 : mI), (Fr [] [(91, 69), (91, 90)] I73 I84) → (RM I84 A64) → (Tx I84 T79 N80 (bl T79 N80 p81)) → K (oI 0) (bd L I84 R S)))) ∧ (¬ (tkOk T68 N69 (bl T68 N69 p70) (Int64.ofInt 24947)) → ∀ (I73 : mI), (Fr [] [(91, 69)] I63 I73) → (RM I73 A64) → (Tx I73 T68 N69 (bl T68 N69 p70)) → K (oI 0) (bd L I73 R S)))) ∧ (¬ (tkOk T51 N52 (bl T51 N52 p53) (Int64.ofInt 1818326117)) → ∀ (I56 : mI), (Fr [] [(91, 69)] I14 I56) → (RM I56 A5) → (Tx I56 T51 N52 (bl T51 N52 p53)) → ∃ (T93 : Nat → Int) (N94 p95 : Nat), Tx I56 T93 N94 p95 ∧ (((tkOk T93 N94 (bl T93 N94 p95) (Int64.ofInt 2003792491)) → ∀ (I98 : mI), (Fr [] [(91, 69)] I56 I98) → (RM I98 A5) → (Tx I98 T93 N94 (lt T93 N94 (bl T93 N94 p95))) → ∀ (I105 : mI) (A106 : aS), (I105 = (u2 I98 141 x1.toNat (oI 3))) → (A106 = (u2 A5 141 x1.toNat 3)) → (RM I105 A106) → ∃ (T110 : Nat → Int) (N111 p112 : Nat), Tx I105 T110 N111 p112 ∧ (((tkOk T110 N111 (bl T110 N111 p112) (Int64.ofInt 24947)) → ∀ (I115 : mI), (Fr [] [(91, 69)] I105 I115) → (RM I115 A106) → (Tx I115 T110 N111 (lt T110 N111 (bl T110 N111 p112))) → ∃ (T121 : Nat → Int) (N122 p123 : Nat), Tx I115 T121 N122 p123 ∧ (((nmOk T121 N122 (bl T121 N122 p123) 0 2) → ∀ (I126 : mI), (Fr [] [(91, 69), (91, 90)] I115 I126) → (RM I126 A106) → (Tx I126 T121 N122 (dg T121 N122 (bl T121 N122 p123))) → (ld I126 91 90 = nv T121 N122 (bl T121 N122 p123)) → K (oI 1) (bd L (u2 I126 142 x1.toNat (oI (ld I126 91 90))) R S)) ∧ (¬ (nmOk T121 N122 (bl T121 N122 p123) 0 2) → ∀ (I126 : mI), (Fr [] [(91, 69), (91, 90)] I115 I126) → (RM I126 A106) → (Tx I126 T121 N122 (bl T121 N122 p123)) → K (oI 0) (bd L I126 R S)))) ∧ (¬ (tkOk T110 N111 (bl T110 N111 p112) (Int64.ofInt 24947)) → ∀ (I115 : mI), (Fr [] [(91, 69)] I105 I115) → (RM I115 A106) → (Tx I115 T110 N111 (bl T110 N111 p112)) → K (oI 0) (bd L I115 R S)))) ∧ (¬ (tkOk T93 N94 (bl T93 N94 p95) (Int64.ofInt 2003792491)) → ∀ (I98 : mI), (Fr [] [(91, 69)] I56 I98) → (RM I98 A5) → (Tx I98 T93 N94 (bl T93 N94 p95)) → K (oI 0) (bd L (u2 I98 141 x1.toNat (oI (-1))) R S))))))))))) : CallI (d + 2) 311 [.ref 91, .int (oI x1)] (bd L I R S) K := by
  refine cI_of (ls := [.ref 91, .int (oI x1)]) rfl ?_
  refine xG gb311.1 ?_
  refine s6 (p := 91) rfl ?_
  refine s51 sh91 (by decide) (by decide) rf91_75 ?_
  refine s4 (x := x1) rfl ?_
  refine s0 ?_
  obtain ⟨g1, hE⟩ := hE
  refine s44 sh140 (by decide) g1 rfl ?_
  refine s6 (p := 91) rfl ?_
  refine s51 sh91 (by decide) (by decide) rf91_76 ?_
  refine s4 (x := x1) rfl ?_
  refine s6 (p := 91) rfl ?_
  refine s2 ?_
  obtain ⟨g2, hE⟩ := hE
  obtain ⟨g3, hE⟩ := hE
  obtain ⟨I4, q6⟩ : ∃ i : mI, i = (u2 I 140 x1.toNat (oI 1)) := ⟨_, rfl⟩
  obtain ⟨A5, q7⟩ : ∃ i : aS, i = (u2 A 140 x1.toNat 1) := ⟨_, rfl⟩
  have q8 : RM I4 A5 := by rw [q6, q7]; exact (RM.setS hR g2 140 x1.toNat (inRd rfl) g3)
  replace hE := hE I4 A5 q6 q7 q8
  obtain ⟨T9, N10, p11, k12, hE⟩ := hE
  refine sI rc304 rfl (Nat.le_of_ble_eq_true rfl) ?_
  rw [← q6]
  refine k304 q8 k12 (fun c13 I14 q15 q16 q17 => ?_) (fun c13 I14 q15 q16 q17 => ?_)
  · replace hE := hE.1 c13 I14 q15 q16 q17
    refine s67 (inRd rfl) (fun c19 => absurd c19 (by decide)) (fun _ => ?_)
    refine s0 ?_
    refine s60 ?_
    refine xG gb311.2.2.2.2.1 ?_
    refine s44 sh141 (by decide) g1 rfl ?_
    refine s6 (p := 91) rfl ?_
    refine s51 sh91 (by decide) (by decide) rf91_76 ?_
    refine s4 (x := x1) rfl ?_
    refine s40 (v := 1) sh141 g1 rfl (v2_eq) ?_
    refine s0 ?_
    refine s61 (inRd rfl) (inRd rfl) (fun c20 => absurd c20 (by decide)) (fun _ => ?_)
    refine s6 (p := 91) rfl ?_
    refine s2 ?_
    obtain ⟨I21, q23⟩ : ∃ i : mI, i = (u2 I14 141 x1.toNat (oI 1)) := ⟨_, rfl⟩
    obtain ⟨A22, q24⟩ : ∃ i : aS, i = (u2 A5 141 x1.toNat 1) := ⟨_, rfl⟩
    have q25 : RM I21 A22 := by rw [q23, q24]; exact (RM.set q16 141 x1.toNat (inRd rfl) rfl)
    replace hE := hE I21 A22 q23 q24 q25
    obtain ⟨T26, N27, p28, k29, hE⟩ := hE
    refine sI rc304 rfl (Nat.le_of_ble_eq_true rfl) ?_
    rw [← q23]
    refine k304 q25 k29 (fun c30 I31 q32 q33 q34 => ?_) (fun c30 I31 q32 q33 q34 => ?_)
    · replace hE := hE.1 c30 I31 q32 q33 q34
      refine s67 (inRd rfl) (fun c36 => absurd c36 (by decide)) (fun _ => ?_)
      refine s6 (p := 91) rfl ?_
      refine s0 ?_
      refine s0 ?_
      obtain ⟨T37, N38, p39, k40, hE⟩ := hE
      refine sI rc305 rfl (Nat.le_of_ble_eq_true rfl) ?_
      refine k305 q33 k40 (inRd rfl) (inRd rfl) (fun c41 I42 q43 q44 q45 q46 => ?_) (fun c41 I42 q43 q44 q45 => ?_)
      · replace hE := hE.1 c41 I42 q43 q44 q45 q46
        refine s68 (inRd rfl) (fun c47 => absurd c47 (by decide)) (fun _ => ?_)
        refine xG gb311.2.2.2.2.2.2 ?_
        refine s6 (p := 91) rfl ?_
        refine s51 sh91 (by decide) (by decide) rf91_77 ?_
        refine s4 (x := x1) rfl ?_
        refine s6 (p := 91) rfl ?_
        refine s50 (v := ld I42 91 90) sh91 (by decide) (by decide) (oI_ld _ _ _) ?_
        refine s44 sh142 (by decide) g1 rfl ?_
        refine s0 ?_
        refine s84 (by decide) ?_
        exact rqI_of hE
      · replace hE := hE.2 c41 I42 q43 q44 q45
        refine s68 (inRd rfl) (fun _ => ?_) (fun c48 => absurd (by decide) c48)
        refine s79 ?_
        refine xG gb311.2.2.2.2.2.1 ?_
        refine s0 ?_
        refine s84 (by decide) ?_
        exact rqI_of hE
    · replace hE := hE.2 c30 I31 q32 q33 q34
      refine s67 (inRd rfl) (fun _ => ?_) (fun c49 => absurd (by decide) c49)
      refine xG gb311.2.2.2.2.2.1 ?_
      refine s0 ?_
      refine s84 (by decide) ?_
      exact rqI_of hE
  · replace hE := hE.2 c13 I14 q15 q16 q17
    refine s67 (inRd rfl) (fun _ => ?_) (fun c50 => absurd (by decide) c50)
    refine xG gb311.2.1 ?_
    refine s6 (p := 91) rfl ?_
    refine s2 ?_
    obtain ⟨T51, N52, p53, k54, hE⟩ := hE
    refine sI rc304 rfl (Nat.le_of_ble_eq_true rfl) ?_
    refine k304 q16 k54 (fun c55 I56 q57 q58 q59 => ?_) (fun c55 I56 q57 q58 q59 => ?_)
    · replace hE := hE.1 c55 I56 q57 q58 q59
      refine s67 (inRd rfl) (fun c61 => absurd c61 (by decide)) (fun _ => ?_)
      refine s0 ?_
      refine s60 ?_
      refine xG gb311.2.2.2.2.1 ?_
      refine s44 sh141 (by decide) g1 rfl ?_
      refine s6 (p := 91) rfl ?_
      refine s51 sh91 (by decide) (by decide) rf91_76 ?_
      refine s4 (x := x1) rfl ?_
      refine s40 (v := 2) sh141 g1 rfl (v2_eq) ?_
      refine s0 ?_
      refine s61 (inRd rfl) (inRd rfl) (fun c62 => absurd c62 (by decide)) (fun _ => ?_)
      refine s6 (p := 91) rfl ?_
      refine s2 ?_
      obtain ⟨I63, q65⟩ : ∃ i : mI, i = (u2 I56 141 x1.toNat (oI 2)) := ⟨_, rfl⟩
      obtain ⟨A64, q66⟩ : ∃ i : aS, i = (u2 A5 141 x1.toNat 2) := ⟨_, rfl⟩
      have q67 : RM I63 A64 := by rw [q65, q66]; exact (RM.set q58 141 x1.toNat (inRd rfl) rfl)
      replace hE := hE I63 A64 q65 q66 q67
      obtain ⟨T68, N69, p70, k71, hE⟩ := hE
      refine sI rc304 rfl (Nat.le_of_ble_eq_true rfl) ?_
      rw [← q65]
      refine k304 q67 k71 (fun c72 I73 q74 q75 q76 => ?_) (fun c72 I73 q74 q75 q76 => ?_)
      · replace hE := hE.1 c72 I73 q74 q75 q76
        refine s67 (inRd rfl) (fun c78 => absurd c78 (by decide)) (fun _ => ?_)
        refine s6 (p := 91) rfl ?_
        refine s0 ?_
        refine s0 ?_
        obtain ⟨T79, N80, p81, k82, hE⟩ := hE
        refine sI rc305 rfl (Nat.le_of_ble_eq_true rfl) ?_
        refine k305 q75 k82 (inRd rfl) (inRd rfl) (fun c83 I84 q85 q86 q87 q88 => ?_) (fun c83 I84 q85 q86 q87 => ?_)
        · replace hE := hE.1 c83 I84 q85 q86 q87 q88
          refine s68 (inRd rfl) (fun c89 => absurd c89 (by decide)) (fun _ => ?_)
          refine xG gb311.2.2.2.2.2.2 ?_
          refine s6 (p := 91) rfl ?_
          refine s51 sh91 (by decide) (by decide) rf91_77 ?_
          refine s4 (x := x1) rfl ?_
          refine s6 (p := 91) rfl ?_
          refine s50 (v := ld I84 91 90) sh91 (by decide) (by decide) (oI_ld _ _ _) ?_
          refine s44 sh142 (by decide) g1 rfl ?_
          refine s0 ?_
          refine s84 (by decide) ?_
          exact rqI_of hE
        · replace hE := hE.2 c83 I84 q85 q86 q87
          refine s68 (inRd rfl) (fun _ => ?_) (fun c90 => absurd (by decide) c90)
          refine s79 ?_
          refine xG gb311.2.2.2.2.2.1 ?_
          refine s0 ?_
          refine s84 (by decide) ?_
          exact rqI_of hE
      · replace hE := hE.2 c72 I73 q74 q75 q76
        refine s67 (inRd rfl) (fun _ => ?_) (fun c91 => absurd (by decide) c91)
        refine xG gb311.2.2.2.2.2.1 ?_
        refine s0 ?_
        refine s84 (by decide) ?_
        exact rqI_of hE
    · replace hE := hE.2 c55 I56 q57 q58 q59
      refine s67 (inRd rfl) (fun _ => ?_) (fun c92 => absurd (by decide) c92)
      refine xG gb311.2.2.1 ?_
      refine s6 (p := 91) rfl ?_
      refine s2 ?_
      obtain ⟨T93, N94, p95, k96, hE⟩ := hE
      refine sI rc304 rfl (Nat.le_of_ble_eq_true rfl) ?_
      refine k304 q58 k96 (fun c97 I98 q99 q100 q101 => ?_) (fun c97 I98 q99 q100 q101 => ?_)
      · replace hE := hE.1 c97 I98 q99 q100 q101
        refine s67 (inRd rfl) (fun c103 => absurd c103 (by decide)) (fun _ => ?_)
        refine s0 ?_
        refine s60 ?_
        refine xG gb311.2.2.2.2.1 ?_
        refine s44 sh141 (by decide) g1 rfl ?_
        refine s6 (p := 91) rfl ?_
        refine s51 sh91 (by decide) (by decide) rf91_76 ?_
        refine s4 (x := x1) rfl ?_
        refine s40 (v := 3) sh141 g1 rfl (v2_eq) ?_
        refine s0 ?_
        refine s61 (inRd rfl) (inRd rfl) (fun c104 => absurd c104 (by decide)) (fun _ => ?_)
        refine s6 (p := 91) rfl ?_
        refine s2 ?_
        obtain ⟨I105, q107⟩ : ∃ i : mI, i = (u2 I98 141 x1.toNat (oI 3)) := ⟨_, rfl⟩
        obtain ⟨A106, q108⟩ : ∃ i : aS, i = (u2 A5 141 x1.toNat 3) := ⟨_, rfl⟩
        have q109 : RM I105 A106 := by rw [q107, q108]; exact (RM.set q100 141 x1.toNat (inRd rfl) rfl)
        replace hE := hE I105 A106 q107 q108 q109
        obtain ⟨T110, N111, p112, k113, hE⟩ := hE
        refine sI rc304 rfl (Nat.le_of_ble_eq_true rfl) ?_
        rw [← q107]
        refine k304 q109 k113 (fun c114 I115 q116 q117 q118 => ?_) (fun c114 I115 q116 q117 q118 => ?_)
        · replace hE := hE.1 c114 I115 q116 q117 q118
          refine s67 (inRd rfl) (fun c120 => absurd c120 (by decide)) (fun _ => ?_)
          refine s6 (p := 91) rfl ?_
          refine s0 ?_
          refine s0 ?_
          obtain ⟨T121, N122, p123, k124, hE⟩ := hE
          refine sI rc305 rfl (Nat.le_of_ble_eq_true rfl) ?_
          refine k305 q117 k124 (inRd rfl) (inRd rfl) (fun c125 I126 q127 q128 q129 q130 => ?_) (fun c125 I126 q127 q128 q129 => ?_)
          · replace hE := hE.1 c125 I126 q127 q128 q129 q130
            refine s68 (inRd rfl) (fun c131 => absurd c131 (by decide)) (fun _ => ?_)
            refine xG gb311.2.2.2.2.2.2 ?_
            refine s6 (p := 91) rfl ?_
            refine s51 sh91 (by decide) (by decide) rf91_77 ?_
            refine s4 (x := x1) rfl ?_
            refine s6 (p := 91) rfl ?_
            refine s50 (v := ld I126 91 90) sh91 (by decide) (by decide) (oI_ld _ _ _) ?_
            refine s44 sh142 (by decide) g1 rfl ?_
            refine s0 ?_
            refine s84 (by decide) ?_
            exact rqI_of hE
          · replace hE := hE.2 c125 I126 q127 q128 q129
            refine s68 (inRd rfl) (fun _ => ?_) (fun c132 => absurd (by decide) c132)
            refine s79 ?_
            refine xG gb311.2.2.2.2.2.1 ?_
            refine s0 ?_
            refine s84 (by decide) ?_
            exact rqI_of hE
        · replace hE := hE.2 c114 I115 q116 q117 q118
          refine s67 (inRd rfl) (fun _ => ?_) (fun c133 => absurd (by decide) c133)
          refine xG gb311.2.2.2.2.2.1 ?_
          refine s0 ?_
          refine s84 (by decide) ?_
          exact rqI_of hE
      · replace hE := hE.2 c97 I98 q99 q100 q101
        refine s67 (inRd rfl) (fun _ => ?_) (fun c134 => absurd (by decide) c134)
        refine xG gb311.2.2.2.1 ?_
        refine s0 ?_
        refine s79 ?_
        refine xG gb311.2.2.2.2.1 ?_
        refine s44 sh141 (by decide) g1 rfl ?_
        refine s6 (p := 91) rfl ?_
        refine s51 sh91 (by decide) (by decide) rf91_76 ?_
        refine s4 (x := x1) rfl ?_
        refine s40 (v := (-1)) sh141 g1 rfl (v2_eq) ?_
        refine s0 ?_
        refine s61 (inRd rfl) (inRd rfl) (fun _ => ?_) (fun c135 => absurd (by decide) c135)
        refine xG gb311.2.2.2.2.2.1 ?_
        refine s0 ?_
        refine s84 (by decide) ?_
        exact rqI_of hE
set_option maxRecDepth 4000 in
theorem e312 {d L : Nat} {I : Nat → Nat → Int32} {R : Nat → Nat → Option Nat} {S : List (Nat × Nat)} {K : Int32 → mM → Prop} {A : aS} (hR : RM I A) {x1 : Int} (hE : (0 ≤ x1 ∧ x1 < 360) ∧ (WfC A ∧ ((((140 = 137 ∨ 140 = 138) ∧ (A 91 65).toNat ≤ x1.toNat) ∨ ((140 = 139 ∨ 140 = 140) ∧ 40 * (A 91 65).toNat ≤ x1.toNat)) ∧ (∀ (I4 : mI) (A5 : aS), (I4 = (u2 I 140 x1.toNat (oI 6))) → (A5 = (u2 A 140 x1.toNat 6)) → (RM I4 A5) → ∃ (T9 : Nat → Int) (N10 p11 : Nat), Tx I4 T9 N10 p11 ∧ (((nmOk T9 N10 (bl T9 N10 p11) 0 9999) → ∀ (I14 : mI), (Fr [] [(91, 69), (91, 90)] I4 I14) → (RM I14 A5) → (Tx I14 T9 N10 (dg T9 N10 (bl T9 N10 p11))) → (ld I14 91 90 = nv T9 N10 (bl T9 N10 p11)) → ∀ (I21 : mI) (A22 : aS), (I21 = (u2 I14 141 x1.toNat (oI (ld I14 91 90)))) → (A22 = (u2 A5 141 x1.toNat (ld I14 91 90))) → (RM I21 A22) → ∃ (T26 : Nat → Int) (N27 p28 : Nat), Tx I21 T26 N27 p28 ∧ (((tkOk T26 N27 (bl T26 N27 p28) (Int64.ofInt 7366002)) → ∀ (I31 : mI), (Fr [] [(91, 69)] I21 I31) → (RM I31 A22) → (Tx I31 T26 N27 (lt T26 N27 (bl T26 N27 p28))) → ∃ (T37 : Nat → Int) (N38 p39 : Nat), Tx I31 T37 N38 p39 ∧ (((tkOk T37 N38 (bl T37 N38 p39) (Int64.ofInt 1751474532)) → ∀ (I42 : mI), (Fr [] [(91, 69)] I31 I42) → (RM I42 A22) → (Tx I42 T37 N38 (lt T37 N38 (bl T37 N38 p39))) → K (oI 1) (bd L (u2 I42 142 x1.toNat (oI (-2))) R S)) ∧ (¬ (tkOk T37 N38 (bl T37 N38 p39) (Int64.ofInt 1751474532)) → ∀ (I42 : mI), (Fr [] [(91, 69)] I31 I42) → (RM I42 A22) → (Tx I42 T37 N38 (bl T37 N38 p39)) → ∃ (T50 : Nat → Int) (N51 p52 : Nat), Tx I42 T50 N51 p52 ∧ (((tkOk T50 N51 (bl T50 N51 p52) (Int64.ofInt 426953501796)) → ∀ (I55 : mI), (Fr [] [(91, 69)] I42 I55) → (RM I55 A22) → (Tx I55 T50 N51 (lt T50 N51 (bl T50 N51 p52))) → K (oI 1) (bd L (u2 I55 142 x1.toNat (oI (-3))) R S)) ∧ (¬ (tkOk T50 N51 (bl T50 N51 p52) (Int64.ofInt 426953501796)) → ∀ (I55 : mI), (Fr [] [(91, 69)] I42 I55) → (RM I55 A22) → (Tx I55 T50 N51 (bl T50 N51 p52)) → ∀ (I64 : mI) (A65 : aS), (I64 = (u2 I55 142 x1.toNat (oI (-1)))) → (A65 = (u2 A22 142 x1.toNat (-1))) → (RM I64 A65) → ∃ (T69 : Nat → Int) (N70 p71 : Nat), Tx I64 T69 N70 p71 ∧ (((tkOk T69 N70 (bl T69 N70 p71) (Int64.ofInt 1885434739)) → ∀ (I74 : mI), (Fr [] [(91, 69)] I64 I74) → (RM I74 A65) → (Tx I74 T69 N70 (lt T69 N70 (bl T69 N70 p71))) → ∃ (T80 : Nat → Int) (N81 p82 : Nat), Tx I74 T80 N81 p82 ∧ (((nmOk T80 N81 (bl T80 N81 p82) 0 5) → ∀ (I85 : mI), (Fr [] [(91, 69), (91, 90)] I74 I85) → (RM I85 A65) → (Tx I85 T80 N81 (dg T80 N81 (bl T80 N81 p82))) → (ld I85 91 90 = nv T80 N81 (bl T80 N81 p82)) → K (oI 1) (bd L (u2 I85 142 x1.toNat (oI (ld I85 91 90))) R S)) ∧ (¬ (nmOk T80 N81 (bl T80 N81 p82) 0 5) → ∀ (I85 : mI), (Fr [] [(91, 69), (91, 90)] I74 I85) → (RM I85 A65) → (Tx I85 T80 N81 (bl T80 N81 p82)) → K (oI 0) (bd L I85 R S)))) ∧ (¬ (tkOk T69 N70 (bl T69 N70 p71) (Int64.ofInt 1885434739)) → ∀ (I74 : mI), (Fr [] [(91, 69)] I64 I74) → (RM I74 A65) → (Tx I74 T69 N70 (bl T69 N70 p71)) → K (oI 0) (bd L I74 R S)))))))) ∧ (¬ (tkOk T26 N27 (bl T26 N27 p28) (Int64.ofInt 7366002)) → ∀ (I31 : mI), (Fr [] [(91, 69)] I21 I31) → (RM I31 A22) → (Tx I31 T26 N27 (bl T26 N27 p28)) → K (oI 0) (bd L I31 R S)))) ∧ (¬ (nmOk T9 N10 (bl T9 N10 p11) 0 9999) → ∀ (I14 : mI), (Fr [] [(91, 69), (91, 90)] I4 I14) → (RM I14 A5) → (Tx I14 T9 N10 (bl T9 N10 p11)) → K (oI 0) (bd L I14 R S))))))) : CallI (d + 4) 312 [.ref 91, .int (oI x1)] (bd L I R S) K := by
  refine cI_of (ls := [.ref 91, .int (oI x1)]) rfl ?_
  refine xG gb312.1 ?_
  refine s6 (p := 91) rfl ?_
  refine s4 (x := x1) rfl ?_
  refine s0 ?_
  refine sI rc308 rfl (Nat.le_of_ble_eq_true rfl) ?_
  refine cI_of (ls := [.ref 91, .int (oI x1), .int (oI 6)]) rfl ?_
  refine xG gb308.1 ?_
  refine s6 (p := 91) rfl ?_
  refine s51 sh91 (by decide) (by decide) rf91_75 ?_
  refine s4 (x := x1) rfl ?_
  refine s4 (x := 6) rfl ?_
  obtain ⟨g1, hE⟩ := hE
  refine s44 sh140 (by decide) g1 rfl ?_
  refine s6 (p := 91) rfl ?_
  refine sI rc309 rfl (Nat.le_of_ble_eq_true rfl) ?_
  refine cI_of (ls := [.ref 91]) rfl ?_
  refine xG gb309 ?_
  refine s6 (p := 91) rfl ?_
  refine s0 ?_
  refine s0 ?_
  obtain ⟨g2, hE⟩ := hE
  obtain ⟨g3, hE⟩ := hE
  obtain ⟨I4, q6⟩ : ∃ i : mI, i = (u2 I 140 x1.toNat (oI 6)) := ⟨_, rfl⟩
  obtain ⟨A5, q7⟩ : ∃ i : aS, i = (u2 A 140 x1.toNat 6) := ⟨_, rfl⟩
  have q8 : RM I4 A5 := by rw [q6, q7]; exact (RM.setS hR g2 140 x1.toNat (inRd rfl) g3)
  replace hE := hE I4 A5 q6 q7 q8
  obtain ⟨T9, N10, p11, k12, hE⟩ := hE
  refine sI rc305 rfl (Nat.le_of_ble_eq_true rfl) ?_
  rw [← q6]
  refine k305 q8 k12 (inRd rfl) (inRd rfl) (fun c13 I14 q15 q16 q17 q18 => ?_) (fun c13 I14 q15 q16 q17 => ?_)
  · replace hE := hE.1 c13 I14 q15 q16 q17 q18
    refine s84 (by decide) ?_
    refine rqI_of ?_
    refine s68 (inRd rfl) (fun c19 => absurd c19 (by decide)) (fun _ => ?_)
    refine xG gb308.2 ?_
    refine s6 (p := 91) rfl ?_
    refine s51 sh91 (by decide) (by decide) rf91_76 ?_
    refine s4 (x := x1) rfl ?_
    refine s6 (p := 91) rfl ?_
    refine s50 (v := ld I14 91 90) sh91 (by decide) (by decide) (oI_ld _ _ _) ?_
    refine s44 sh141 (by decide) g1 rfl ?_
    refine s0 ?_
    refine s84 (by decide) ?_
    refine rqI_of ?_
    refine s67 (inRd rfl) (fun c20 => absurd c20 (by decide)) (fun _ => ?_)
    refine s6 (p := 91) rfl ?_
    refine s2 ?_
    obtain ⟨I21, q23⟩ : ∃ i : mI, i = (u2 I14 141 x1.toNat (oI (ld I14 91 90))) := ⟨_, rfl⟩
    obtain ⟨A22, q24⟩ : ∃ i : aS, i = (u2 A5 141 x1.toNat (ld I14 91 90)) := ⟨_, rfl⟩
    have q25 : RM I21 A22 := by rw [q23, q24]; exact (RM.set q16 141 x1.toNat (ld_inR _ _ _) rfl)
    replace hE := hE I21 A22 q23 q24 q25
    obtain ⟨T26, N27, p28, k29, hE⟩ := hE
    refine sI rc304 rfl (Nat.le_of_ble_eq_true rfl) ?_
    rw [← q23]
    refine k304 q25 k29 (fun c30 I31 q32 q33 q34 => ?_) (fun c30 I31 q32 q33 q34 => ?_)
    · replace hE := hE.1 c30 I31 q32 q33 q34
      refine s68 (inRd rfl) (fun c36 => absurd c36 (by decide)) (fun _ => ?_)
      refine xG gb312.2.2.1 ?_
      refine s6 (p := 91) rfl ?_
      refine s51 sh91 (by decide) (by decide) rf91_77 ?_
      refine s4 (x := x1) rfl ?_
      refine s6 (p := 91) rfl ?_
      refine s2 ?_
      obtain ⟨T37, N38, p39, k40, hE⟩ := hE
      refine sI rc304 rfl (Nat.le_of_ble_eq_true rfl) ?_
      refine k304 q33 k40 (fun c41 I42 q43 q44 q45 => ?_) (fun c41 I42 q43 q44 q45 => ?_)
      · replace hE := hE.1 c41 I42 q43 q44 q45
        refine s67 (inRd rfl) (fun c47 => absurd c47 (by decide)) (fun _ => ?_)
        refine s0 ?_
        refine s60 ?_
        refine xG gb312.2.2.2.2.2.1 ?_
        refine s44 sh142 (by decide) g1 rfl ?_
        refine s6 (p := 91) rfl ?_
        refine s51 sh91 (by decide) (by decide) rf91_77 ?_
        refine s4 (x := x1) rfl ?_
        refine s40 (v := (-2)) sh142 g1 rfl (v2_eq) ?_
        refine s0 ?_
        refine s61 (inRd rfl) (inRd rfl) (fun c48 => absurd c48 (by decide)) (fun _ => ?_)
        refine s0 ?_
        refine s84 (by decide) ?_
        exact rqI_of hE
      · replace hE := hE.2 c41 I42 q43 q44 q45
        refine s67 (inRd rfl) (fun _ => ?_) (fun c49 => absurd (by decide) c49)
        refine xG gb312.2.2.2.1 ?_
        refine s6 (p := 91) rfl ?_
        refine s2 ?_
        obtain ⟨T50, N51, p52, k53, hE⟩ := hE
        refine sI rc304 rfl (Nat.le_of_ble_eq_true rfl) ?_
        refine k304 q44 k53 (fun c54 I55 q56 q57 q58 => ?_) (fun c54 I55 q56 q57 q58 => ?_)
        · replace hE := hE.1 c54 I55 q56 q57 q58
          refine s67 (inRd rfl) (fun c60 => absurd c60 (by decide)) (fun _ => ?_)
          refine s0 ?_
          refine s60 ?_
          refine xG gb312.2.2.2.2.2.1 ?_
          refine s44 sh142 (by decide) g1 rfl ?_
          refine s6 (p := 91) rfl ?_
          refine s51 sh91 (by decide) (by decide) rf91_77 ?_
          refine s4 (x := x1) rfl ?_
          refine s40 (v := (-3)) sh142 g1 rfl (v2_eq) ?_
          refine s0 ?_
          refine s61 (inRd rfl) (inRd rfl) (fun c61 => absurd c61 (by decide)) (fun _ => ?_)
          refine s0 ?_
          refine s84 (by decide) ?_
          exact rqI_of hE
        · replace hE := hE.2 c54 I55 q56 q57 q58
          refine s67 (inRd rfl) (fun _ => ?_) (fun c62 => absurd (by decide) c62)
          refine xG gb312.2.2.2.2.1 ?_
          refine s0 ?_
          refine s79 ?_
          refine xG gb312.2.2.2.2.2.1 ?_
          refine s44 sh142 (by decide) g1 rfl ?_
          refine s6 (p := 91) rfl ?_
          refine s51 sh91 (by decide) (by decide) rf91_77 ?_
          refine s4 (x := x1) rfl ?_
          refine s40 (v := (-1)) sh142 g1 rfl (v2_eq) ?_
          refine s0 ?_
          refine s61 (inRd rfl) (inRd rfl) (fun _ => ?_) (fun c63 => absurd (by decide) c63)
          refine xG gb312.2.2.2.2.2.2.1 ?_
          refine s6 (p := 91) rfl ?_
          refine s2 ?_
          obtain ⟨I64, q66⟩ : ∃ i : mI, i = (u2 I55 142 x1.toNat (oI (-1))) := ⟨_, rfl⟩
          obtain ⟨A65, q67⟩ : ∃ i : aS, i = (u2 A22 142 x1.toNat (-1)) := ⟨_, rfl⟩
          have q68 : RM I64 A65 := by rw [q66, q67]; exact (RM.set q57 142 x1.toNat (inRd rfl) rfl)
          replace hE := hE I64 A65 q66 q67 q68
          obtain ⟨T69, N70, p71, k72, hE⟩ := hE
          refine sI rc304 rfl (Nat.le_of_ble_eq_true rfl) ?_
          rw [← q66]
          refine k304 q68 k72 (fun c73 I74 q75 q76 q77 => ?_) (fun c73 I74 q75 q76 q77 => ?_)
          · replace hE := hE.1 c73 I74 q75 q76 q77
            refine s67 (inRd rfl) (fun c79 => absurd c79 (by decide)) (fun _ => ?_)
            refine s6 (p := 91) rfl ?_
            refine s0 ?_
            refine s0 ?_
            obtain ⟨T80, N81, p82, k83, hE⟩ := hE
            refine sI rc305 rfl (Nat.le_of_ble_eq_true rfl) ?_
            refine k305 q76 k83 (inRd rfl) (inRd rfl) (fun c84 I85 q86 q87 q88 q89 => ?_) (fun c84 I85 q86 q87 q88 => ?_)
            · replace hE := hE.1 c84 I85 q86 q87 q88 q89
              refine s68 (inRd rfl) (fun c90 => absurd c90 (by decide)) (fun _ => ?_)
              refine xG gb312.2.2.2.2.2.2.2.2 ?_
              refine s6 (p := 91) rfl ?_
              refine s51 sh91 (by decide) (by decide) rf91_77 ?_
              refine s4 (x := x1) rfl ?_
              refine s6 (p := 91) rfl ?_
              refine s50 (v := ld I85 91 90) sh91 (by decide) (by decide) (oI_ld _ _ _) ?_
              refine s44 sh142 (by decide) g1 rfl ?_
              refine s0 ?_
              refine s84 (by decide) ?_
              exact rqI_of hE
            · replace hE := hE.2 c84 I85 q86 q87 q88
              refine s68 (inRd rfl) (fun _ => ?_) (fun c91 => absurd (by decide) c91)
              refine s79 ?_
              refine xG gb312.2.2.2.2.2.2.2.1 ?_
              refine s0 ?_
              refine s84 (by decide) ?_
              exact rqI_of hE
          · replace hE := hE.2 c73 I74 q75 q76 q77
            refine s67 (inRd rfl) (fun _ => ?_) (fun c92 => absurd (by decide) c92)
            refine xG gb312.2.2.2.2.2.2.2.1 ?_
            refine s0 ?_
            refine s84 (by decide) ?_
            exact rqI_of hE
    · replace hE := hE.2 c30 I31 q32 q33 q34
      refine s68 (inRd rfl) (fun _ => ?_) (fun c93 => absurd (by decide) c93)
      refine s79 ?_
      refine xG gb312.2.1 ?_
      refine s0 ?_
      refine s84 (by decide) ?_
      exact rqI_of hE
  · replace hE := hE.2 c13 I14 q15 q16 q17
    refine s84 (by decide) ?_
    refine rqI_of ?_
    refine s68 (inRd rfl) (fun _ => ?_) (fun c94 => absurd (by decide) c94)
    refine s0 ?_
    refine s84 (by decide) ?_
    refine rqI_of ?_
    refine s67 (inRd rfl) (fun _ => ?_) (fun c95 => absurd (by decide) c95)
    refine xG gb312.2.1 ?_
    refine s0 ?_
    refine s84 (by decide) ?_
    exact rqI_of hE
