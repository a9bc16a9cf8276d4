set_option maxRecDepth 4000 in
theorem e11 {d L : Nat} {I : Nat → Nat → Int32} {R : Nat → Nat → Option Nat} {S : List (Nat × Nat)} {K : Int32 → mM → Prop} {A : aS} (hC : RC R S I A) {x1 : Int} {x2 : Int} {x3 : Int} (hE : inR x1 ∧ (inR (A 91 2 - 1) ∧ (((0 ≤ x1 ∧ x1 ≤ A 91 2 - 1) → inR x2 ∧ (((0 ≤ x2 ∧ x2 ≤ 799) → inR x3 ∧ (((0 ≤ x3 ∧ x3 ≤ 799) → ((x3 < x2) → K (oI (-1)) (bd L I R S)) ∧ (¬ (x3 < x2) → ((A 110 1 < ld I 1 1) → CallI (d + 2) 91 [.ref 31, .int (oI 1), .int (oI x1), .int (oI (A 91 0)), .int (oI x2), .int (oI x3), .int (oI 0)] (bd L (u2 I 8 9 (oI (ld I 8 9 + 1))) R S) (fun y s => ∃ (y17 : Int) (I16 : mI), y = oI y17 ∧ s = bd L I16 R S ∧ inR y17 ∧ (K (oI y17) (bd L I16 R S)))) ∧ (¬ (A 110 1 < ld I 1 1) → K (oI (-1)) (bd L I R S)))) ∧ (¬ (0 ≤ x3 ∧ x3 ≤ 799) → K (oI (-1)) (bd L I R S)))) ∧ (¬ (0 ≤ x2 ∧ x2 ≤ 799) → K (oI (-1)) (bd L I R S)))) ∧ (¬ (0 ≤ x1 ∧ x1 ≤ A 91 2 - 1) → K (oI (-1)) (bd L I R S))))) : CallI (d + 3) 11 [.ref 8, .int (oI x1), .int (oI x2), .int (oI x3)] (bd L I R S) K := by
  refine cI_of (ls := [.ref 8, .int (oI x1), .int (oI x2), .int (oI x3)]) rfl ?_
  refine xG gb11.1 ?_
  refine s6 (p := 8) rfl ?_
  refine s4 (x := x1) rfl ?_
  refine sI rc9 rfl (Nat.le_of_ble_eq_true rfl) ?_
  refine cI_of (ls := [.ref 8, .int (oI x1)]) rfl ?_
  refine xG gb9 ?_
  refine s4 (x := x1) rfl ?_
  refine s0 ?_
  refine s6 (p := 8) rfl ?_
  refine s51 sh8 (by decide) (by decide) rf8_0 ?_
  refine s50 (v := A 91 2) sh9 (by decide) (by decide) (rdC hC.1 rfl) ?_
  refine s0 ?_
  refine s17 ?_
  obtain ⟨g1, hE⟩ := hE
  obtain ⟨g2, hE⟩ := hE
  refine sI rc3 rfl (Nat.le_of_ble_eq_true rfl) ?_
  refine k3 g1 (inRd rfl) g2 (fun c3 => ?_) (fun c3 => ?_)
  · replace hE := hE.1 c3
    refine s84 (by decide) ?_
    refine rqI_of ?_
    refine s67 (inRd rfl) (fun c4 => absurd c4 (by decide)) (fun _ => ?_)
    refine s4 (x := x2) rfl ?_
    refine s4 (x := x3) rfl ?_
    refine sI rc12 rfl (Nat.le_of_ble_eq_true rfl) ?_
    refine cI_of (ls := [.int (oI x2), .int (oI x3)]) rfl ?_
    refine xG gb12.1 ?_
    refine s4 (x := x2) rfl ?_
    refine sI rc13 rfl (Nat.le_of_ble_eq_true rfl) ?_
    refine cI_of (ls := [.int (oI x2)]) rfl ?_
    refine xG gb13 ?_
    refine s4 (x := x2) rfl ?_
    refine s0 ?_
    refine s0 ?_
    obtain ⟨g5, hE⟩ := hE
    refine sI rc3 rfl (Nat.le_of_ble_eq_true rfl) ?_
    refine k3 g5 (inRd rfl) (inRd rfl) (fun c6 => ?_) (fun c6 => ?_)
    · replace hE := hE.1 c6
      refine s84 (by decide) ?_
      refine rqI_of ?_
      refine s67 (inRd rfl) (fun c7 => absurd c7 (by decide)) (fun _ => ?_)
      refine s4 (x := x3) rfl ?_
      refine sI rc13 rfl (Nat.le_of_ble_eq_true rfl) ?_
      refine cI_of (ls := [.int (oI x3)]) rfl ?_
      refine xG gb13 ?_
      refine s4 (x := x3) rfl ?_
      refine s0 ?_
      refine s0 ?_
      obtain ⟨g8, hE⟩ := hE
      refine sI rc3 rfl (Nat.le_of_ble_eq_true rfl) ?_
      refine k3 g8 (inRd rfl) (inRd rfl) (fun c9 => ?_) (fun c9 => ?_)
      · replace hE := hE.1 c9
        refine s84 (by decide) ?_
        refine rqI_of ?_
        refine s67 (inRd rfl) (fun c10 => absurd c10 (by decide)) (fun _ => ?_)
        refine s4 (x := x2) rfl ?_
        refine s4 (x := x3) rfl ?_
        refine s65 g5 g8 (fun c11 => ?_) (fun c11 => ?_)
        · replace hE := hE.1 c11
          refine xG gb12.2.1 ?_
          refine s0 ?_
          refine s79 ?_
          refine xG gb12.2.2 ?_
          refine s84 (by decide) ?_
          refine rqI_of ?_
          refine s67 (inRd rfl) (fun _ => ?_) (fun c12 => absurd (by decide) c12)
          refine xG gb11.2.1 ?_
          refine s0 ?_
          refine s80 ?_
          exact rqI_of hE
        · replace hE := hE.2 c11
          refine s0 ?_
          refine s60 ?_
          refine xG gb12.2.2 ?_
          refine s84 (by decide) ?_
          refine rqI_of ?_
          refine s67 (inRd rfl) (fun c13 => absurd c13 (by decide)) (fun _ => ?_)
          refine s6 (p := 8) rfl ?_
          refine s51 sh8 (by decide) (by decide) rf8_2 ?_
          refine s0 ?_
          refine sI rc86 rfl (Nat.le_of_ble_eq_true rfl) ?_
          refine cI_of (ls := [.ref 31, .int (oI 1)]) rfl ?_
          refine xG gb86.1 ?_
          refine s6 (p := 31) rfl ?_
          refine s51 sh31 (by decide) (by decide) rf31_10 ?_
          refine s4 (x := 1) rfl ?_
          refine s40 (v := A 110 1) sh42 (⟨by decide, by decide⟩ : (0 : Int) ≤ 1 ∧ (1 : Int) < 7) rfl (rdC hC.1 rfl) ?_
          refine s55 ?_
          refine s4 (x := 1) rfl ?_
          refine s40 (v := ld I 1 1) sh1 (⟨by decide, by decide⟩ : (0 : Int) ≤ 1 ∧ (1 : Int) < 7) rfl (oI_ld _ _ _) ?_
          refine s63 (inC hC.1 (a := 42) (k := 1) rfl) (ld_inR _ _ _) (fun c14 => ?_) (fun c14 => ?_)
          · replace hE := hE.1 c14
            refine xG gb86.2.1 ?_
            refine s0 ?_
            refine s79 ?_
            refine xG gb86.2.2 ?_
            refine s84 (by decide) ?_
            refine rqI_of ?_
            refine s67 (inRd rfl) (fun _ => ?_) (fun c15 => absurd (by decide) c15)
            refine xG gb11.2.2 ?_
            refine s6 (p := 8) rfl ?_
            refine s13r ?_
            refine s50 (v := ld I 8 9) sh8 (by decide) (by decide) (oI_ld _ _ _) ?_
            refine s0 ?_
            refine s16 ?_
            refine s52 sh8 (by decide) (by decide) ?_
            refine s6 (p := 8) rfl ?_
            refine s51 sh8 (by decide) (by decide) rf8_2 ?_
            refine s0 ?_
            refine s4 (x := x1) rfl ?_
            refine s6 (p := 8) rfl ?_
            refine s50 (v := A 91 0) sh8 (by decide) (by decide) ((v2_nk (by decide)).trans (rdC hC.1 rfl)) ?_
            refine s4 (x := x2) rfl ?_
            refine s4 (x := x3) rfl ?_
            refine s0 ?_
            refine sI rc91 rfl (Nat.le_of_ble_eq_true rfl) ?_
            refine CallI.mono hE ?_
            rintro _ _ ⟨y17, I16, rfl, rfl, gy17, hE⟩
            refine s80 ?_
            exact rqI_of hE
          · replace hE := hE.2 c14
            refine s0 ?_
            refine s60 ?_
            refine xG gb86.2.2 ?_
            refine s84 (by decide) ?_
            refine rqI_of ?_
            refine s67 (inRd rfl) (fun c18 => absurd c18 (by decide)) (fun _ => ?_)
            refine s79 ?_
            refine xG gb11.2.1 ?_
            refine s0 ?_
            refine s80 ?_
            exact rqI_of hE
      · replace hE := hE.2 c9
        refine s84 (by decide) ?_
        refine rqI_of ?_
        refine s67 (inRd rfl) (fun _ => ?_) (fun c19 => absurd (by decide) c19)
        refine xG gb12.2.1 ?_
        refine s0 ?_
        refine s79 ?_
        refine xG gb12.2.2 ?_
        refine s84 (by decide) ?_
        refine rqI_of ?_
        refine s67 (inRd rfl) (fun _ => ?_) (fun c20 => absurd (by decide) c20)
        refine xG gb11.2.1 ?_
        refine s0 ?_
        refine s80 ?_
        exact rqI_of hE
    · replace hE := hE.2 c6
      refine s84 (by decide) ?_
      refine rqI_of ?_
      refine s67 (inRd rfl) (fun _ => ?_) (fun c21 => absurd (by decide) c21)
      refine xG gb12.2.1 ?_
      refine s0 ?_
      refine s79 ?_
      refine xG gb12.2.2 ?_
      refine s84 (by decide) ?_
      refine rqI_of ?_
      refine s67 (inRd rfl) (fun _ => ?_) (fun c22 => absurd (by decide) c22)
      refine xG gb11.2.1 ?_
      refine s0 ?_
      refine s80 ?_
      exact rqI_of hE
  · replace hE := hE.2 c3
    refine s84 (by decide) ?_
    refine rqI_of ?_
    refine s67 (inRd rfl) (fun _ => ?_) (fun c23 => absurd (by decide) c23)
    refine xG gb11.2.1 ?_
    refine s0 ?_
    refine s80 ?_
    exact rqI_of hE
set_option maxRecDepth 4000 in
theorem q11 {d L n : Nat} {I : mI} {R : mR} {S : mSh} {A : aS} {K : Int32 → mM → Prop} {x1 : Int} {x2 : Int} {x3 : Int} (hX : CX R S I A n) (hW : WF A) (hn : n ≤ 100000) (rx1 : inR x1) (rx2 : inR x2) (rx3 : inR x3) (hK : ∀ I1, FK I I1 → CX R S I1 (o229 A x1 x2 x3).2 (n + 1) → K (oI (o229 A x1 x2 x3).1) (bd L I1 R S)) : CallI (d + 3) 11 [.ref 8, .int (oI x1), .int (oI x2), .int (oI x3)] (bd L I R S) K := by
  have hC := hX.1
  have hA := hW.1
  have w0 := hA.1
  have w1 := hA.2.1
  have w2 := hA.2.2.1
  have w3 : 0 ≤ A 91 3 ∧ A 91 3 ≤ 850 := hA.2.2.2.1
  have ty := today_year hA
  have c9 := hX.2.2.2.1
  have hB := hW.2.2.2.2.2.1
  obtain ⟨bs, b0, b1, b2, b3, b4, b5, b6⟩ := hB
  have hB := hW.2.2.2.2.2.1
  have m0 : ld I 1 0 = 150 := hC.2.2.2.2.2.1.1 0 (by decide)
  have m1 : ld I 1 1 = 30 := hC.2.2.2.2.2.1.1 1 (by decide)
  have m2 : ld I 1 2 = 300 := hC.2.2.2.2.2.1.1 2 (by decide)
  have m3 : ld I 1 3 = 60 := hC.2.2.2.2.2.1.1 3 (by decide)
  have m4 : ld I 1 4 = 30 := hC.2.2.2.2.2.1.1 4 (by decide)
  have m5 : ld I 1 5 = 30 := hC.2.2.2.2.2.1.1 5 (by decide)
  have m6 : ld I 1 6 = 250 := hC.2.2.2.2.2.1.1 6 (by decide)
  refine e11 (d := d) hC ?_
  refine ⟨by first | assumption | exact inRd rfl | omega | exact ⟨by omega, by omega⟩ | (unfold WnOk; omega) | exact hW.1 | exact hW.2.1 | exact hW.2.2.1 | exact hW.2.2.2.1 | exact hW.2.2.2.2.1 | exact hW.2.2.2.2.2.2.2.2.2.1 | exact hW.2.2.2.2.2.2.2.2.2.2.1 | (constructor <;> omega), ?_⟩
  refine ⟨by first | assumption | exact inRd rfl | omega | exact ⟨by omega, by omega⟩ | (unfold WnOk; omega) | exact hW.1 | exact hW.2.1 | exact hW.2.2.1 | exact hW.2.2.2.1 | exact hW.2.2.2.2.1 | exact hW.2.2.2.2.2.2.2.2.2.1 | exact hW.2.2.2.2.2.2.2.2.2.2.1 | (constructor <;> omega), ?_⟩
  refine ⟨fun c1 => ?_, fun c1 => ?_⟩
  · refine ⟨by first | assumption | exact inRd rfl | omega | exact ⟨by omega, by omega⟩ | (unfold WnOk; omega) | exact hW.1 | exact hW.2.1 | exact hW.2.2.1 | exact hW.2.2.2.1 | exact hW.2.2.2.2.1 | exact hW.2.2.2.2.2.2.2.2.2.1 | exact hW.2.2.2.2.2.2.2.2.2.2.1 | (constructor <;> omega), ?_⟩
    refine ⟨fun c2 => ?_, fun c2 => ?_⟩
    · refine ⟨by first | assumption | exact inRd rfl | omega | exact ⟨by omega, by omega⟩ | (unfold WnOk; omega) | exact hW.1 | exact hW.2.1 | exact hW.2.2.1 | exact hW.2.2.2.1 | exact hW.2.2.2.2.1 | exact hW.2.2.2.2.2.2.2.2.2.1 | exact hW.2.2.2.2.2.2.2.2.2.2.1 | (constructor <;> omega), ?_⟩
      refine ⟨fun c3 => ?_, fun c3 => ?_⟩
      · refine ⟨fun c4 => ?_, fun c4 => ?_⟩
        · have ho : o229 A x1 x2 x3 = ((-1), A) := by
            unfold o229
            repeat' split
            all_goals first | with_reducible rfl | (exfalso; omega) | exact Prod.ext (by dsimp only; omega) rfl | exact Prod.ext (by dsimp only) rfl
          rw [ho] at hK
          exact hK I (FK.refl I) (hX.up (Nat.le_succ n))
        · refine ⟨fun c5 => ?_, fun c5 => ?_⟩
          · have hC0 : RC R S (u2 I 8 9 (oI (ld I 8 9 + 1))) A := RC.scr hC rfl
            refine k91 (d := d + 1) (kd := 1) (w := x1) (a := x2) (b := x3) (c := 0) (fr := x2) (vl := 0) hC0 hA hB (by omega) (by omega) (by omega) ((if_neg (by omega)).symm) (by rw [if_neg (by omega), if_neg (by omega)]) ⟨by omega, by omega⟩ ⟨by omega, by omega⟩ ⟨by omega, by omega⟩ (fun I1 q1 r1 => ?_)
            refine ⟨A 91 3, I1, rfl, rfl, ⟨by omega, by omega⟩, ?_⟩
            have ho : o229 A x1 x2 x3 = (A 91 3, ntS A (1) (x1) (x2) (x3) (0) (1 : Int).toNat) := by
              unfold o229
              rw [if_pos (by omega), if_pos (by omega), if_pos (by omega), if_neg (by omega), if_neg (by omega)]
              try unfold ntS
              exact Prod.ext (by dsimp only; omega) (by rfl)
            rw [ho] at hK
            have h8 : ld (u2 I 8 9 (oI (ld I 8 9 + 1))) 8 9 = ld I 8 9 + 1 := by
              rw [ld_w ⟨by omega, by omega⟩, if_pos rfl]
            exact hK I1 ((FK.wr (FK.refl I) (by decide)).trans (Fr.FK q1 rfl)) (CX.bump hX r1 (fun a k ha => ((q1.mm rfl).1 a k ha).trans ((MmK.wr (MmK.refl _) rfl) a k ha)) ((q1.ld rfl).trans h8))
          · have ho : o229 A x1 x2 x3 = ((-1), A) := by
              unfold o229
              repeat' split
              all_goals first | with_reducible rfl | (exfalso; omega) | exact Prod.ext (by dsimp only; omega) rfl | exact Prod.ext (by dsimp only) rfl
            rw [ho] at hK
            exact hK I (FK.refl I) (hX.up (Nat.le_succ n))
      · have ho : o229 A x1 x2 x3 = ((-1), A) := by
          unfold o229
          repeat' split
          all_goals first | with_reducible rfl | (exfalso; omega) | exact Prod.ext (by dsimp only; omega) rfl | exact Prod.ext (by dsimp only) rfl
        rw [ho] at hK
        exact hK I (FK.refl I) (hX.up (Nat.le_succ n))
    · have ho : o229 A x1 x2 x3 = ((-1), A) := by
        unfold o229
        repeat' split
        all_goals first | with_reducible rfl | (exfalso; omega) | exact Prod.ext (by dsimp only; omega) rfl | exact Prod.ext (by dsimp only) rfl
      rw [ho] at hK
      exact hK I (FK.refl I) (hX.up (Nat.le_succ n))
  · have ho : o229 A x1 x2 x3 = ((-1), A) := by
      unfold o229
      repeat' split
      all_goals first | with_reducible rfl | (exfalso; omega) | exact Prod.ext (by dsimp only; omega) rfl | exact Prod.ext (by dsimp only) rfl
    rw [ho] at hK
    exact hK I (FK.refl I) (hX.up (Nat.le_succ n))
set_option maxRecDepth 4000 in
theorem e14 {d L : Nat} {I : Nat → Nat → Int32} {R : Nat → Nat → Option Nat} {S : List (Nat × Nat)} {K : Int32 → mM → Prop} {A : aS} (hC : RC R S I A) {x1 : Int} {x2 : Int} {x3 : Int} {x4 : Int} {x5 : Int} {x6 : Int} (hE : inR x1 ∧ (inR (A 91 1 - 1) ∧ (((0 ≤ x1 ∧ x1 ≤ A 91 1 - 1) → inR x2 ∧ (((0 ≤ x2 ∧ x2 ≤ A 91 0) → inR x4 ∧ (((0 ≤ x4 ∧ x4 ≤ A 91 0) → inR x3 ∧ (((0 ≤ x3 ∧ x3 ≤ 1) → inR x5 ∧ (((0 ≤ x5 ∧ x5 ≤ 1) → inR x6 ∧ (((0 ≤ x6 ∧ x6 ≤ 3) → inR ((x2 * 2) + x3) ∧ (inR ((x4 * 2) + x5) ∧ ((((x4 * 2) + x5 < (x2 * 2) + x3) → K (oI (-1)) (bd L I R S)) ∧ (¬ ((x4 * 2) + x5 < (x2 * 2) + x3) → ((A 110 2 < ld I 1 2) → CallI (d + 1) 91 [.ref 31, .int (oI 2), .int (oI x1), .int (oI (A 91 0)), .int (oI ((x2 * 2) + x3)), .int (oI ((x4 * 2) + x5)), .int (oI x6)] (bd L (u2 I 8 9 (oI (ld I 8 9 + 1))) R S) (fun y s => ∃ (y27 : Int) (I26 : mI), y = oI y27 ∧ s = bd L I26 R S ∧ inR y27 ∧ (K (oI y27) (bd L I26 R S)))) ∧ (¬ (A 110 2 < ld I 1 2) → K (oI (-1)) (bd L I R S)))))) ∧ (¬ (0 ≤ x6 ∧ x6 ≤ 3) → K (oI (-1)) (bd L I R S)))) ∧ (¬ (0 ≤ x5 ∧ x5 ≤ 1) → K (oI (-1)) (bd L I R S)))) ∧ (¬ (0 ≤ x3 ∧ x3 ≤ 1) → K (oI (-1)) (bd L I R S)))) ∧ (¬ (0 ≤ x4 ∧ x4 ≤ A 91 0) → K (oI (-1)) (bd L I R S)))) ∧ (¬ (0 ≤ x2 ∧ x2 ≤ A 91 0) → K (oI (-1)) (bd L I R S)))) ∧ (¬ (0 ≤ x1 ∧ x1 ≤ A 91 1 - 1) → K (oI (-1)) (bd L I R S))))) : CallI (d + 2) 14 [.ref 8, .int (oI x1), .int (oI x2), .int (oI x3), .int (oI x4), .int (oI x5), .int (oI x6)] (bd L I R S) K := by
  refine cI_of (ls := [.ref 8, .int (oI x1), .int (oI x2), .int (oI x3), .int (oI x4), .int (oI x5), .int (oI x6), mUn]) rfl ?_
  refine xG gb14.1 ?_
  refine s6 (p := 8) rfl ?_
  refine s4 (x := x1) rfl ?_
  refine sI rc7 rfl (Nat.le_of_ble_eq_true rfl) ?_
  refine cI_of (ls := [.ref 8, .int (oI x1)]) rfl ?_
  refine xG gb7 ?_
  refine s4 (x := x1) rfl ?_
  refine s0 ?_
  refine s6 (p := 8) rfl ?_
  refine s51 sh8 (by decide) (by decide) rf8_1 ?_
  refine s50 (v := A 91 1) sh21 (by decide) (by decide) (rdC hC.1 rfl) ?_
  refine s0 ?_
  refine s17 ?_
  obtain ⟨g1, hE⟩ := hE
  obtain ⟨g2, hE⟩ := hE
  refine sI rc3 rfl (Nat.le_of_ble_eq_true rfl) ?_
  refine k3 g1 (inRd rfl) g2 (fun c3 => ?_) (fun c3 => ?_)
  · replace hE := hE.1 c3
    refine s84 (by decide) ?_
    refine rqI_of ?_
    refine s67 (inRd rfl) (fun c4 => absurd c4 (by decide)) (fun _ => ?_)
    refine s4 (x := x2) rfl ?_
    refine s0 ?_
    refine s6 (p := 8) rfl ?_
    refine s50 (v := A 91 0) sh8 (by decide) (by decide) (rdC hC.1 rfl) ?_
    obtain ⟨g5, hE⟩ := hE
    refine sI rc3 rfl (Nat.le_of_ble_eq_true rfl) ?_
    refine k3 g5 (inRd rfl) (inC hC.1 (a := 8) (k := 8) rfl) (fun c6 => ?_) (fun c6 => ?_)
    · replace hE := hE.1 c6
      refine s67 (inRd rfl) (fun c7 => absurd c7 (by decide)) (fun _ => ?_)
      refine s4 (x := x4) rfl ?_
      refine s0 ?_
      refine s6 (p := 8) rfl ?_
      refine s50 (v := A 91 0) sh8 (by decide) (by decide) (rdC hC.1 rfl) ?_
      obtain ⟨g8, hE⟩ := hE
      refine sI rc3 rfl (Nat.le_of_ble_eq_true rfl) ?_
      refine k3 g8 (inRd rfl) (inC hC.1 (a := 8) (k := 8) rfl) (fun c9 => ?_) (fun c9 => ?_)
      · replace hE := hE.1 c9
        refine s67 (inRd rfl) (fun c10 => absurd c10 (by decide)) (fun _ => ?_)
        refine s4 (x := x3) rfl ?_
        refine s0 ?_
        refine s0 ?_
        obtain ⟨g11, hE⟩ := hE
        refine sI rc3 rfl (Nat.le_of_ble_eq_true rfl) ?_
        refine k3 g11 (inRd rfl) (inRd rfl) (fun c12 => ?_) (fun c12 => ?_)
        · replace hE := hE.1 c12
          refine s67 (inRd rfl) (fun c13 => absurd c13 (by decide)) (fun _ => ?_)
          refine s4 (x := x5) rfl ?_
          refine s0 ?_
          refine s0 ?_
          obtain ⟨g14, hE⟩ := hE
          refine sI rc3 rfl (Nat.le_of_ble_eq_true rfl) ?_
          refine k3 g14 (inRd rfl) (inRd rfl) (fun c15 => ?_) (fun c15 => ?_)
          · replace hE := hE.1 c15
            refine s67 (inRd rfl) (fun c16 => absurd c16 (by decide)) (fun _ => ?_)
            refine s4 (x := x6) rfl ?_
            refine s0 ?_
            refine s0 ?_
            obtain ⟨g17, hE⟩ := hE
            refine sI rc3 rfl (Nat.le_of_ble_eq_true rfl) ?_
            refine k3 g17 (inRd rfl) (inRd rfl) (fun c18 => ?_) (fun c18 => ?_)
            · replace hE := hE.1 c18
              refine s67 (inRd rfl) (fun c19 => absurd c19 (by decide)) (fun _ => ?_)
              refine s0 ?_
              refine s60 ?_
              refine xG gb14.2.2.1 ?_
              refine s7 (ls' := [.ref 8, .int (oI x1), .int (oI x2), .int (oI x3), .int (oI x4), .int (oI x5), .int (oI x6), .int (oI 1)]) (Nat.le_of_ble_eq_true rfl) rfl ?_
              refine s4 (x := 1) rfl ?_
              refine s67 (inRd rfl) (fun c20 => absurd c20 (by decide)) (fun _ => ?_)
              refine s4 (x := x2) rfl ?_
              refine s0 ?_
              refine s18 ?_
              refine s4 (x := x3) rfl ?_
              refine s16 ?_
              refine s4 (x := x4) rfl ?_
              refine s0 ?_
              refine s18 ?_
              refine s4 (x := x5) rfl ?_
              refine s16 ?_
              obtain ⟨g21, hE⟩ := hE
              obtain ⟨g22, hE⟩ := hE
              refine s65 g21 g22 (fun c23 => ?_) (fun c23 => ?_)
              · replace hE := hE.1 c23
                refine xG gb14.2.2.2.1 ?_
                refine s0 ?_
                refine s80 ?_
                exact rqI_of hE
              · replace hE := hE.2 c23
                refine s6 (p := 8) rfl ?_
                refine s51 sh8 (by decide) (by decide) rf8_2 ?_
                refine s0 ?_
                refine sI rc86 rfl (Nat.le_of_ble_eq_true rfl) ?_
                refine cI_of (ls := [.ref 31, .int (oI 2)]) rfl ?_
                refine xG gb86.1 ?_
                refine s6 (p := 31) rfl ?_
                refine s51 sh31 (by decide) (by decide) rf31_10 ?_
                refine s4 (x := 2) rfl ?_
                refine s40 (v := A 110 2) sh42 (⟨by decide, by decide⟩ : (0 : Int) ≤ 2 ∧ (2 : Int) < 7) rfl (rdC hC.1 rfl) ?_
                refine s55 ?_
                refine s4 (x := 2) rfl ?_
                refine s40 (v := ld I 1 2) sh1 (⟨by decide, by decide⟩ : (0 : Int) ≤ 2 ∧ (2 : Int) < 7) rfl (oI_ld _ _ _) ?_
                refine s63 (inC hC.1 (a := 42) (k := 2) rfl) (ld_inR _ _ _) (fun c24 => ?_) (fun c24 => ?_)
                · replace hE := hE.1 c24
                  refine xG gb86.2.1 ?_
                  refine s0 ?_
                  refine s79 ?_
                  refine xG gb86.2.2 ?_
                  refine s84 (by decide) ?_
                  refine rqI_of ?_
                  refine s67 (inRd rfl) (fun _ => ?_) (fun c25 => absurd (by decide) c25)
                  refine xG gb14.2.2.2.2 ?_
                  refine s6 (p := 8) rfl ?_
                  refine s13r ?_
                  refine s50 (v := ld I 8 9) sh8 (by decide) (by decide) (oI_ld _ _ _) ?_
                  refine s0 ?_
                  refine s16 ?_
                  refine s52 sh8 (by decide) (by decide) ?_
                  refine s6 (p := 8) rfl ?_
                  refine s51 sh8 (by decide) (by decide) rf8_2 ?_
                  refine s0 ?_
                  refine s4 (x := x1) rfl ?_
                  refine s6 (p := 8) rfl ?_
                  refine s50 (v := A 91 0) sh8 (by decide) (by decide) ((v2_nk (by decide)).trans (rdC hC.1 rfl)) ?_
                  refine s4 (x := x2) rfl ?_
                  refine s0 ?_
                  refine s18 ?_
                  refine s4 (x := x3) rfl ?_
                  refine s16 ?_
                  refine s4 (x := x4) rfl ?_
                  refine s0 ?_
                  refine s18 ?_
                  refine s4 (x := x5) rfl ?_
                  refine s16 ?_
                  refine s4 (x := x6) rfl ?_
                  refine sI rc91 rfl (Nat.le_of_ble_eq_true rfl) ?_
                  refine CallI.mono hE ?_
                  rintro _ _ ⟨y27, I26, rfl, rfl, gy27, hE⟩
                  refine s80 ?_
                  exact rqI_of hE
                · replace hE := hE.2 c24
                  refine s0 ?_
                  refine s60 ?_
                  refine xG gb86.2.2 ?_
                  refine s84 (by decide) ?_
                  refine rqI_of ?_
                  refine s67 (inRd rfl) (fun c28 => absurd c28 (by decide)) (fun _ => ?_)
                  refine s79 ?_
                  refine xG gb14.2.2.2.1 ?_
                  refine s0 ?_
                  refine s80 ?_
                  exact rqI_of hE
            · replace hE := hE.2 c18
              refine s67 (inRd rfl) (fun _ => ?_) (fun c29 => absurd (by decide) c29)
              refine xG gb14.2.1 ?_
              refine s0 ?_
              refine s79 ?_
              refine xG gb14.2.2.1 ?_
              refine s7 (ls' := [.ref 8, .int (oI x1), .int (oI x2), .int (oI x3), .int (oI x4), .int (oI x5), .int (oI x6), .int (oI 0)]) (Nat.le_of_ble_eq_true rfl) rfl ?_
              refine s4 (x := 0) rfl ?_
              refine s67 (inRd rfl) (fun _ => ?_) (fun c30 => absurd (by decide) c30)
              refine xG gb14.2.2.2.1 ?_
              refine s0 ?_
              refine s80 ?_
              exact rqI_of hE
          · replace hE := hE.2 c15
            refine s67 (inRd rfl) (fun _ => ?_) (fun c31 => absurd (by decide) c31)
            refine xG gb14.2.1 ?_
            refine s0 ?_
            refine s79 ?_
            refine xG gb14.2.2.1 ?_
            refine s7 (ls' := [.ref 8, .int (oI x1), .int (oI x2), .int (oI x3), .int (oI x4), .int (oI x5), .int (oI x6), .int (oI 0)]) (Nat.le_of_ble_eq_true rfl) rfl ?_
            refine s4 (x := 0) rfl ?_
            refine s67 (inRd rfl) (fun _ => ?_) (fun c32 => absurd (by decide) c32)
            refine xG gb14.2.2.2.1 ?_
            refine s0 ?_
            refine s80 ?_
            exact rqI_of hE
        · replace hE := hE.2 c12
          refine s67 (inRd rfl) (fun _ => ?_) (fun c33 => absurd (by decide) c33)
          refine xG gb14.2.1 ?_
          refine s0 ?_
          refine s79 ?_
          refine xG gb14.2.2.1 ?_
          refine s7 (ls' := [.ref 8, .int (oI x1), .int (oI x2), .int (oI x3), .int (oI x4), .int (oI x5), .int (oI x6), .int (oI 0)]) (Nat.le_of_ble_eq_true rfl) rfl ?_
          refine s4 (x := 0) rfl ?_
          refine s67 (inRd rfl) (fun _ => ?_) (fun c34 => absurd (by decide) c34)
          refine xG gb14.2.2.2.1 ?_
          refine s0 ?_
          refine s80 ?_
          exact rqI_of hE
      · replace hE := hE.2 c9
        refine s67 (inRd rfl) (fun _ => ?_) (fun c35 => absurd (by decide) c35)
        refine xG gb14.2.1 ?_
        refine s0 ?_
        refine s79 ?_
        refine xG gb14.2.2.1 ?_
        refine s7 (ls' := [.ref 8, .int (oI x1), .int (oI x2), .int (oI x3), .int (oI x4), .int (oI x5), .int (oI x6), .int (oI 0)]) (Nat.le_of_ble_eq_true rfl) rfl ?_
        refine s4 (x := 0) rfl ?_
        refine s67 (inRd rfl) (fun _ => ?_) (fun c36 => absurd (by decide) c36)
        refine xG gb14.2.2.2.1 ?_
        refine s0 ?_
        refine s80 ?_
        exact rqI_of hE
    · replace hE := hE.2 c6
      refine s67 (inRd rfl) (fun _ => ?_) (fun c37 => absurd (by decide) c37)
      refine xG gb14.2.1 ?_
      refine s0 ?_
      refine s79 ?_
      refine xG gb14.2.2.1 ?_
      refine s7 (ls' := [.ref 8, .int (oI x1), .int (oI x2), .int (oI x3), .int (oI x4), .int (oI x5), .int (oI x6), .int (oI 0)]) (Nat.le_of_ble_eq_true rfl) rfl ?_
      refine s4 (x := 0) rfl ?_
      refine s67 (inRd rfl) (fun _ => ?_) (fun c38 => absurd (by decide) c38)
      refine xG gb14.2.2.2.1 ?_
      refine s0 ?_
      refine s80 ?_
      exact rqI_of hE
  · replace hE := hE.2 c3
    refine s84 (by decide) ?_
    refine rqI_of ?_
    refine s67 (inRd rfl) (fun _ => ?_) (fun c39 => absurd (by decide) c39)
    refine xG gb14.2.1 ?_
    refine s0 ?_
    refine s79 ?_
    refine xG gb14.2.2.1 ?_
    refine s7 (ls' := [.ref 8, .int (oI x1), .int (oI x2), .int (oI x3), .int (oI x4), .int (oI x5), .int (oI x6), .int (oI 0)]) (Nat.le_of_ble_eq_true rfl) rfl ?_
    refine s4 (x := 0) rfl ?_
    refine s67 (inRd rfl) (fun _ => ?_) (fun c40 => absurd (by decide) c40)
    refine xG gb14.2.2.2.1 ?_
    refine s0 ?_
    refine s80 ?_
    exact rqI_of hE
set_option maxRecDepth 4000 in
theorem q14 {d L n : Nat} {I : mI} {R : mR} {S : mSh} {A : aS} {K : Int32 → mM → Prop} {x1 : Int} {x2 : Int} {x3 : Int} {x4 : Int} {x5 : Int} {x6 : Int} (hX : CX R S I A n) (hW : WF A) (hn : n ≤ 100000) (rx1 : inR x1) (rx2 : inR x2) (rx3 : inR x3) (rx4 : inR x4) (rx5 : inR x5) (rx6 : inR x6) (hK : ∀ I1, FK I I1 → CX R S I1 (o231 A x1 x2 x3 x4 x5 x6).2 (n + 1) → K (oI (o231 A x1 x2 x3 x4 x5 x6).1) (bd L I1 R S)) : CallI (d + 2) 14 [.ref 8, .int (oI x1), .int (oI x2), .int (oI x3), .int (oI x4), .int (oI x5), .int (oI x6)] (bd L I R S) K := by
  have hC := hX.1
  have hA := hW.1
  have w0 := hA.1
  have w1 := hA.2.1
  have w2 := hA.2.2.1
  have w3 : 0 ≤ A 91 3 ∧ A 91 3 ≤ 850 := hA.2.2.2.1
  have ty := today_year hA
  have c9 := hX.2.2.2.1
  have hB := hW.2.2.2.2.2.1
  obtain ⟨bs, b0, b1, b2, b3, b4, b5, b6⟩ := hB
  have hB := hW.2.2.2.2.2.1
  have m0 : ld I 1 0 = 150 := hC.2.2.2.2.2.1.1 0 (by decide)
  have m1 : ld I 1 1 = 30 := hC.2.2.2.2.2.1.1 1 (by decide)
  have m2 : ld I 1 2 = 300 := hC.2.2.2.2.2.1.1 2 (by decide)
  have m3 : ld I 1 3 = 60 := hC.2.2.2.2.2.1.1 3 (by decide)
  have m4 : ld I 1 4 = 30 := hC.2.2.2.2.2.1.1 4 (by decide)
  have m5 : ld I 1 5 = 30 := hC.2.2.2.2.2.1.1 5 (by decide)
  have m6 : ld I 1 6 = 250 := hC.2.2.2.2.2.1.1 6 (by decide)
  refine e14 (d := d) hC ?_
  refine ⟨by first | assumption | exact inRd rfl | omega | exact ⟨by omega, by omega⟩ | (unfold WnOk; omega) | exact hW.1 | exact hW.2.1 | exact hW.2.2.1 | exact hW.2.2.2.1 | exact hW.2.2.2.2.1 | exact hW.2.2.2.2.2.2.2.2.2.1 | exact hW.2.2.2.2.2.2.2.2.2.2.1 | (constructor <;> omega), ?_⟩
  refine ⟨by first | assumption | exact inRd rfl | omega | exact ⟨by omega, by omega⟩ | (unfold WnOk; omega) | exact hW.1 | exact hW.2.1 | exact hW.2.2.1 | exact hW.2.2.2.1 | exact hW.2.2.2.2.1 | exact hW.2.2.2.2.2.2.2.2.2.1 | exact hW.2.2.2.2.2.2.2.2.2.2.1 | (constructor <;> omega), ?_⟩
  refine ⟨fun c1 => ?_, fun c1 => ?_⟩
  · refine ⟨by first | assumption | exact inRd rfl | omega | exact ⟨by omega, by omega⟩ | (unfold WnOk; omega) | exact hW.1 | exact hW.2.1 | exact hW.2.2.1 | exact hW.2.2.2.1 | exact hW.2.2.2.2.1 | exact hW.2.2.2.2.2.2.2.2.2.1 | exact hW.2.2.2.2.2.2.2.2.2.2.1 | (constructor <;> omega), ?_⟩
    refine ⟨fun c2 => ?_, fun c2 => ?_⟩
    · refine ⟨by first | assumption | exact inRd rfl | omega | exact ⟨by omega, by omega⟩ | (unfold WnOk; omega) | exact hW.1 | exact hW.2.1 | exact hW.2.2.1 | exact hW.2.2.2.1 | exact hW.2.2.2.2.1 | exact hW.2.2.2.2.2.2.2.2.2.1 | exact hW.2.2.2.2.2.2.2.2.2.2.1 | (constructor <;> omega), ?_⟩
      refine ⟨fun c3 => ?_, fun c3 => ?_⟩
      · refine ⟨by first | assumption | exact inRd rfl | omega | exact ⟨by omega, by omega⟩ | (unfold WnOk; omega) | exact hW.1 | exact hW.2.1 | exact hW.2.2.1 | exact hW.2.2.2.1 | exact hW.2.2.2.2.1 | exact hW.2.2.2.2.2.2.2.2.2.1 | exact hW.2.2.2.2.2.2.2.2.2.2.1 | (constructor <;> omega), ?_⟩
        refine ⟨fun c4 => ?_, fun c4 => ?_⟩
        · refine ⟨by first | assumption | exact inRd rfl | omega | exact ⟨by omega, by omega⟩ | (unfold WnOk; omega) | exact hW.1 | exact hW.2.1 | exact hW.2.2.1 | exact hW.2.2.2.1 | exact hW.2.2.2.2.1 | exact hW.2.2.2.2.2.2.2.2.2.1 | exact hW.2.2.2.2.2.2.2.2.2.2.1 | (constructor <;> omega), ?_⟩
          refine ⟨fun c5 => ?_, fun c5 => ?_⟩
          · refine ⟨by first | assumption | exact inRd rfl | omega | exact ⟨by omega, by omega⟩ | (unfold WnOk; omega) | exact hW.1 | exact hW.2.1 | exact hW.2.2.1 | exact hW.2.2.2.1 | exact hW.2.2.2.2.1 | exact hW.2.2.2.2.2.2.2.2.2.1 | exact hW.2.2.2.2.2.2.2.2.2.2.1 | (constructor <;> omega), ?_⟩
            refine ⟨fun c6 => ?_, fun c6 => ?_⟩
            · refine ⟨by first | assumption | exact inRd rfl | omega | exact ⟨by omega, by omega⟩ | (unfold WnOk; omega) | exact hW.1 | exact hW.2.1 | exact hW.2.2.1 | exact hW.2.2.2.1 | exact hW.2.2.2.2.1 | exact hW.2.2.2.2.2.2.2.2.2.1 | exact hW.2.2.2.2.2.2.2.2.2.2.1 | (constructor <;> omega), ?_⟩
              refine ⟨by first | assumption | exact inRd rfl | omega | exact ⟨by omega, by omega⟩ | (unfold WnOk; omega) | exact hW.1 | exact hW.2.1 | exact hW.2.2.1 | exact hW.2.2.2.1 | exact hW.2.2.2.2.1 | exact hW.2.2.2.2.2.2.2.2.2.1 | exact hW.2.2.2.2.2.2.2.2.2.2.1 | (constructor <;> omega), ?_⟩
              refine ⟨fun c7 => ?_, fun c7 => ?_⟩
              · have ho : o231 A x1 x2 x3 x4 x5 x6 = ((-1), A) := by
                  unfold o231
                  repeat' split
                  all_goals first | with_reducible rfl | (exfalso; omega) | exact Prod.ext (by dsimp only; omega) rfl | exact Prod.ext (by dsimp only) rfl
                rw [ho] at hK
                exact hK I (FK.refl I) (hX.up (Nat.le_succ n))
              · refine ⟨fun c8 => ?_, fun c8 => ?_⟩
                · rw [show x2 * 2 + x3 = 2 * x2 + x3 by omega, show x4 * 2 + x5 = 2 * x4 + x5 by omega]
                  have hC0 : RC R S (u2 I 8 9 (oI (ld I 8 9 + 1))) A := RC.scr hC rfl
                  refine k91 (d := d) (kd := 2) (w := x1) (a := 2 * x2 + x3) (b := 2 * x4 + x5) (c := x6) (fr := 2 * x2 + x3) (vl := x6) hC0 hA hB (by omega) (by omega) (by omega) ((if_neg (by omega)).symm) (by rw [if_neg (by omega), if_pos (by omega)]) ⟨by omega, by omega⟩ ⟨by omega, by omega⟩ ⟨by omega, by omega⟩ (fun I1 q1 r1 => ?_)
                  refine ⟨A 91 3, I1, rfl, rfl, ⟨by omega, by omega⟩, ?_⟩
                  have ho : o231 A x1 x2 x3 x4 x5 x6 = (A 91 3, ntS A (2) (x1) (2 * x2 + x3) (2 * x4 + x5) (x6) (2 : Int).toNat) := by
                    unfold o231
                    rw [if_pos (by omega), if_pos (by omega), if_pos (by omega), if_pos (by omega), if_pos (by omega), if_pos (by omega), if_neg (by omega), if_neg (by omega)]
                    try unfold ntS
                    exact Prod.ext (by dsimp only; omega) (by rfl)
                  rw [ho] at hK
                  have h8 : ld (u2 I 8 9 (oI (ld I 8 9 + 1))) 8 9 = ld I 8 9 + 1 := by
                    rw [ld_w ⟨by omega, by omega⟩, if_pos rfl]
                  exact hK I1 ((FK.wr (FK.refl I) (by decide)).trans (Fr.FK q1 rfl)) (CX.bump hX r1 (fun a k ha => ((q1.mm rfl).1 a k ha).trans ((MmK.wr (MmK.refl _) rfl) a k ha)) ((q1.ld rfl).trans h8))
                · have ho : o231 A x1 x2 x3 x4 x5 x6 = ((-1), A) := by
                    unfold o231
                    repeat' split
                    all_goals first | with_reducible rfl | (exfalso; omega) | exact Prod.ext (by dsimp only; omega) rfl | exact Prod.ext (by dsimp only) rfl
                  rw [ho] at hK
                  exact hK I (FK.refl I) (hX.up (Nat.le_succ n))
            · have ho : o231 A x1 x2 x3 x4 x5 x6 = ((-1), A) := by
                unfold o231
                repeat' split
                all_goals first | with_reducible rfl | (exfalso; omega) | exact Prod.ext (by dsimp only; omega) rfl | exact Prod.ext (by dsimp only) rfl
              rw [ho] at hK
              exact hK I (FK.refl I) (hX.up (Nat.le_succ n))
          · have ho : o231 A x1 x2 x3 x4 x5 x6 = ((-1), A) := by
              unfold o231
              repeat' split
              all_goals first | with_reducible rfl | (exfalso; omega) | exact Prod.ext (by dsimp only; omega) rfl | exact Prod.ext (by dsimp only) rfl
            rw [ho] at hK
            exact hK I (FK.refl I) (hX.up (Nat.le_succ n))
        · have ho : o231 A x1 x2 x3 x4 x5 x6 = ((-1), A) := by
            unfold o231
            repeat' split
            all_goals first | with_reducible rfl | (exfalso; omega) | exact Prod.ext (by dsimp only; omega) rfl | exact Prod.ext (by dsimp only) rfl
          rw [ho] at hK
          exact hK I (FK.refl I) (hX.up (Nat.le_succ n))
      · have ho : o231 A x1 x2 x3 x4 x5 x6 = ((-1), A) := by
          unfold o231
          repeat' split
          all_goals first | with_reducible rfl | (exfalso; omega) | exact Prod.ext (by dsimp only; omega) rfl | exact Prod.ext (by dsimp only) rfl
        rw [ho] at hK
        exact hK I (FK.refl I) (hX.up (Nat.le_succ n))
    · have ho : o231 A x1 x2 x3 x4 x5 x6 = ((-1), A) := by
        unfold o231
        repeat' split
        all_goals first | with_reducible rfl | (exfalso; omega) | exact Prod.ext (by dsimp only; omega) rfl | exact Prod.ext (by dsimp only) rfl
      rw [ho] at hK
      exact hK I (FK.refl I) (hX.up (Nat.le_succ n))
  · have ho : o231 A x1 x2 x3 x4 x5 x6 = ((-1), A) := by
      unfold o231
      repeat' split
      all_goals first | with_reducible rfl | (exfalso; omega) | exact Prod.ext (by dsimp only; omega) rfl | exact Prod.ext (by dsimp only) rfl
    rw [ho] at hK
    exact hK I (FK.refl I) (hX.up (Nat.le_succ n))
set_option maxRecDepth 4000 in
theorem e16 {d L : Nat} {I : Nat → Nat → Int32} {R : Nat → Nat → Option Nat} {S : List (Nat × Nat)} {K : Int32 → mM → Prop} {A : aS} (hC : RC R S I A) {x1 : Int} {x2 : Int} {x3 : Int} {x4 : Int} (hE : inR x1 ∧ (inR (A 91 1 - 1) ∧ (((0 ≤ x1 ∧ x1 ≤ A 91 1 - 1) → inR x2 ∧ (inR (Int.tdiv (A 91 0) 100) ∧ (((0 ≤ x2 ∧ x2 ≤ Int.tdiv (A 91 0) 100) → inR x3 ∧ (((0 ≤ x3 ∧ x3 ≤ 5) → inR x4 ∧ (((0 ≤ x4 ∧ x4 ≤ 100) → ((A 110 6 < ld I 1 6) → CallI (d + 1) 91 [.ref 31, .int (oI 6), .int (oI x1), .int (oI (A 91 0)), .int (oI x2), .int (oI x3), .int (oI x4)] (bd L (u2 I 8 9 (oI (ld I 8 9 + 1))) R S) (fun y s => ∃ (y19 : Int) (I18 : mI), y = oI y19 ∧ s = bd L I18 R S ∧ inR y19 ∧ (K (oI y19) (bd L I18 R S)))) ∧ (¬ (A 110 6 < ld I 1 6) → K (oI (-1)) (bd L I R S))) ∧ (¬ (0 ≤ x4 ∧ x4 ≤ 100) → K (oI (-1)) (bd L I R S)))) ∧ (¬ (0 ≤ x3 ∧ x3 ≤ 5) → K (oI (-1)) (bd L I R S)))) ∧ (¬ (0 ≤ x2 ∧ x2 ≤ Int.tdiv (A 91 0) 100) → K (oI (-1)) (bd L I R S))))) ∧ (¬ (0 ≤ x1 ∧ x1 ≤ A 91 1 - 1) → K (oI (-1)) (bd L I R S))))) : CallI (d + 2) 16 [.ref 8, .int (oI x1), .int (oI x2), .int (oI x3), .int (oI x4)] (bd L I R S) K := by
  refine cI_of (ls := [.ref 8, .int (oI x1), .int (oI x2), .int (oI x3), .int (oI x4), mUn]) rfl ?_
  refine xG gb16.1 ?_
  refine s6 (p := 8) rfl ?_
  refine s4 (x := x1) rfl ?_
  refine sI rc7 rfl (Nat.le_of_ble_eq_true rfl) ?_
  refine cI_of (ls := [.ref 8, .int (oI x1)]) rfl ?_
  refine xG gb7 ?_
  refine s4 (x := x1) rfl ?_
  refine s0 ?_
  refine s6 (p := 8) rfl ?_
  refine s51 sh8 (by decide) (by decide) rf8_1 ?_
  refine s50 (v := A 91 1) sh21 (by decide) (by decide) (rdC hC.1 rfl) ?_
  refine s0 ?_
  refine s17 ?_
  obtain ⟨g1, hE⟩ := hE
  obtain ⟨g2, hE⟩ := hE
  refine sI rc3 rfl (Nat.le_of_ble_eq_true rfl) ?_
  refine k3 g1 (inRd rfl) g2 (fun c3 => ?_) (fun c3 => ?_)
  · replace hE := hE.1 c3
    refine s84 (by decide) ?_
    refine rqI_of ?_
    refine s67 (inRd rfl) (fun c4 => absurd c4 (by decide)) (fun _ => ?_)
    refine s4 (x := x2) rfl ?_
    refine s0 ?_
    refine s6 (p := 8) rfl ?_
    refine s50 (v := A 91 0) sh8 (by decide) (by decide) (rdC hC.1 rfl) ?_
    refine s0 ?_
    refine s19 (inC hC.1 (a := 8) (k := 8) rfl) ⟨(inRd rfl), by decide⟩ ?_
    obtain ⟨g5, hE⟩ := hE
    obtain ⟨g6, hE⟩ := hE
    refine sI rc3 rfl (Nat.le_of_ble_eq_true rfl) ?_
    refine k3 g5 (inRd rfl) g6 (fun c7 => ?_) (fun c7 => ?_)
    · replace hE := hE.1 c7
      refine s67 (inRd rfl) (fun c8 => absurd c8 (by decide)) (fun _ => ?_)
      refine s4 (x := x3) rfl ?_
      refine s0 ?_
      refine s0 ?_
      obtain ⟨g9, hE⟩ := hE
      refine sI rc3 rfl (Nat.le_of_ble_eq_true rfl) ?_
      refine k3 g9 (inRd rfl) (inRd rfl) (fun c10 => ?_) (fun c10 => ?_)
      · replace hE := hE.1 c10
        refine s67 (inRd rfl) (fun c11 => absurd c11 (by decide)) (fun _ => ?_)
        refine s4 (x := x4) rfl ?_
        refine s0 ?_
        refine s0 ?_
        obtain ⟨g12, hE⟩ := hE
        refine sI rc3 rfl (Nat.le_of_ble_eq_true rfl) ?_
        refine k3 g12 (inRd rfl) (inRd rfl) (fun c13 => ?_) (fun c13 => ?_)
        · replace hE := hE.1 c13
          refine s67 (inRd rfl) (fun c14 => absurd c14 (by decide)) (fun _ => ?_)
          refine s0 ?_
          refine s60 ?_
          refine xG gb16.2.2.1 ?_
          refine s7 (ls' := [.ref 8, .int (oI x1), .int (oI x2), .int (oI x3), .int (oI x4), .int (oI 1)]) (Nat.le_of_ble_eq_true rfl) rfl ?_
          refine s4 (x := 1) rfl ?_
          refine s67 (inRd rfl) (fun c15 => absurd c15 (by decide)) (fun _ => ?_)
          refine s6 (p := 8) rfl ?_
          refine s51 sh8 (by decide) (by decide) rf8_2 ?_
          refine s0 ?_
          refine sI rc86 rfl (Nat.le_of_ble_eq_true rfl) ?_
          refine cI_of (ls := [.ref 31, .int (oI 6)]) rfl ?_
          refine xG gb86.1 ?_
          refine s6 (p := 31) rfl ?_
          refine s51 sh31 (by decide) (by decide) rf31_10 ?_
          refine s4 (x := 6) rfl ?_
          refine s40 (v := A 110 6) sh42 (⟨by decide, by decide⟩ : (0 : Int) ≤ 6 ∧ (6 : Int) < 7) rfl (rdC hC.1 rfl) ?_
          refine s55 ?_
          refine s4 (x := 6) rfl ?_
          refine s40 (v := ld I 1 6) sh1 (⟨by decide, by decide⟩ : (0 : Int) ≤ 6 ∧ (6 : Int) < 7) rfl (oI_ld _ _ _) ?_
          refine s63 (inC hC.1 (a := 42) (k := 6) rfl) (ld_inR _ _ _) (fun c16 => ?_) (fun c16 => ?_)
          · replace hE := hE.1 c16
            refine xG gb86.2.1 ?_
            refine s0 ?_
            refine s79 ?_
            refine xG gb86.2.2 ?_
            refine s84 (by decide) ?_
            refine rqI_of ?_
            refine s67 (inRd rfl) (fun _ => ?_) (fun c17 => absurd (by decide) c17)
            refine xG gb16.2.2.2.2 ?_
            refine s6 (p := 8) rfl ?_
            refine s13r ?_
            refine s50 (v := ld I 8 9) sh8 (by decide) (by decide) (oI_ld _ _ _) ?_
            refine s0 ?_
            refine s16 ?_
            refine s52 sh8 (by decide) (by decide) ?_
            refine s6 (p := 8) rfl ?_
            refine s51 sh8 (by decide) (by decide) rf8_2 ?_
            refine s0 ?_
            refine s4 (x := x1) rfl ?_
            refine s6 (p := 8) rfl ?_
            refine s50 (v := A 91 0) sh8 (by decide) (by decide) ((v2_nk (by decide)).trans (rdC hC.1 rfl)) ?_
            refine s4 (x := x2) rfl ?_
            refine s4 (x := x3) rfl ?_
            refine s4 (x := x4) rfl ?_
            refine sI rc91 rfl (Nat.le_of_ble_eq_true rfl) ?_
            refine CallI.mono hE ?_
            rintro _ _ ⟨y19, I18, rfl, rfl, gy19, hE⟩
            refine s80 ?_
            exact rqI_of hE
          · replace hE := hE.2 c16
            refine s0 ?_
            refine s60 ?_
            refine xG gb86.2.2 ?_
            refine s84 (by decide) ?_
            refine rqI_of ?_
            refine s67 (inRd rfl) (fun c20 => absurd c20 (by decide)) (fun _ => ?_)
            refine s79 ?_
            refine xG gb16.2.2.2.1 ?_
            refine s0 ?_
            refine s80 ?_
            exact rqI_of hE
        · replace hE := hE.2 c13
          refine s67 (inRd rfl) (fun _ => ?_) (fun c21 => absurd (by decide) c21)
          refine xG gb16.2.1 ?_
          refine s0 ?_
          refine s79 ?_
          refine xG gb16.2.2.1 ?_
          refine s7 (ls' := [.ref 8, .int (oI x1), .int (oI x2), .int (oI x3), .int (oI x4), .int (oI 0)]) (Nat.le_of_ble_eq_true rfl) rfl ?_
          refine s4 (x := 0) rfl ?_
          refine s67 (inRd rfl) (fun _ => ?_) (fun c22 => absurd (by decide) c22)
          refine xG gb16.2.2.2.1 ?_
          refine s0 ?_
          refine s80 ?_
          exact rqI_of hE
      · replace hE := hE.2 c10
        refine s67 (inRd rfl) (fun _ => ?_) (fun c23 => absurd (by decide) c23)
        refine xG gb16.2.1 ?_
        refine s0 ?_
        refine s79 ?_
        refine xG gb16.2.2.1 ?_
        refine s7 (ls' := [.ref 8, .int (oI x1), .int (oI x2), .int (oI x3), .int (oI x4), .int (oI 0)]) (Nat.le_of_ble_eq_true rfl) rfl ?_
        refine s4 (x := 0) rfl ?_
        refine s67 (inRd rfl) (fun _ => ?_) (fun c24 => absurd (by decide) c24)
        refine xG gb16.2.2.2.1 ?_
        refine s0 ?_
        refine s80 ?_
        exact rqI_of hE
    · replace hE := hE.2 c7
      refine s67 (inRd rfl) (fun _ => ?_) (fun c25 => absurd (by decide) c25)
      refine xG gb16.2.1 ?_
      refine s0 ?_
      refine s79 ?_
      refine xG gb16.2.2.1 ?_
      refine s7 (ls' := [.ref 8, .int (oI x1), .int (oI x2), .int (oI x3), .int (oI x4), .int (oI 0)]) (Nat.le_of_ble_eq_true rfl) rfl ?_
      refine s4 (x := 0) rfl ?_
      refine s67 (inRd rfl) (fun _ => ?_) (fun c26 => absurd (by decide) c26)
      refine xG gb16.2.2.2.1 ?_
      refine s0 ?_
      refine s80 ?_
      exact rqI_of hE
  · replace hE := hE.2 c3
    refine s84 (by decide) ?_
    refine rqI_of ?_
    refine s67 (inRd rfl) (fun _ => ?_) (fun c27 => absurd (by decide) c27)
    refine xG gb16.2.1 ?_
    refine s0 ?_
    refine s79 ?_
    refine xG gb16.2.2.1 ?_
    refine s7 (ls' := [.ref 8, .int (oI x1), .int (oI x2), .int (oI x3), .int (oI x4), .int (oI 0)]) (Nat.le_of_ble_eq_true rfl) rfl ?_
    refine s4 (x := 0) rfl ?_
    refine s67 (inRd rfl) (fun _ => ?_) (fun c28 => absurd (by decide) c28)
    refine xG gb16.2.2.2.1 ?_
    refine s0 ?_
    refine s80 ?_
    exact rqI_of hE
set_option maxRecDepth 4000 in
theorem q16 {d L n : Nat} {I : mI} {R : mR} {S : mSh} {A : aS} {K : Int32 → mM → Prop} {x1 : Int} {x2 : Int} {x3 : Int} {x4 : Int} (hX : CX R S I A n) (hW : WF A) (hn : n ≤ 100000) (rx1 : inR x1) (rx2 : inR x2) (rx3 : inR x3) (rx4 : inR x4) (hK : ∀ I1, FK I I1 → CX R S I1 (o242 A x1 x2 x3 x4).2 (n + 1) → K (oI (o242 A x1 x2 x3 x4).1) (bd L I1 R S)) : CallI (d + 2) 16 [.ref 8, .int (oI x1), .int (oI x2), .int (oI x3), .int (oI x4)] (bd L I R S) K := by
  have hC := hX.1
  have hA := hW.1
  have w0 := hA.1
  have w1 := hA.2.1
  have w2 := hA.2.2.1
  have w3 : 0 ≤ A 91 3 ∧ A 91 3 ≤ 850 := hA.2.2.2.1
  have ty := today_year hA
  have c9 := hX.2.2.2.1
  have hB := hW.2.2.2.2.2.1
  obtain ⟨bs, b0, b1, b2, b3, b4, b5, b6⟩ := hB
  have hB := hW.2.2.2.2.2.1
  have m0 : ld I 1 0 = 150 := hC.2.2.2.2.2.1.1 0 (by decide)
  have m1 : ld I 1 1 = 30 := hC.2.2.2.2.2.1.1 1 (by decide)
  have m2 : ld I 1 2 = 300 := hC.2.2.2.2.2.1.1 2 (by decide)
  have m3 : ld I 1 3 = 60 := hC.2.2.2.2.2.1.1 3 (by decide)
  have m4 : ld I 1 4 = 30 := hC.2.2.2.2.2.1.1 4 (by decide)
  have m5 : ld I 1 5 = 30 := hC.2.2.2.2.2.1.1 5 (by decide)
  have m6 : ld I 1 6 = 250 := hC.2.2.2.2.2.1.1 6 (by decide)
  refine e16 (d := d) hC ?_
  refine ⟨by first | assumption | exact inRd rfl | omega | exact ⟨by omega, by omega⟩ | (unfold WnOk; omega) | exact hW.1 | exact hW.2.1 | exact hW.2.2.1 | exact hW.2.2.2.1 | exact hW.2.2.2.2.1 | exact hW.2.2.2.2.2.2.2.2.2.1 | exact hW.2.2.2.2.2.2.2.2.2.2.1 | (constructor <;> omega), ?_⟩
  refine ⟨by first | assumption | exact inRd rfl | omega | exact ⟨by omega, by omega⟩ | (unfold WnOk; omega) | exact hW.1 | exact hW.2.1 | exact hW.2.2.1 | exact hW.2.2.2.1 | exact hW.2.2.2.2.1 | exact hW.2.2.2.2.2.2.2.2.2.1 | exact hW.2.2.2.2.2.2.2.2.2.2.1 | (constructor <;> omega), ?_⟩
  refine ⟨fun c1 => ?_, fun c1 => ?_⟩
  · refine ⟨by first | assumption | exact inRd rfl | omega | exact ⟨by omega, by omega⟩ | (unfold WnOk; omega) | exact hW.1 | exact hW.2.1 | exact hW.2.2.1 | exact hW.2.2.2.1 | exact hW.2.2.2.2.1 | exact hW.2.2.2.2.2.2.2.2.2.1 | exact hW.2.2.2.2.2.2.2.2.2.2.1 | (constructor <;> omega), ?_⟩
    refine ⟨by first | assumption | exact inRd rfl | omega | exact ⟨by omega, by omega⟩ | (unfold WnOk; omega) | exact hW.1 | exact hW.2.1 | exact hW.2.2.1 | exact hW.2.2.2.1 | exact hW.2.2.2.2.1 | exact hW.2.2.2.2.2.2.2.2.2.1 | exact hW.2.2.2.2.2.2.2.2.2.2.1 | (constructor <;> omega), ?_⟩
    refine ⟨fun c2 => ?_, fun c2 => ?_⟩
    · refine ⟨by first | assumption | exact inRd rfl | omega | exact ⟨by omega, by omega⟩ | (unfold WnOk; omega) | exact hW.1 | exact hW.2.1 | exact hW.2.2.1 | exact hW.2.2.2.1 | exact hW.2.2.2.2.1 | exact hW.2.2.2.2.2.2.2.2.2.1 | exact hW.2.2.2.2.2.2.2.2.2.2.1 | (constructor <;> omega), ?_⟩
      refine ⟨fun c3 => ?_, fun c3 => ?_⟩
      · refine ⟨by first | assumption | exact inRd rfl | omega | exact ⟨by omega, by omega⟩ | (unfold WnOk; omega) | exact hW.1 | exact hW.2.1 | exact hW.2.2.1 | exact hW.2.2.2.1 | exact hW.2.2.2.2.1 | exact hW.2.2.2.2.2.2.2.2.2.1 | exact hW.2.2.2.2.2.2.2.2.2.2.1 | (constructor <;> omega), ?_⟩
        refine ⟨fun c4 => ?_, fun c4 => ?_⟩
        · refine ⟨fun c5 => ?_, fun c5 => ?_⟩
          · have hC0 : RC R S (u2 I 8 9 (oI (ld I 8 9 + 1))) A := RC.scr hC rfl
            refine k91 (d := d) (kd := 6) (w := x1) (a := x2) (b := x3) (c := x4) (fr := x2) (vl := x4) hC0 hA hB (by omega) (by omega) (by omega) ((if_neg (by omega)).symm) (by rw [if_neg (by omega), if_pos (by omega)]) ⟨by omega, by omega⟩ ⟨by omega, by omega⟩ ⟨by omega, by omega⟩ (fun I1 q1 r1 => ?_)
            refine ⟨A 91 3, I1, rfl, rfl, ⟨by omega, by omega⟩, ?_⟩
            have ho : o242 A x1 x2 x3 x4 = (A 91 3, ntS A (6) (x1) (x2) (x3) (x4) (6 : Int).toNat) := by
              unfold o242
              rw [if_pos (by omega), if_pos (by omega), if_pos (by omega), if_pos (by omega), if_neg (by omega)]
              try unfold ntS
              exact Prod.ext (by dsimp only; omega) (by rfl)
            rw [ho] at hK
            have h8 : ld (u2 I 8 9 (oI (ld I 8 9 + 1))) 8 9 = ld I 8 9 + 1 := by
              rw [ld_w ⟨by omega, by omega⟩, if_pos rfl]
            exact hK I1 ((FK.wr (FK.refl I) (by decide)).trans (Fr.FK q1 rfl)) (CX.bump hX r1 (fun a k ha => ((q1.mm rfl).1 a k ha).trans ((MmK.wr (MmK.refl _) rfl) a k ha)) ((q1.ld rfl).trans h8))
          · have ho : o242 A x1 x2 x3 x4 = ((-1), A) := by
              unfold o242
              repeat' split
              all_goals first | with_reducible rfl | (exfalso; omega) | exact Prod.ext (by dsimp only; omega) rfl | exact Prod.ext (by dsimp only) rfl
            rw [ho] at hK
            exact hK I (FK.refl I) (hX.up (Nat.le_succ n))
        · have ho : o242 A x1 x2 x3 x4 = ((-1), A) := by
            unfold o242
            repeat' split
            all_goals first | with_reducible rfl | (exfalso; omega) | exact Prod.ext (by dsimp only; omega) rfl | exact Prod.ext (by dsimp only) rfl
          rw [ho] at hK
          exact hK I (FK.refl I) (hX.up (Nat.le_succ n))
      · have ho : o242 A x1 x2 x3 x4 = ((-1), A) := by
          unfold o242
          repeat' split
          all_goals first | with_reducible rfl | (exfalso; omega) | exact Prod.ext (by dsimp only; omega) rfl | exact Prod.ext (by dsimp only) rfl
        rw [ho] at hK
        exact hK I (FK.refl I) (hX.up (Nat.le_succ n))
    · have ho : o242 A x1 x2 x3 x4 = ((-1), A) := by
        unfold o242
        repeat' split
        all_goals first | with_reducible rfl | (exfalso; omega) | exact Prod.ext (by dsimp only; omega) rfl | exact Prod.ext (by dsimp only) rfl
      rw [ho] at hK
      exact hK I (FK.refl I) (hX.up (Nat.le_succ n))
  · have ho : o242 A x1 x2 x3 x4 = ((-1), A) := by
      unfold o242
      repeat' split
      all_goals first | with_reducible rfl | (exfalso; omega) | exact Prod.ext (by dsimp only; omega) rfl | exact Prod.ext (by dsimp only) rfl
    rw [ho] at hK
    exact hK I (FK.refl I) (hX.up (Nat.le_succ n))
