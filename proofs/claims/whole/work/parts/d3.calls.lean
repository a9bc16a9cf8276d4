set_option maxRecDepth 4000 in
theorem e19 {d L : Nat} {I : Nat → Nat → Int32} {R : Nat → Nat → Option Nat} {S : List (Nat × Nat)} {K : Int32 → mM → Prop} {A : aS} (hC : RC R S I A) {x1 : Int} {x2 : Int} {x3 : Int} (hE : inR x1 ∧ (inR (A 91 1 - 1) ∧ (((0 ≤ x1 ∧ x1 ≤ A 91 1 - 1) → inR x2 ∧ (((0 ≤ x2 ∧ x2 ≤ 799) → inR x3 ∧ (((0 ≤ x3 ∧ x3 ≤ 799) → WfA A ∧ (WnOk x2 x2 x3 ∧ (∀ (I13 : mI), (Fr [68] [(59, 13), (59, 14), (59, 15)] I I13) → (WnP I13 x2 x2 x3) → (ShP A I13 x2 x2 x3) → (0 ≤ x1 ∧ x1 < A 91 1) ∧ (∃ f18 t19 n20 : Int, WnOk f18 t19 n20 ∧ WnP I13 f18 t19 n20 ∧ (∀ (I23 : mI), (Fr [62, 63, 64, 65, 66, 67] [(59, 16)] I13 I23) → (ld I23 59 16 = x1) → (LyP A I23 x1 f18 t19 n20) → ((ld I23 59 13 ≤ x2 ∧ x2 ≤ ld I23 59 14) → (0 ≤ x2 - (ld I23 59 13) ∧ x2 - (ld I23 59 13) < 100) ∧ (K (oI (ld I23 62 (x2 - (ld I23 59 13)).toNat)) (bd L I23 R S))) ∧ (¬ (ld I23 59 13 ≤ x2 ∧ x2 ≤ ld I23 59 14) → K (oI (-1)) (bd L I23 R S))))))) ∧ (¬ (0 ≤ x3 ∧ x3 ≤ 799) → K (oI (-1)) (bd L I R S)))) ∧ (¬ (0 ≤ x2 ∧ x2 ≤ 799) → K (oI (-1)) (bd L I R S)))) ∧ (¬ (0 ≤ x1 ∧ x1 ≤ A 91 1 - 1) → K (oI (-1)) (bd L I R S))))) : CallI (d + 4) 19 [.ref 8, .int (oI x1), .int (oI x2), .int (oI x3)] (bd L I R S) K := by
  refine cI_of (ls := [.ref 8, .int (oI x1), .int (oI x2), .int (oI x3)]) rfl ?_
  refine xG gb19.1 ?_
  refine s6 (p := 8) rfl ?_
  refine s4 (x := x1) rfl ?_
  refine sI rc7 rfl (Nat.le_of_ble_eq_true rfl) ?_
  refine cI_of (ls := [.ref 8, .int (oI x1)]) rfl ?_
  refine xG gb7 ?_
  refine s4 (x := x1) rfl ?_
  refine s0 ?_
  refine s6 (p := 8) rfl ?_
  refine s51 sh8 (by decide) (by decide) rf8_1 ?_
  refine s50 (v := A 91 1) sh21 (by decide) (by decide) (rdC hC.1 rfl) ?_
  refine s0 ?_
  refine s17 ?_
  obtain ⟨g1, hE⟩ := hE
  obtain ⟨g2, hE⟩ := hE
  refine sI rc3 rfl (Nat.le_of_ble_eq_true rfl) ?_
  refine k3 g1 (inRd rfl) g2 (fun c3 => ?_) (fun c3 => ?_)
  · replace hE := hE.1 c3
    refine s84 (by decide) ?_
    refine rqI_of ?_
    refine s67 (inRd rfl) (fun c4 => absurd c4 (by decide)) (fun _ => ?_)
    refine s4 (x := x2) rfl ?_
    refine sI rc13 rfl (Nat.le_of_ble_eq_true rfl) ?_
    refine cI_of (ls := [.int (oI x2)]) rfl ?_
    refine xG gb13 ?_
    refine s4 (x := x2) rfl ?_
    refine s0 ?_
    refine s0 ?_
    obtain ⟨g5, hE⟩ := hE
    refine sI rc3 rfl (Nat.le_of_ble_eq_true rfl) ?_
    refine k3 g5 (inRd rfl) (inRd rfl) (fun c6 => ?_) (fun c6 => ?_)
    · replace hE := hE.1 c6
      refine s84 (by decide) ?_
      refine rqI_of ?_
      refine s67 (inRd rfl) (fun c7 => absurd c7 (by decide)) (fun _ => ?_)
      refine s4 (x := x3) rfl ?_
      refine sI rc13 rfl (Nat.le_of_ble_eq_true rfl) ?_
      refine cI_of (ls := [.int (oI x3)]) rfl ?_
      refine xG gb13 ?_
      refine s4 (x := x3) rfl ?_
      refine s0 ?_
      refine s0 ?_
      obtain ⟨g8, hE⟩ := hE
      refine sI rc3 rfl (Nat.le_of_ble_eq_true rfl) ?_
      refine k3 g8 (inRd rfl) (inRd rfl) (fun c9 => ?_) (fun c9 => ?_)
      · replace hE := hE.1 c9
        refine s84 (by decide) ?_
        refine rqI_of ?_
        refine s68 (inRd rfl) (fun c10 => absurd c10 (by decide)) (fun _ => ?_)
        refine xG gb19.2.2 ?_
        refine s6 (p := 8) rfl ?_
        refine s51 sh8 (by decide) (by decide) rf8_4 ?_
        refine s4 (x := x2) rfl ?_
        refine s4 (x := x2) rfl ?_
        refine s4 (x := x3) rfl ?_
        obtain ⟨g11, hE⟩ := hE
        obtain ⟨g12, hE⟩ := hE
        refine sV rc134 rfl (Nat.le_of_ble_eq_true rfl) ?_
        refine k134 hC g11 g12 (fun I13 q14 q15 q16 => ?_)
        replace hE := hE I13 q14 q15 q16
        refine s6 (p := 8) rfl ?_
        refine s51 sh8 (by decide) (by decide) rf8_4 ?_
        refine s4 (x := x1) rfl ?_
        obtain ⟨g17, hE⟩ := hE
        obtain ⟨f18, t19, n20, k21, k22, hE⟩ := hE
        refine sV rc136 rfl (Nat.le_of_ble_eq_true rfl) ?_
        refine k136 (RC.fr hC q14 rfl) k21 k22 g11 g17 (fun I23 q24 q25 q26 => ?_)
        replace hE := hE I23 q24 q25 q26
        refine s6 (p := 8) rfl ?_
        refine s51 sh8 (by decide) (by decide) rf8_4 ?_
        refine s4 (x := x2) rfl ?_
        refine sI rc140 rfl (Nat.le_of_ble_eq_true rfl) ?_
        refine cI_of (ls := [.ref 59, .int (oI x2)]) rfl ?_
        refine xG gb140.1 ?_
        refine s4 (x := x2) rfl ?_
        refine s6 (p := 59) rfl ?_
        refine s50 (v := ld I23 59 13) sh59 (by decide) (by decide) (oI_ld _ _ _) ?_
        refine s6 (p := 59) rfl ?_
        refine s50 (v := ld I23 59 14) sh59 (by decide) (by decide) (oI_ld _ _ _) ?_
        refine sI rc3 rfl (Nat.le_of_ble_eq_true rfl) ?_
        refine k3 g5 (ld_inR _ _ _) (ld_inR _ _ _) (fun c27 => ?_) (fun c27 => ?_)
        · replace hE := hE.1 c27
          refine s67 (inRd rfl) (fun c28 => absurd c28 (by decide)) (fun _ => ?_)
          refine s6 (p := 59) rfl ?_
          refine s51 sh59 (by decide) (by decide) rf59_5 ?_
          refine s4 (x := x2) rfl ?_
          refine s6 (p := 59) rfl ?_
          refine s50 (v := ld I23 59 13) sh59 (by decide) (by decide) (oI_ld _ _ _) ?_
          refine s17 ?_
          obtain ⟨g29, hE⟩ := hE
          refine s40 (v := ld I23 62 (x2 - (ld I23 59 13)).toNat) sh62 g29 rfl (oI_ld _ _ _) ?_
          refine s60 ?_
          refine xG gb140.2.2 ?_
          refine s80 ?_
          refine rqI_of ?_
          refine s80 ?_
          exact rqI_of hE
        · replace hE := hE.2 c27
          refine s67 (inRd rfl) (fun _ => ?_) (fun c30 => absurd (by decide) c30)
          refine xG gb140.2.1 ?_
          refine s0 ?_
          refine s79 ?_
          refine xG gb140.2.2 ?_
          refine s80 ?_
          refine rqI_of ?_
          refine s80 ?_
          exact rqI_of hE
      · replace hE := hE.2 c9
        refine s84 (by decide) ?_
        refine rqI_of ?_
        refine s68 (inRd rfl) (fun _ => ?_) (fun c31 => absurd (by decide) c31)
        refine s79 ?_
        refine xG gb19.2.1 ?_
        refine s0 ?_
        refine s80 ?_
        exact rqI_of hE
    · replace hE := hE.2 c6
      refine s84 (by decide) ?_
      refine rqI_of ?_
      refine s67 (inRd rfl) (fun _ => ?_) (fun c32 => absurd (by decide) c32)
      refine xG gb19.2.1 ?_
      refine s0 ?_
      refine s80 ?_
      exact rqI_of hE
  · replace hE := hE.2 c3
    refine s84 (by decide) ?_
    refine rqI_of ?_
    refine s67 (inRd rfl) (fun _ => ?_) (fun c33 => absurd (by decide) c33)
    refine xG gb19.2.1 ?_
    refine s0 ?_
    refine s80 ?_
    exact rqI_of hE
set_option maxRecDepth 4000 in
theorem q19 {d L n : Nat} {I : mI} {R : mR} {S : mSh} {A : aS} {K : Int32 → mM → Prop} {x1 : Int} {x2 : Int} {x3 : Int} (hX : CX R S I A n) (hW : WF A) (hn : n ≤ 100000) (rx1 : inR x1) (rx2 : inR x2) (rx3 : inR x3) (hK : ∀ I1, FK I I1 → CX R S I1 (o245 A x1 x2 x3).2 (n + 1) → K (oI (o245 A x1 x2 x3).1) (bd L I1 R S)) : CallI (d + 4) 19 [.ref 8, .int (oI x1), .int (oI x2), .int (oI x3)] (bd L I R S) K := by
  have hC := hX.1
  have hA := hW.1
  have w0 := hA.1
  have w1 := hA.2.1
  have w2 := hA.2.2.1
  have w3 : 0 ≤ A 91 3 ∧ A 91 3 ≤ 850 := hA.2.2.2.1
  have ty := today_year hA
  have c9 := hX.2.2.2.1
  refine e19 (d := d) hC ?_
  refine ⟨by first | assumption | exact inRd rfl | omega | exact ⟨by omega, by omega⟩ | (unfold WnOk; omega) | exact hW.1 | exact hW.2.1 | exact hW.2.2.1 | exact hW.2.2.2.1 | exact hW.2.2.2.2.1 | exact hW.2.2.2.2.2.2.2.2.2.1 | exact hW.2.2.2.2.2.2.2.2.2.2.1 | (constructor <;> omega), ?_⟩
  refine ⟨by first | assumption | exact inRd rfl | omega | exact ⟨by omega, by omega⟩ | (unfold WnOk; omega) | exact hW.1 | exact hW.2.1 | exact hW.2.2.1 | exact hW.2.2.2.1 | exact hW.2.2.2.2.1 | exact hW.2.2.2.2.2.2.2.2.2.1 | exact hW.2.2.2.2.2.2.2.2.2.2.1 | (constructor <;> omega), ?_⟩
  refine ⟨fun c1 => ?_, fun c1 => ?_⟩
  · refine ⟨by first | assumption | exact inRd rfl | omega | exact ⟨by omega, by omega⟩ | (unfold WnOk; omega) | exact hW.1 | exact hW.2.1 | exact hW.2.2.1 | exact hW.2.2.2.1 | exact hW.2.2.2.2.1 | exact hW.2.2.2.2.2.2.2.2.2.1 | exact hW.2.2.2.2.2.2.2.2.2.2.1 | (constructor <;> omega), ?_⟩
    refine ⟨fun c2 => ?_, fun c2 => ?_⟩
    · refine ⟨by first | assumption | exact inRd rfl | omega | exact ⟨by omega, by omega⟩ | (unfold WnOk; omega) | exact hW.1 | exact hW.2.1 | exact hW.2.2.1 | exact hW.2.2.2.1 | exact hW.2.2.2.2.1 | exact hW.2.2.2.2.2.2.2.2.2.1 | exact hW.2.2.2.2.2.2.2.2.2.2.1 | (constructor <;> omega), ?_⟩
      refine ⟨fun c3 => ?_, fun c3 => ?_⟩
      · refine ⟨by first | assumption | exact inRd rfl | omega | exact ⟨by omega, by omega⟩ | (unfold WnOk; omega) | exact hW.1 | exact hW.2.1 | exact hW.2.2.1 | exact hW.2.2.2.1 | exact hW.2.2.2.2.1 | exact hW.2.2.2.2.2.2.2.2.2.1 | exact hW.2.2.2.2.2.2.2.2.2.2.1 | (constructor <;> omega), ?_⟩
        refine ⟨by first | assumption | exact inRd rfl | omega | exact ⟨by omega, by omega⟩ | (unfold WnOk; omega) | exact hW.1 | exact hW.2.1 | exact hW.2.2.1 | exact hW.2.2.2.1 | exact hW.2.2.2.2.1 | exact hW.2.2.2.2.2.2.2.2.2.1 | exact hW.2.2.2.2.2.2.2.2.2.2.1 | (constructor <;> omega), ?_⟩
        intro I1 q1 p1 s1
        refine ⟨by omega, x2, x2, x3, by unfold WnOk; omega, p1, ?_⟩
        intro I2 q2 p2 l2
        obtain ⟨e1, e2, e3⟩ := p1.fr q2 rfl rfl rfl
        have l := (l2 0 (by omega)).1
        rw [e1, e2]
        have hF := (Fr.FK q1 rfl).trans (Fr.FK q2 rfl)
        have hX2 := CX.up ((hX.fr q1 rfl rfl).fr q2 rfl rfl) (Nat.le_succ n)
        refine ⟨fun _ => ⟨by omega, ?_⟩, fun h => absurd (by omega) h⟩
        rw [show (x2 - x2).toNat = 0 by omega, l, show x2 + ((0 : Nat) : Int) = x2 by omega]
        have ho : o245 A x1 x2 x3 = (onS A x1 x2 x3, A) := by
          unfold o245
          rw [if_pos (by omega), if_pos (by omega), if_pos (by omega)]
        rw [ho] at hK
        exact hK I2 hF hX2
      · have ho : o245 A x1 x2 x3 = ((-1), A) := by
          unfold o245
          repeat' split
          all_goals first | (exfalso; omega) | with_reducible rfl
        rw [ho] at hK
        exact hK I (FK.refl I) (hX.up (Nat.le_succ n))
    · have ho : o245 A x1 x2 x3 = ((-1), A) := by
        unfold o245
        repeat' split
        all_goals first | (exfalso; omega) | with_reducible rfl
      rw [ho] at hK
      exact hK I (FK.refl I) (hX.up (Nat.le_succ n))
  · have ho : o245 A x1 x2 x3 = ((-1), A) := by
      unfold o245
      repeat' split
      all_goals first | (exfalso; omega) | with_reducible rfl
    rw [ho] at hK
    exact hK I (FK.refl I) (hX.up (Nat.le_succ n))
set_option maxRecDepth 4000 in
theorem e20 {d L : Nat} {I : Nat → Nat → Int32} {R : Nat → Nat → Option Nat} {S : List (Nat × Nat)} {K : Int32 → mM → Prop} {A : aS} (hC : RC R S I A) {x1 : Int} {x2 : Int} {x3 : Int} {x4 : Int} (hE : inR x1 ∧ (inR (A 91 1 - 1) ∧ (((0 ≤ x1 ∧ x1 ≤ A 91 1 - 1) → inR x2 ∧ (((0 ≤ x2 ∧ x2 ≤ 799) → inR x3 ∧ (((0 ≤ x3 ∧ x3 ≤ 1) → inR x4 ∧ (((0 ≤ x4 ∧ x4 ≤ 799) → WfA A ∧ (WnOk x2 x2 x4 ∧ (∀ (I16 : mI), (Fr [68] [(59, 13), (59, 14), (59, 15)] I I16) → (WnP I16 x2 x2 x4) → (ShP A I16 x2 x2 x4) → (0 ≤ x1 ∧ x1 < A 91 1) ∧ (∃ f21 t22 n23 : Int, WnOk f21 t22 n23 ∧ WnP I16 f21 t22 n23 ∧ (∀ (I26 : mI), (Fr [62, 63, 64, 65, 66, 67] [(59, 16)] I16 I26) → (ld I26 59 16 = x1) → (LyP A I26 x1 f21 t22 n23) → ((ld I26 59 13 ≤ x2 ∧ x2 ≤ ld I26 59 14) → (0 ≤ ((x2 - (ld I26 59 13)) * 2) + x3 ∧ ((x2 - (ld I26 59 13)) * 2) + x3 < 200) ∧ (K (oI (ld I26 64 (((x2 - (ld I26 59 13)) * 2) + x3).toNat)) (bd L I26 R S))) ∧ (¬ (ld I26 59 13 ≤ x2 ∧ x2 ≤ ld I26 59 14) → K (oI 0) (bd L I26 R S))))))) ∧ (¬ (0 ≤ x4 ∧ x4 ≤ 799) → K (oI (-1)) (bd L I R S)))) ∧ (¬ (0 ≤ x3 ∧ x3 ≤ 1) → K (oI (-1)) (bd L I R S)))) ∧ (¬ (0 ≤ x2 ∧ x2 ≤ 799) → K (oI (-1)) (bd L I R S)))) ∧ (¬ (0 ≤ x1 ∧ x1 ≤ A 91 1 - 1) → K (oI (-1)) (bd L I R S))))) : CallI (d + 4) 20 [.ref 8, .int (oI x1), .int (oI x2), .int (oI x3), .int (oI x4)] (bd L I R S) K := by
  refine cI_of (ls := [.ref 8, .int (oI x1), .int (oI x2), .int (oI x3), .int (oI x4)]) rfl ?_
  refine xG gb20.1 ?_
  refine s6 (p := 8) rfl ?_
  refine s4 (x := x1) rfl ?_
  refine sI rc7 rfl (Nat.le_of_ble_eq_true rfl) ?_
  refine cI_of (ls := [.ref 8, .int (oI x1)]) rfl ?_
  refine xG gb7 ?_
  refine s4 (x := x1) rfl ?_
  refine s0 ?_
  refine s6 (p := 8) rfl ?_
  refine s51 sh8 (by decide) (by decide) rf8_1 ?_
  refine s50 (v := A 91 1) sh21 (by decide) (by decide) (rdC hC.1 rfl) ?_
  refine s0 ?_
  refine s17 ?_
  obtain ⟨g1, hE⟩ := hE
  obtain ⟨g2, hE⟩ := hE
  refine sI rc3 rfl (Nat.le_of_ble_eq_true rfl) ?_
  refine k3 g1 (inRd rfl) g2 (fun c3 => ?_) (fun c3 => ?_)
  · replace hE := hE.1 c3
    refine s84 (by decide) ?_
    refine rqI_of ?_
    refine s67 (inRd rfl) (fun c4 => absurd c4 (by decide)) (fun _ => ?_)
    refine s4 (x := x2) rfl ?_
    refine sI rc13 rfl (Nat.le_of_ble_eq_true rfl) ?_
    refine cI_of (ls := [.int (oI x2)]) rfl ?_
    refine xG gb13 ?_
    refine s4 (x := x2) rfl ?_
    refine s0 ?_
    refine s0 ?_
    obtain ⟨g5, hE⟩ := hE
    refine sI rc3 rfl (Nat.le_of_ble_eq_true rfl) ?_
    refine k3 g5 (inRd rfl) (inRd rfl) (fun c6 => ?_) (fun c6 => ?_)
    · replace hE := hE.1 c6
      refine s84 (by decide) ?_
      refine rqI_of ?_
      refine s67 (inRd rfl) (fun c7 => absurd c7 (by decide)) (fun _ => ?_)
      refine s4 (x := x3) rfl ?_
      refine s0 ?_
      refine s0 ?_
      obtain ⟨g8, hE⟩ := hE
      refine sI rc3 rfl (Nat.le_of_ble_eq_true rfl) ?_
      refine k3 g8 (inRd rfl) (inRd rfl) (fun c9 => ?_) (fun c9 => ?_)
      · replace hE := hE.1 c9
        refine s67 (inRd rfl) (fun c10 => absurd c10 (by decide)) (fun _ => ?_)
        refine s4 (x := x4) rfl ?_
        refine sI rc13 rfl (Nat.le_of_ble_eq_true rfl) ?_
        refine cI_of (ls := [.int (oI x4)]) rfl ?_
        refine xG gb13 ?_
        refine s4 (x := x4) rfl ?_
        refine s0 ?_
        refine s0 ?_
        obtain ⟨g11, hE⟩ := hE
        refine sI rc3 rfl (Nat.le_of_ble_eq_true rfl) ?_
        refine k3 g11 (inRd rfl) (inRd rfl) (fun c12 => ?_) (fun c12 => ?_)
        · replace hE := hE.1 c12
          refine s84 (by decide) ?_
          refine rqI_of ?_
          refine s68 (inRd rfl) (fun c13 => absurd c13 (by decide)) (fun _ => ?_)
          refine xG gb20.2.2 ?_
          refine s6 (p := 8) rfl ?_
          refine s51 sh8 (by decide) (by decide) rf8_4 ?_
          refine s4 (x := x2) rfl ?_
          refine s4 (x := x2) rfl ?_
          refine s4 (x := x4) rfl ?_
          obtain ⟨g14, hE⟩ := hE
          obtain ⟨g15, hE⟩ := hE
          refine sV rc134 rfl (Nat.le_of_ble_eq_true rfl) ?_
          refine k134 hC g14 g15 (fun I16 q17 q18 q19 => ?_)
          replace hE := hE I16 q17 q18 q19
          refine s6 (p := 8) rfl ?_
          refine s51 sh8 (by decide) (by decide) rf8_4 ?_
          refine s4 (x := x1) rfl ?_
          obtain ⟨g20, hE⟩ := hE
          obtain ⟨f21, t22, n23, k24, k25, hE⟩ := hE
          refine sV rc136 rfl (Nat.le_of_ble_eq_true rfl) ?_
          refine k136 (RC.fr hC q17 rfl) k24 k25 g14 g20 (fun I26 q27 q28 q29 => ?_)
          replace hE := hE I26 q27 q28 q29
          refine s6 (p := 8) rfl ?_
          refine s51 sh8 (by decide) (by decide) rf8_4 ?_
          refine s4 (x := x2) rfl ?_
          refine s4 (x := x3) rfl ?_
          refine sI rc148 rfl (Nat.le_of_ble_eq_true rfl) ?_
          refine cI_of (ls := [.ref 59, .int (oI x2), .int (oI x3)]) rfl ?_
          refine xG gb148.1 ?_
          refine s4 (x := x2) rfl ?_
          refine s6 (p := 59) rfl ?_
          refine s50 (v := ld I26 59 13) sh59 (by decide) (by decide) (oI_ld _ _ _) ?_
          refine s6 (p := 59) rfl ?_
          refine s50 (v := ld I26 59 14) sh59 (by decide) (by decide) (oI_ld _ _ _) ?_
          refine sI rc3 rfl (Nat.le_of_ble_eq_true rfl) ?_
          refine k3 g5 (ld_inR _ _ _) (ld_inR _ _ _) (fun c30 => ?_) (fun c30 => ?_)
          · replace hE := hE.1 c30
            refine s67 (inRd rfl) (fun c31 => absurd c31 (by decide)) (fun _ => ?_)
            refine s4 (x := x3) rfl ?_
            refine s0 ?_
            refine s0 ?_
            refine sI rc3 rfl (Nat.le_of_ble_eq_true rfl) ?_
            refine k3 g8 (inRd rfl) (inRd rfl) (fun _ => ?_) (fun c32 => absurd c9 c32)
            refine s67 (inRd rfl) (fun c33 => absurd c33 (by decide)) (fun _ => ?_)
            refine s6 (p := 59) rfl ?_
            refine s51 sh59 (by decide) (by decide) rf59_7 ?_
            refine s4 (x := x2) rfl ?_
            refine s6 (p := 59) rfl ?_
            refine s50 (v := ld I26 59 13) sh59 (by decide) (by decide) (oI_ld _ _ _) ?_
            refine s17 ?_
            refine s0 ?_
            refine s18 ?_
            refine s4 (x := x3) rfl ?_
            refine s16 ?_
            obtain ⟨g34, hE⟩ := hE
            refine s40 (v := ld I26 64 (((x2 - (ld I26 59 13)) * 2) + x3).toNat) sh64 g34 rfl (oI_ld _ _ _) ?_
            refine s60 ?_
            refine xG gb148.2.2 ?_
            refine s80 ?_
            refine rqI_of ?_
            refine s80 ?_
            exact rqI_of hE
          · replace hE := hE.2 c30
            refine s67 (inRd rfl) (fun _ => ?_) (fun c35 => absurd (by decide) c35)
            refine xG gb148.2.1 ?_
            refine s0 ?_
            refine s79 ?_
            refine xG gb148.2.2 ?_
            refine s80 ?_
            refine rqI_of ?_
            refine s80 ?_
            exact rqI_of hE
        · replace hE := hE.2 c12
          refine s84 (by decide) ?_
          refine rqI_of ?_
          refine s68 (inRd rfl) (fun _ => ?_) (fun c36 => absurd (by decide) c36)
          refine s79 ?_
          refine xG gb20.2.1 ?_
          refine s0 ?_
          refine s80 ?_
          exact rqI_of hE
      · replace hE := hE.2 c9
        refine s67 (inRd rfl) (fun _ => ?_) (fun c37 => absurd (by decide) c37)
        refine xG gb20.2.1 ?_
        refine s0 ?_
        refine s80 ?_
        exact rqI_of hE
    · replace hE := hE.2 c6
      refine s84 (by decide) ?_
      refine rqI_of ?_
      refine s67 (inRd rfl) (fun _ => ?_) (fun c38 => absurd (by decide) c38)
      refine xG gb20.2.1 ?_
      refine s0 ?_
      refine s80 ?_
      exact rqI_of hE
  · replace hE := hE.2 c3
    refine s84 (by decide) ?_
    refine rqI_of ?_
    refine s67 (inRd rfl) (fun _ => ?_) (fun c39 => absurd (by decide) c39)
    refine xG gb20.2.1 ?_
    refine s0 ?_
    refine s80 ?_
    exact rqI_of hE
set_option maxRecDepth 4000 in
theorem q20 {d L n : Nat} {I : mI} {R : mR} {S : mSh} {A : aS} {K : Int32 → mM → Prop} {x1 : Int} {x2 : Int} {x3 : Int} {x4 : Int} (hX : CX R S I A n) (hW : WF A) (hn : n ≤ 100000) (rx1 : inR x1) (rx2 : inR x2) (rx3 : inR x3) (rx4 : inR x4) (hK : ∀ I1, FK I I1 → CX R S I1 (o246 A x1 x2 x3 x4).2 (n + 1) → K (oI (o246 A x1 x2 x3 x4).1) (bd L I1 R S)) : CallI (d + 4) 20 [.ref 8, .int (oI x1), .int (oI x2), .int (oI x3), .int (oI x4)] (bd L I R S) K := by
  have hC := hX.1
  have hA := hW.1
  have w0 := hA.1
  have w1 := hA.2.1
  have w2 := hA.2.2.1
  have w3 : 0 ≤ A 91 3 ∧ A 91 3 ≤ 850 := hA.2.2.2.1
  have ty := today_year hA
  have c9 := hX.2.2.2.1
  refine e20 (d := d) hC ?_
  refine ⟨by first | assumption | exact inRd rfl | omega | exact ⟨by omega, by omega⟩ | (unfold WnOk; omega) | exact hW.1 | exact hW.2.1 | exact hW.2.2.1 | exact hW.2.2.2.1 | exact hW.2.2.2.2.1 | exact hW.2.2.2.2.2.2.2.2.2.1 | exact hW.2.2.2.2.2.2.2.2.2.2.1 | (constructor <;> omega), ?_⟩
  refine ⟨by first | assumption | exact inRd rfl | omega | exact ⟨by omega, by omega⟩ | (unfold WnOk; omega) | exact hW.1 | exact hW.2.1 | exact hW.2.2.1 | exact hW.2.2.2.1 | exact hW.2.2.2.2.1 | exact hW.2.2.2.2.2.2.2.2.2.1 | exact hW.2.2.2.2.2.2.2.2.2.2.1 | (constructor <;> omega), ?_⟩
  refine ⟨fun c1 => ?_, fun c1 => ?_⟩
  · refine ⟨by first | assumption | exact inRd rfl | omega | exact ⟨by omega, by omega⟩ | (unfold WnOk; omega) | exact hW.1 | exact hW.2.1 | exact hW.2.2.1 | exact hW.2.2.2.1 | exact hW.2.2.2.2.1 | exact hW.2.2.2.2.2.2.2.2.2.1 | exact hW.2.2.2.2.2.2.2.2.2.2.1 | (constructor <;> omega), ?_⟩
    refine ⟨fun c2 => ?_, fun c2 => ?_⟩
    · refine ⟨by first | assumption | exact inRd rfl | omega | exact ⟨by omega, by omega⟩ | (unfold WnOk; omega) | exact hW.1 | exact hW.2.1 | exact hW.2.2.1 | exact hW.2.2.2.1 | exact hW.2.2.2.2.1 | exact hW.2.2.2.2.2.2.2.2.2.1 | exact hW.2.2.2.2.2.2.2.2.2.2.1 | (constructor <;> omega), ?_⟩
      refine ⟨fun c3 => ?_, fun c3 => ?_⟩
      · refine ⟨by first | assumption | exact inRd rfl | omega | exact ⟨by omega, by omega⟩ | (unfold WnOk; omega) | exact hW.1 | exact hW.2.1 | exact hW.2.2.1 | exact hW.2.2.2.1 | exact hW.2.2.2.2.1 | exact hW.2.2.2.2.2.2.2.2.2.1 | exact hW.2.2.2.2.2.2.2.2.2.2.1 | (constructor <;> omega), ?_⟩
        refine ⟨fun c4 => ?_, fun c4 => ?_⟩
        · refine ⟨by first | assumption | exact inRd rfl | omega | exact ⟨by omega, by omega⟩ | (unfold WnOk; omega) | exact hW.1 | exact hW.2.1 | exact hW.2.2.1 | exact hW.2.2.2.1 | exact hW.2.2.2.2.1 | exact hW.2.2.2.2.2.2.2.2.2.1 | exact hW.2.2.2.2.2.2.2.2.2.2.1 | (constructor <;> omega), ?_⟩
          refine ⟨by first | assumption | exact inRd rfl | omega | exact ⟨by omega, by omega⟩ | (unfold WnOk; omega) | exact hW.1 | exact hW.2.1 | exact hW.2.2.1 | exact hW.2.2.2.1 | exact hW.2.2.2.2.1 | exact hW.2.2.2.2.2.2.2.2.2.1 | exact hW.2.2.2.2.2.2.2.2.2.2.1 | (constructor <;> omega), ?_⟩
          intro I1 q1 p1 s1
          refine ⟨by omega, x2, x2, x4, by unfold WnOk; omega, p1, ?_⟩
          intro I2 q2 p2 l2
          obtain ⟨e1, e2, e3⟩ := p1.fr q2 rfl rfl rfl
          have l := (l2 0 (by omega)).2.2.2
          rw [e1, e2]
          have hF := (Fr.FK q1 rfl).trans (Fr.FK q2 rfl)
          have hX2 := CX.up ((hX.fr q1 rfl rfl).fr q2 rfl rfl) (Nat.le_succ n)
          refine ⟨fun _ => ⟨by omega, ?_⟩, fun h => absurd (by omega) h⟩
          have e : ld I2 64 ((x2 - x2) * 2 + x3).toNat = mkS A x1 (2 * x2 + x3) x4 := by
            rcases (by omega : x3 = 0 ∨ x3 = 1) with h3 | h3
            · rw [h3, show ((x2 - x2) * 2 + 0).toNat = 2 * 0 by omega, l.1, show 2 * (x2 + ((0 : Nat) : Int)) = 2 * x2 + 0 by omega]
            · rw [h3, show ((x2 - x2) * 2 + 1).toNat = 2 * 0 + 1 by omega, l.2, show 2 * (x2 + ((0 : Nat) : Int)) + 1 = 2 * x2 + 1 by omega]
          rw [e]
          have ho : o246 A x1 x2 x3 x4 = (mkS A x1 (2 * x2 + x3) x4, A) := by
            unfold o246
            rw [if_pos (by omega), if_pos (by omega), if_pos (by omega), if_pos (by omega)]
          rw [ho] at hK
          exact hK I2 hF hX2
        · have ho : o246 A x1 x2 x3 x4 = ((-1), A) := by
            unfold o246
            repeat' split
            all_goals first | (exfalso; omega) | with_reducible rfl
          rw [ho] at hK
          exact hK I (FK.refl I) (hX.up (Nat.le_succ n))
      · have ho : o246 A x1 x2 x3 x4 = ((-1), A) := by
          unfold o246
          repeat' split
          all_goals first | (exfalso; omega) | with_reducible rfl
        rw [ho] at hK
        exact hK I (FK.refl I) (hX.up (Nat.le_succ n))
    · have ho : o246 A x1 x2 x3 x4 = ((-1), A) := by
        unfold o246
        repeat' split
        all_goals first | (exfalso; omega) | with_reducible rfl
      rw [ho] at hK
      exact hK I (FK.refl I) (hX.up (Nat.le_succ n))
  · have ho : o246 A x1 x2 x3 x4 = ((-1), A) := by
      unfold o246
      repeat' split
      all_goals first | (exfalso; omega) | with_reducible rfl
    rw [ho] at hK
    exact hK I (FK.refl I) (hX.up (Nat.le_succ n))
set_option maxRecDepth 4000 in
theorem e21 {d L : Nat} {I : Nat → Nat → Int32} {R : Nat → Nat → Option Nat} {S : List (Nat × Nat)} {K : Int32 → mM → Prop} {A : aS} (hC : RC R S I A) {x1 : Int} {x2 : Int} {x3 : Int} {x4 : Int} {x5 : Int} (hE : inR x1 ∧ (inR (A 91 1 - 1) ∧ (((0 ≤ x1 ∧ x1 ≤ A 91 1 - 1) → inR x2 ∧ (((0 ≤ x2 ∧ x2 ≤ 799) → inR x3 ∧ (((0 ≤ x3 ∧ x3 ≤ 1) → inR x4 ∧ (((0 ≤ x4 ∧ x4 ≤ 7) → inR x5 ∧ (((0 ≤ x5 ∧ x5 ≤ 799) → WfA A ∧ (WnOk x2 x2 x5 ∧ (∀ (I20 : mI), (Fr [68] [(59, 13), (59, 14), (59, 15)] I I20) → (WnP I20 x2 x2 x5) → (ShP A I20 x2 x2 x5) → WfP A ∧ (WfC A ∧ ((0 ≤ x1 ∧ x1 < A 91 1) ∧ ((0 ≤ Int.tdiv x2 100 ∧ Int.tdiv x2 100 ≤ 7) ∧ ((0 ≤ ld I20 59 15 ∧ ld I20 59 15 ≤ 799) ∧ (∀ (I29 : mI), (Fr [60, 61, 69] [] I20 I29) → (∀ j : Nat, (j : Int) ≤ Int.tdiv x2 100 → ld I29 69 j = stS A x1 j (ld I20 59 15)) → ∃ f32 t33 n34 : Int, WnOk f32 t33 n34 ∧ WnP I29 f32 t33 n34 ∧ (∀ (I37 : mI), (Fr [62, 63, 64, 65, 66, 67] [(59, 16)] I29 I37) → (ld I37 59 16 = x1) → (LyP A I37 x1 f32 t33 n34) → (0 ≤ x3 ∧ x3 ≤ 1) ∧ ((0 ≤ x4 ∧ x4 ≤ 7) ∧ (∃ c43 f44 t45 n46 : Int, RgP A I37 c43 f44 t45 n46 ∧ (0 ≤ c43 ∧ c43 < A 91 1) ∧ (f44 ≤ x2 ∧ x2 ≤ t45) ∧ (∀ (I50 : mI), (Fr [60] [] I37 I50) → K (oI (qtS A c43 (Int.tdiv x2 100) (x2 - Int.tdiv x2 100 * 100) x3 x4 (ld I37 69 (Int.tdiv x2 100).toNat) n46)) (bd L I50 R S))))))))))))) ∧ (¬ (0 ≤ x5 ∧ x5 ≤ 799) → K (oI (-1)) (bd L I R S)))) ∧ (¬ (0 ≤ x4 ∧ x4 ≤ 7) → K (oI (-1)) (bd L I R S)))) ∧ (¬ (0 ≤ x3 ∧ x3 ≤ 1) → K (oI (-1)) (bd L I R S)))) ∧ (¬ (0 ≤ x2 ∧ x2 ≤ 799) → K (oI (-1)) (bd L I R S)))) ∧ (¬ (0 ≤ x1 ∧ x1 ≤ A 91 1 - 1) → K (oI (-1)) (bd L I R S))))) : CallI (d + 28) 21 [.ref 8, .int (oI x1), .int (oI x2), .int (oI x3), .int (oI x4), .int (oI x5)] (bd L I R S) K := by
  refine cI_of (ls := [.ref 8, .int (oI x1), .int (oI x2), .int (oI x3), .int (oI x4), .int (oI x5), mUn]) rfl ?_
  refine xG gb21.1 ?_
  refine s6 (p := 8) rfl ?_
  refine s4 (x := x1) rfl ?_
  refine sI rc7 rfl (Nat.le_of_ble_eq_true rfl) ?_
  refine cI_of (ls := [.ref 8, .int (oI x1)]) rfl ?_
  refine xG gb7 ?_
  refine s4 (x := x1) rfl ?_
  refine s0 ?_
  refine s6 (p := 8) rfl ?_
  refine s51 sh8 (by decide) (by decide) rf8_1 ?_
  refine s50 (v := A 91 1) sh21 (by decide) (by decide) (rdC hC.1 rfl) ?_
  refine s0 ?_
  refine s17 ?_
  obtain ⟨g1, hE⟩ := hE
  obtain ⟨g2, hE⟩ := hE
  refine sI rc3 rfl (Nat.le_of_ble_eq_true rfl) ?_
  refine k3 g1 (inRd rfl) g2 (fun c3 => ?_) (fun c3 => ?_)
  · replace hE := hE.1 c3
    refine s84 (by decide) ?_
    refine rqI_of ?_
    refine s67 (inRd rfl) (fun c4 => absurd c4 (by decide)) (fun _ => ?_)
    refine s4 (x := x2) rfl ?_
    refine sI rc13 rfl (Nat.le_of_ble_eq_true rfl) ?_
    refine cI_of (ls := [.int (oI x2)]) rfl ?_
    refine xG gb13 ?_
    refine s4 (x := x2) rfl ?_
    refine s0 ?_
    refine s0 ?_
    obtain ⟨g5, hE⟩ := hE
    refine sI rc3 rfl (Nat.le_of_ble_eq_true rfl) ?_
    refine k3 g5 (inRd rfl) (inRd rfl) (fun c6 => ?_) (fun c6 => ?_)
    · replace hE := hE.1 c6
      refine s84 (by decide) ?_
      refine rqI_of ?_
      refine s67 (inRd rfl) (fun c7 => absurd c7 (by decide)) (fun _ => ?_)
      refine s4 (x := x3) rfl ?_
      refine s0 ?_
      refine s0 ?_
      obtain ⟨g8, hE⟩ := hE
      refine sI rc3 rfl (Nat.le_of_ble_eq_true rfl) ?_
      refine k3 g8 (inRd rfl) (inRd rfl) (fun c9 => ?_) (fun c9 => ?_)
      · replace hE := hE.1 c9
        refine s67 (inRd rfl) (fun c10 => absurd c10 (by decide)) (fun _ => ?_)
        refine s4 (x := x4) rfl ?_
        refine sI rc22 rfl (Nat.le_of_ble_eq_true rfl) ?_
        refine cI_of (ls := [.int (oI x4)]) rfl ?_
        refine xG gb22 ?_
        refine s4 (x := x4) rfl ?_
        refine s0 ?_
        refine s0 ?_
        obtain ⟨g11, hE⟩ := hE
        refine sI rc3 rfl (Nat.le_of_ble_eq_true rfl) ?_
        refine k3 g11 (inRd rfl) (inRd rfl) (fun c12 => ?_) (fun c12 => ?_)
        · replace hE := hE.1 c12
          refine s84 (by decide) ?_
          refine rqI_of ?_
          refine s67 (inRd rfl) (fun c13 => absurd c13 (by decide)) (fun _ => ?_)
          refine s4 (x := x5) rfl ?_
          refine sI rc13 rfl (Nat.le_of_ble_eq_true rfl) ?_
          refine cI_of (ls := [.int (oI x5)]) rfl ?_
          refine xG gb13 ?_
          refine s4 (x := x5) rfl ?_
          refine s0 ?_
          refine s0 ?_
          obtain ⟨g14, hE⟩ := hE
          refine sI rc3 rfl (Nat.le_of_ble_eq_true rfl) ?_
          refine k3 g14 (inRd rfl) (inRd rfl) (fun c15 => ?_) (fun c15 => ?_)
          · replace hE := hE.1 c15
            refine s84 (by decide) ?_
            refine rqI_of ?_
            refine s67 (inRd rfl) (fun c16 => absurd c16 (by decide)) (fun _ => ?_)
            refine s0 ?_
            refine s60 ?_
            refine xG gb21.2.2.1 ?_
            refine s7 (ls' := [.ref 8, .int (oI x1), .int (oI x2), .int (oI x3), .int (oI x4), .int (oI x5), .int (oI 1)]) (Nat.le_of_ble_eq_true rfl) rfl ?_
            refine s4 (x := 1) rfl ?_
            refine s68 (inRd rfl) (fun c17 => absurd c17 (by decide)) (fun _ => ?_)
            refine xG gb21.2.2.2 ?_
            refine s6 (p := 8) rfl ?_
            refine s51 sh8 (by decide) (by decide) rf8_4 ?_
            refine s4 (x := x2) rfl ?_
            refine s4 (x := x2) rfl ?_
            refine s4 (x := x5) rfl ?_
            obtain ⟨g18, hE⟩ := hE
            obtain ⟨g19, hE⟩ := hE
            refine sV rc134 rfl (Nat.le_of_ble_eq_true rfl) ?_
            refine k134 hC g18 g19 (fun I20 q21 q22 q23 => ?_)
            replace hE := hE I20 q21 q22 q23
            refine s6 (p := 8) rfl ?_
            refine s51 sh8 (by decide) (by decide) rf8_4 ?_
            refine s4 (x := x1) rfl ?_
            refine s4 (x := x2) rfl ?_
            refine s0 ?_
            refine s19 g5 ⟨(inRd rfl), by decide⟩ ?_
            obtain ⟨g24, hE⟩ := hE
            obtain ⟨g25, hE⟩ := hE
            obtain ⟨g26, hE⟩ := hE
            obtain ⟨g27, hE⟩ := hE
            obtain ⟨g28, hE⟩ := hE
            refine sI rc142 rfl (Nat.le_of_ble_eq_true rfl) ?_
            refine k142 (RC.fr hC q21 rfl) g18 g24 g25 g26 g27 g28 (fun I29 q30 q31 => ?_)
            replace hE := hE I29 q30 q31
            refine s12i ?_
            refine s6 (p := 8) rfl ?_
            refine s51 sh8 (by decide) (by decide) rf8_4 ?_
            refine s4 (x := x1) rfl ?_
            obtain ⟨f32, t33, n34, k35, k36, hE⟩ := hE
            refine sV rc136 rfl (Nat.le_of_ble_eq_true rfl) ?_
            refine k136 (RC.fr (RC.fr hC q21 rfl) q30 rfl) k35 k36 g18 g26 (fun I37 q38 q39 q40 => ?_)
            replace hE := hE I37 q38 q39 q40
            refine s6 (p := 8) rfl ?_
            refine s51 sh8 (by decide) (by decide) rf8_4 ?_
            refine s4 (x := x2) rfl ?_
            refine s4 (x := x3) rfl ?_
            refine s4 (x := x4) rfl ?_
            obtain ⟨g41, hE⟩ := hE
            obtain ⟨g42, hE⟩ := hE
            obtain ⟨c43, f44, t45, n46, k47, k48, k49, hE⟩ := hE
            refine sI rc149 rfl (Nat.le_of_ble_eq_true rfl) ?_
            refine k149 (RC.fr (RC.fr (RC.fr hC q21 rfl) q30 rfl) q38 rfl) g18 g25 g24 k47 k48 k49 g41 g42 (fun I50 q51 => ?_)
            replace hE := hE I50 q51
            refine s80 ?_
            exact rqI_of hE
          · replace hE := hE.2 c15
            refine s84 (by decide) ?_
            refine rqI_of ?_
            refine s67 (inRd rfl) (fun _ => ?_) (fun c52 => absurd (by decide) c52)
            refine xG gb21.2.1 ?_
            refine s0 ?_
            refine s79 ?_
            refine xG gb21.2.2.1 ?_
            refine s7 (ls' := [.ref 8, .int (oI x1), .int (oI x2), .int (oI x3), .int (oI x4), .int (oI x5), .int (oI 0)]) (Nat.le_of_ble_eq_true rfl) rfl ?_
            refine s4 (x := 0) rfl ?_
            refine s68 (inRd rfl) (fun _ => ?_) (fun c53 => absurd (by decide) c53)
            refine s0 ?_
            refine s80 ?_
            exact rqI_of hE
        · replace hE := hE.2 c12
          refine s84 (by decide) ?_
          refine rqI_of ?_
          refine s67 (inRd rfl) (fun _ => ?_) (fun c54 => absurd (by decide) c54)
          refine xG gb21.2.1 ?_
          refine s0 ?_
          refine s79 ?_
          refine xG gb21.2.2.1 ?_
          refine s7 (ls' := [.ref 8, .int (oI x1), .int (oI x2), .int (oI x3), .int (oI x4), .int (oI x5), .int (oI 0)]) (Nat.le_of_ble_eq_true rfl) rfl ?_
          refine s4 (x := 0) rfl ?_
          refine s68 (inRd rfl) (fun _ => ?_) (fun c55 => absurd (by decide) c55)
          refine s0 ?_
          refine s80 ?_
          exact rqI_of hE
      · replace hE := hE.2 c9
        refine s67 (inRd rfl) (fun _ => ?_) (fun c56 => absurd (by decide) c56)
        refine xG gb21.2.1 ?_
        refine s0 ?_
        refine s79 ?_
        refine xG gb21.2.2.1 ?_
        refine s7 (ls' := [.ref 8, .int (oI x1), .int (oI x2), .int (oI x3), .int (oI x4), .int (oI x5), .int (oI 0)]) (Nat.le_of_ble_eq_true rfl) rfl ?_
        refine s4 (x := 0) rfl ?_
        refine s68 (inRd rfl) (fun _ => ?_) (fun c57 => absurd (by decide) c57)
        refine s0 ?_
        refine s80 ?_
        exact rqI_of hE
    · replace hE := hE.2 c6
      refine s84 (by decide) ?_
      refine rqI_of ?_
      refine s67 (inRd rfl) (fun _ => ?_) (fun c58 => absurd (by decide) c58)
      refine xG gb21.2.1 ?_
      refine s0 ?_
      refine s79 ?_
      refine xG gb21.2.2.1 ?_
      refine s7 (ls' := [.ref 8, .int (oI x1), .int (oI x2), .int (oI x3), .int (oI x4), .int (oI x5), .int (oI 0)]) (Nat.le_of_ble_eq_true rfl) rfl ?_
      refine s4 (x := 0) rfl ?_
      refine s68 (inRd rfl) (fun _ => ?_) (fun c59 => absurd (by decide) c59)
      refine s0 ?_
      refine s80 ?_
      exact rqI_of hE
  · replace hE := hE.2 c3
    refine s84 (by decide) ?_
    refine rqI_of ?_
    refine s67 (inRd rfl) (fun _ => ?_) (fun c60 => absurd (by decide) c60)
    refine xG gb21.2.1 ?_
    refine s0 ?_
    refine s79 ?_
    refine xG gb21.2.2.1 ?_
    refine s7 (ls' := [.ref 8, .int (oI x1), .int (oI x2), .int (oI x3), .int (oI x4), .int (oI x5), .int (oI 0)]) (Nat.le_of_ble_eq_true rfl) rfl ?_
    refine s4 (x := 0) rfl ?_
    refine s68 (inRd rfl) (fun _ => ?_) (fun c61 => absurd (by decide) c61)
    refine s0 ?_
    refine s80 ?_
    exact rqI_of hE
set_option maxRecDepth 4000 in
theorem q21 {d L n : Nat} {I : mI} {R : mR} {S : mSh} {A : aS} {K : Int32 → mM → Prop} {x1 : Int} {x2 : Int} {x3 : Int} {x4 : Int} {x5 : Int} (hX : CX R S I A n) (hW : WF A) (hn : n ≤ 100000) (rx1 : inR x1) (rx2 : inR x2) (rx3 : inR x3) (rx4 : inR x4) (rx5 : inR x5) (hK : ∀ I1, FK I I1 → CX R S I1 (o248 A x1 x2 x3 x4 x5).2 (n + 1) → K (oI (o248 A x1 x2 x3 x4 x5).1) (bd L I1 R S)) : CallI (d + 28) 21 [.ref 8, .int (oI x1), .int (oI x2), .int (oI x3), .int (oI x4), .int (oI x5)] (bd L I R S) K := by
  have hC := hX.1
  have hA := hW.1
  have w0 := hA.1
  have w1 := hA.2.1
  have w2 := hA.2.2.1
  have w3 : 0 ≤ A 91 3 ∧ A 91 3 ≤ 850 := hA.2.2.2.1
  have ty := today_year hA
  have c9 := hX.2.2.2.1
  refine e21 (d := d) hC ?_
  refine ⟨by first | assumption | exact inRd rfl | omega | exact ⟨by omega, by omega⟩ | (unfold WnOk; omega) | exact hW.1 | exact hW.2.1 | exact hW.2.2.1 | exact hW.2.2.2.1 | exact hW.2.2.2.2.1 | exact hW.2.2.2.2.2.2.2.2.2.1 | exact hW.2.2.2.2.2.2.2.2.2.2.1 | (constructor <;> omega), ?_⟩
  refine ⟨by first | assumption | exact inRd rfl | omega | exact ⟨by omega, by omega⟩ | (unfold WnOk; omega) | exact hW.1 | exact hW.2.1 | exact hW.2.2.1 | exact hW.2.2.2.1 | exact hW.2.2.2.2.1 | exact hW.2.2.2.2.2.2.2.2.2.1 | exact hW.2.2.2.2.2.2.2.2.2.2.1 | (constructor <;> omega), ?_⟩
  refine ⟨fun c1 => ?_, fun c1 => ?_⟩
  · refine ⟨by first | assumption | exact inRd rfl | omega | exact ⟨by omega, by omega⟩ | (unfold WnOk; omega) | exact hW.1 | exact hW.2.1 | exact hW.2.2.1 | exact hW.2.2.2.1 | exact hW.2.2.2.2.1 | exact hW.2.2.2.2.2.2.2.2.2.1 | exact hW.2.2.2.2.2.2.2.2.2.2.1 | (constructor <;> omega), ?_⟩
    refine ⟨fun c2 => ?_, fun c2 => ?_⟩
    · refine ⟨by first | assumption | exact inRd rfl | omega | exact ⟨by omega, by omega⟩ | (unfold WnOk; omega) | exact hW.1 | exact hW.2.1 | exact hW.2.2.1 | exact hW.2.2.2.1 | exact hW.2.2.2.2.1 | exact hW.2.2.2.2.2.2.2.2.2.1 | exact hW.2.2.2.2.2.2.2.2.2.2.1 | (constructor <;> omega), ?_⟩
      refine ⟨fun c3 => ?_, fun c3 => ?_⟩
      · refine ⟨by first | assumption | exact inRd rfl | omega | exact ⟨by omega, by omega⟩ | (unfold WnOk; omega) | exact hW.1 | exact hW.2.1 | exact hW.2.2.1 | exact hW.2.2.2.1 | exact hW.2.2.2.2.1 | exact hW.2.2.2.2.2.2.2.2.2.1 | exact hW.2.2.2.2.2.2.2.2.2.2.1 | (constructor <;> omega), ?_⟩
        refine ⟨fun c4 => ?_, fun c4 => ?_⟩
        · refine ⟨by first | assumption | exact inRd rfl | omega | exact ⟨by omega, by omega⟩ | (unfold WnOk; omega) | exact hW.1 | exact hW.2.1 | exact hW.2.2.1 | exact hW.2.2.2.1 | exact hW.2.2.2.2.1 | exact hW.2.2.2.2.2.2.2.2.2.1 | exact hW.2.2.2.2.2.2.2.2.2.2.1 | (constructor <;> omega), ?_⟩
          refine ⟨fun c5 => ?_, fun c5 => ?_⟩
          · refine ⟨by first | assumption | exact inRd rfl | omega | exact ⟨by omega, by omega⟩ | (unfold WnOk; omega) | exact hW.1 | exact hW.2.1 | exact hW.2.2.1 | exact hW.2.2.2.1 | exact hW.2.2.2.2.1 | exact hW.2.2.2.2.2.2.2.2.2.1 | exact hW.2.2.2.2.2.2.2.2.2.2.1 | (constructor <;> omega), ?_⟩
            refine ⟨by first | assumption | exact inRd rfl | omega | exact ⟨by omega, by omega⟩ | (unfold WnOk; omega) | exact hW.1 | exact hW.2.1 | exact hW.2.2.1 | exact hW.2.2.2.1 | exact hW.2.2.2.2.1 | exact hW.2.2.2.2.2.2.2.2.2.1 | exact hW.2.2.2.2.2.2.2.2.2.2.1 | (constructor <;> omega), ?_⟩
            intro I1 q1 p1 s1
            have e15 : ld I1 59 15 = x5 := p1.2.2
            have hy : 0 ≤ Int.tdiv x2 100 ∧ Int.tdiv x2 100 ≤ 7 := by exact ⟨Int.tdiv_nonneg (by omega) (by omega), by rw [Int.tdiv_eq_ediv_of_nonneg (by omega)]; omega⟩
            rw [e15]
            refine ⟨hW.2.1, hW.2.2.2.2.2.2.2.2.2.2.1, by omega, hy, by omega, ?_⟩
            intro I2 q2 t2
            refine ⟨x2, x2, x5, by unfold WnOk; omega, p1.fr q2 rfl rfl rfl, ?_⟩
            intro I3 q3 p3 l3
            have rg : RgP A I3 x1 (x2) (x2) x5 := ⟨by unfold WnOk; omega, (p1.fr q2 rfl rfl rfl).fr q3 rfl rfl rfl, (s1.fr q2 (fun _ => rfl)).fr q3 (fun _ => rfl), l3, p3⟩
            refine ⟨by omega, by omega, x1, x2, x2, x5, rg, by omega, by omega, ?_⟩
            intro I4 q4
            have e69 : ld I3 69 (Int.tdiv x2 100).toNat = stS A x1 (Int.tdiv x2 100) x5 := by
              rw [q3.ld rfl, t2 _ (by omega), show (((Int.tdiv x2 100).toNat : Nat) : Int) = Int.tdiv x2 100 by omega]
            rw [e69]
            have ho : o248 A x1 x2 x3 x4 x5 = (qtS A x1 (Int.tdiv x2 100) (x2 - Int.tdiv x2 100 * 100) x3 x4 (stS A x1 (Int.tdiv x2 100) x5) x5, A) := by
              unfold o248
              rw [if_pos (by omega), if_pos (by omega), if_pos (by omega), if_pos (by omega), if_pos (by omega), if_pos (by omega)]
            rw [ho] at hK
            exact hK I4 ((((Fr.FK q1 rfl).trans (Fr.FK q2 rfl)).trans (Fr.FK q3 rfl)).trans (Fr.FK q4 rfl)) (CX.up ((((hX.fr q1 rfl rfl).fr q2 rfl rfl).fr q3 rfl rfl).fr q4 rfl rfl) (Nat.le_succ n))
          · have ho : o248 A x1 x2 x3 x4 x5 = ((-1), A) := by
              unfold o248
              repeat' split
              all_goals first | (exfalso; omega) | with_reducible rfl
            rw [ho] at hK
            exact hK I (FK.refl I) (hX.up (Nat.le_succ n))
        · have ho : o248 A x1 x2 x3 x4 x5 = ((-1), A) := by
            unfold o248
            repeat' split
            all_goals first | (exfalso; omega) | with_reducible rfl
          rw [ho] at hK
          exact hK I (FK.refl I) (hX.up (Nat.le_succ n))
      · have ho : o248 A x1 x2 x3 x4 x5 = ((-1), A) := by
          unfold o248
          repeat' split
          all_goals first | (exfalso; omega) | with_reducible rfl
        rw [ho] at hK
        exact hK I (FK.refl I) (hX.up (Nat.le_succ n))
    · have ho : o248 A x1 x2 x3 x4 x5 = ((-1), A) := by
        unfold o248
        repeat' split
        all_goals first | (exfalso; omega) | with_reducible rfl
      rw [ho] at hK
      exact hK I (FK.refl I) (hX.up (Nat.le_succ n))
  · have ho : o248 A x1 x2 x3 x4 x5 = ((-1), A) := by
      unfold o248
      repeat' split
      all_goals first | (exfalso; omega) | with_reducible rfl
    rw [ho] at hK
    exact hK I (FK.refl I) (hX.up (Nat.le_succ n))
set_option maxRecDepth 4000 in
theorem e23 {d L : Nat} {I : Nat → Nat → Int32} {R : Nat → Nat → Option Nat} {S : List (Nat × Nat)} {K : Int32 → mM → Prop} {A : aS} (hC : RC R S I A) {x1 : Int} {x2 : Int} {x3 : Int} {x4 : Int} (hE : inR x1 ∧ (inR (A 91 1 - 1) ∧ (((0 ≤ x1 ∧ x1 ≤ A 91 1 - 1) → inR x2 ∧ (((0 ≤ x2 ∧ x2 ≤ 7) → inR x3 ∧ (((0 ≤ x3 ∧ x3 ≤ 7) → inR x4 ∧ (((0 ≤ x4 ∧ x4 ≤ 799) → WfA A ∧ (WnOk (x2 * 100) (((x2 * 100) + 100) - 1) x4 ∧ (∀ (I16 : mI), (Fr [68] [(59, 13), (59, 14), (59, 15)] I I16) → (WnP I16 (x2 * 100) (((x2 * 100) + 100) - 1) x4) → (ShP A I16 (x2 * 100) (((x2 * 100) + 100) - 1) x4) → WfP A ∧ (WfC A ∧ ((0 ≤ x1 ∧ x1 < A 91 1) ∧ ((0 ≤ x2 ∧ x2 ≤ 7) ∧ ((0 ≤ ld I16 59 15 ∧ ld I16 59 15 ≤ 799) ∧ (∀ (I25 : mI), (Fr [60, 61, 69] [] I16 I25) → (∀ j : Nat, (j : Int) ≤ x2 → ld I25 69 j = stS A x1 j (ld I16 59 15)) → ∃ f28 t29 n30 : Int, WnOk f28 t29 n30 ∧ WnP I25 f28 t29 n30 ∧ (∀ (I33 : mI), (Fr [62, 63, 64, 65, 66, 67] [(59, 16)] I25 I33) → (ld I33 59 16 = x1) → (LyP A I33 x1 f28 t29 n30) → (0 ≤ x3 ∧ x3 ≤ 7) ∧ (∃ c38 y39 n40 s41 : Int, RgP A I33 c38 (100 * y39) (100 * y39 + 99) n40 ∧ (0 ≤ c38 ∧ c38 < A 91 1) ∧ (0 ≤ y39 ∧ y39 ≤ 7) ∧ (ld I33 69 y39.toNat = s41) ∧ (∀ (I46 : mI), (Fr [60] [] I33 I46) → K (oI (yrS A c38 y39 x3 s41 n40)) (bd L I46 R S)))))))))))) ∧ (¬ (0 ≤ x4 ∧ x4 ≤ 799) → K (oI (-1)) (bd L I R S)))) ∧ (¬ (0 ≤ x3 ∧ x3 ≤ 7) → K (oI (-1)) (bd L I R S)))) ∧ (¬ (0 ≤ x2 ∧ x2 ≤ 7) → K (oI (-1)) (bd L I R S)))) ∧ (¬ (0 ≤ x1 ∧ x1 ≤ A 91 1 - 1) → K (oI (-1)) (bd L I R S))))) : CallI (d + 28) 23 [.ref 8, .int (oI x1), .int (oI x2), .int (oI x3), .int (oI x4)] (bd L I R S) K := by
  refine cI_of (ls := [.ref 8, .int (oI x1), .int (oI x2), .int (oI x3), .int (oI x4)]) rfl ?_
  refine xG gb23.1 ?_
  refine s6 (p := 8) rfl ?_
  refine s4 (x := x1) rfl ?_
  refine sI rc7 rfl (Nat.le_of_ble_eq_true rfl) ?_
  refine cI_of (ls := [.ref 8, .int (oI x1)]) rfl ?_
  refine xG gb7 ?_
  refine s4 (x := x1) rfl ?_
  refine s0 ?_
  refine s6 (p := 8) rfl ?_
  refine s51 sh8 (by decide) (by decide) rf8_1 ?_
  refine s50 (v := A 91 1) sh21 (by decide) (by decide) (rdC hC.1 rfl) ?_
  refine s0 ?_
  refine s17 ?_
  obtain ⟨g1, hE⟩ := hE
  obtain ⟨g2, hE⟩ := hE
  refine sI rc3 rfl (Nat.le_of_ble_eq_true rfl) ?_
  refine k3 g1 (inRd rfl) g2 (fun c3 => ?_) (fun c3 => ?_)
  · replace hE := hE.1 c3
    refine s84 (by decide) ?_
    refine rqI_of ?_
    refine s67 (inRd rfl) (fun c4 => absurd c4 (by decide)) (fun _ => ?_)
    refine s4 (x := x2) rfl ?_
    refine sI rc22 rfl (Nat.le_of_ble_eq_true rfl) ?_
    refine cI_of (ls := [.int (oI x2)]) rfl ?_
    refine xG gb22 ?_
    refine s4 (x := x2) rfl ?_
    refine s0 ?_
    refine s0 ?_
    obtain ⟨g5, hE⟩ := hE
    refine sI rc3 rfl (Nat.le_of_ble_eq_true rfl) ?_
    refine k3 g5 (inRd rfl) (inRd rfl) (fun c6 => ?_) (fun c6 => ?_)
    · replace hE := hE.1 c6
      refine s84 (by decide) ?_
      refine rqI_of ?_
      refine s67 (inRd rfl) (fun c7 => absurd c7 (by decide)) (fun _ => ?_)
      refine s4 (x := x3) rfl ?_
      refine sI rc22 rfl (Nat.le_of_ble_eq_true rfl) ?_
      refine cI_of (ls := [.int (oI x3)]) rfl ?_
      refine xG gb22 ?_
      refine s4 (x := x3) rfl ?_
      refine s0 ?_
      refine s0 ?_
      obtain ⟨g8, hE⟩ := hE
      refine sI rc3 rfl (Nat.le_of_ble_eq_true rfl) ?_
      refine k3 g8 (inRd rfl) (inRd rfl) (fun c9 => ?_) (fun c9 => ?_)
      · replace hE := hE.1 c9
        refine s84 (by decide) ?_
        refine rqI_of ?_
        refine s67 (inRd rfl) (fun c10 => absurd c10 (by decide)) (fun _ => ?_)
        refine s4 (x := x4) rfl ?_
        refine sI rc13 rfl (Nat.le_of_ble_eq_true rfl) ?_
        refine cI_of (ls := [.int (oI x4)]) rfl ?_
        refine xG gb13 ?_
        refine s4 (x := x4) rfl ?_
        refine s0 ?_
        refine s0 ?_
        obtain ⟨g11, hE⟩ := hE
        refine sI rc3 rfl (Nat.le_of_ble_eq_true rfl) ?_
        refine k3 g11 (inRd rfl) (inRd rfl) (fun c12 => ?_) (fun c12 => ?_)
        · replace hE := hE.1 c12
          refine s84 (by decide) ?_
          refine rqI_of ?_
          refine s68 (inRd rfl) (fun c13 => absurd c13 (by decide)) (fun _ => ?_)
          refine xG gb23.2.2 ?_
          refine s6 (p := 8) rfl ?_
          refine s51 sh8 (by decide) (by decide) rf8_4 ?_
          refine s4 (x := x2) rfl ?_
          refine s4 (x := x4) rfl ?_
          refine sV rc153 rfl (Nat.le_of_ble_eq_true rfl) ?_
          refine cV_of (ls := [.ref 59, .int (oI x2), .int (oI x4)]) rfl ?_
          refine xG gb153 ?_
          refine s6 (p := 59) rfl ?_
          refine s4 (x := x2) rfl ?_
          refine s0 ?_
          refine s18 ?_
          refine s4 (x := x2) rfl ?_
          refine s0 ?_
          refine s18 ?_
          refine s0 ?_
          refine s16 ?_
          refine s0 ?_
          refine s17 ?_
          refine s4 (x := x4) rfl ?_
          obtain ⟨g14, hE⟩ := hE
          obtain ⟨g15, hE⟩ := hE
          refine sV rc134 rfl (Nat.le_of_ble_eq_true rfl) ?_
          refine k134 hC g14 g15 (fun I16 q17 q18 q19 => ?_)
          replace hE := hE I16 q17 q18 q19
          refine s83 ?_
          refine rqV_of ?_
          refine s6 (p := 8) rfl ?_
          refine s51 sh8 (by decide) (by decide) rf8_4 ?_
          refine s4 (x := x1) rfl ?_
          refine s4 (x := x2) rfl ?_
          obtain ⟨g20, hE⟩ := hE
          obtain ⟨g21, hE⟩ := hE
          obtain ⟨g22, hE⟩ := hE
          obtain ⟨g23, hE⟩ := hE
          obtain ⟨g24, hE⟩ := hE
          refine sI rc142 rfl (Nat.le_of_ble_eq_true rfl) ?_
          refine k142 (RC.fr hC q17 rfl) g14 g20 g21 g22 g23 g24 (fun I25 q26 q27 => ?_)
          replace hE := hE I25 q26 q27
          refine s12i ?_
          refine s6 (p := 8) rfl ?_
          refine s51 sh8 (by decide) (by decide) rf8_4 ?_
          refine s4 (x := x1) rfl ?_
          obtain ⟨f28, t29, n30, k31, k32, hE⟩ := hE
          refine sV rc136 rfl (Nat.le_of_ble_eq_true rfl) ?_
          refine k136 (RC.fr (RC.fr hC q17 rfl) q26 rfl) k31 k32 g14 g22 (fun I33 q34 q35 q36 => ?_)
          replace hE := hE I33 q34 q35 q36
          refine s6 (p := 8) rfl ?_
          refine s51 sh8 (by decide) (by decide) rf8_4 ?_
          refine s4 (x := x3) rfl ?_
          obtain ⟨g37, hE⟩ := hE
          obtain ⟨c38, y39, n40, s41, k42, k43, k44, k45, hE⟩ := hE
          refine sI rc154 rfl (Nat.le_of_ble_eq_true rfl) ?_
          refine k154 (RC.fr (RC.fr (RC.fr hC q17 rfl) q26 rfl) q34 rfl) g14 g21 g20 k42 k43 k44 k45 g37 (fun I46 q47 => ?_)
          replace hE := hE I46 q47
          refine s80 ?_
          exact rqI_of hE
        · replace hE := hE.2 c12
          refine s84 (by decide) ?_
          refine rqI_of ?_
          refine s68 (inRd rfl) (fun _ => ?_) (fun c48 => absurd (by decide) c48)
          refine s79 ?_
          refine xG gb23.2.1 ?_
          refine s0 ?_
          refine s80 ?_
          exact rqI_of hE
      · replace hE := hE.2 c9
        refine s84 (by decide) ?_
        refine rqI_of ?_
        refine s67 (inRd rfl) (fun _ => ?_) (fun c49 => absurd (by decide) c49)
        refine xG gb23.2.1 ?_
        refine s0 ?_
        refine s80 ?_
        exact rqI_of hE
    · replace hE := hE.2 c6
      refine s84 (by decide) ?_
      refine rqI_of ?_
      refine s67 (inRd rfl) (fun _ => ?_) (fun c50 => absurd (by decide) c50)
      refine xG gb23.2.1 ?_
      refine s0 ?_
      refine s80 ?_
      exact rqI_of hE
  · replace hE := hE.2 c3
    refine s84 (by decide) ?_
    refine rqI_of ?_
    refine s67 (inRd rfl) (fun _ => ?_) (fun c51 => absurd (by decide) c51)
    refine xG gb23.2.1 ?_
    refine s0 ?_
    refine s80 ?_
    exact rqI_of hE
set_option maxRecDepth 4000 in
theorem q23 {d L n : Nat} {I : mI} {R : mR} {S : mSh} {A : aS} {K : Int32 → mM → Prop} {x1 : Int} {x2 : Int} {x3 : Int} {x4 : Int} (hX : CX R S I A n) (hW : WF A) (hn : n ≤ 100000) (rx1 : inR x1) (rx2 : inR x2) (rx3 : inR x3) (rx4 : inR x4) (hK : ∀ I1, FK I I1 → CX R S I1 (o255 A x1 x2 x3 x4).2 (n + 1) → K (oI (o255 A x1 x2 x3 x4).1) (bd L I1 R S)) : CallI (d + 28) 23 [.ref 8, .int (oI x1), .int (oI x2), .int (oI x3), .int (oI x4)] (bd L I R S) K := by
  have hC := hX.1
  have hA := hW.1
  have w0 := hA.1
  have w1 := hA.2.1
  have w2 := hA.2.2.1
  have w3 : 0 ≤ A 91 3 ∧ A 91 3 ≤ 850 := hA.2.2.2.1
  have ty := today_year hA
  have c9 := hX.2.2.2.1
  refine e23 (d := d) hC ?_
  refine ⟨by first | assumption | exact inRd rfl | omega | exact ⟨by omega, by omega⟩ | (unfold WnOk; omega) | exact hW.1 | exact hW.2.1 | exact hW.2.2.1 | exact hW.2.2.2.1 | exact hW.2.2.2.2.1 | exact hW.2.2.2.2.2.2.2.2.2.1 | exact hW.2.2.2.2.2.2.2.2.2.2.1 | (constructor <;> omega), ?_⟩
  refine ⟨by first | assumption | exact inRd rfl | omega | exact ⟨by omega, by omega⟩ | (unfold WnOk; omega) | exact hW.1 | exact hW.2.1 | exact hW.2.2.1 | exact hW.2.2.2.1 | exact hW.2.2.2.2.1 | exact hW.2.2.2.2.2.2.2.2.2.1 | exact hW.2.2.2.2.2.2.2.2.2.2.1 | (constructor <;> omega), ?_⟩
  refine ⟨fun c1 => ?_, fun c1 => ?_⟩
  · refine ⟨by first | assumption | exact inRd rfl | omega | exact ⟨by omega, by omega⟩ | (unfold WnOk; omega) | exact hW.1 | exact hW.2.1 | exact hW.2.2.1 | exact hW.2.2.2.1 | exact hW.2.2.2.2.1 | exact hW.2.2.2.2.2.2.2.2.2.1 | exact hW.2.2.2.2.2.2.2.2.2.2.1 | (constructor <;> omega), ?_⟩
    refine ⟨fun c2 => ?_, fun c2 => ?_⟩
    · refine ⟨by first | assumption | exact inRd rfl | omega | exact ⟨by omega, by omega⟩ | (unfold WnOk; omega) | exact hW.1 | exact hW.2.1 | exact hW.2.2.1 | exact hW.2.2.2.1 | exact hW.2.2.2.2.1 | exact hW.2.2.2.2.2.2.2.2.2.1 | exact hW.2.2.2.2.2.2.2.2.2.2.1 | (constructor <;> omega), ?_⟩
      refine ⟨fun c3 => ?_, fun c3 => ?_⟩
      · refine ⟨by first | assumption | exact inRd rfl | omega | exact ⟨by omega, by omega⟩ | (unfold WnOk; omega) | exact hW.1 | exact hW.2.1 | exact hW.2.2.1 | exact hW.2.2.2.1 | exact hW.2.2.2.2.1 | exact hW.2.2.2.2.2.2.2.2.2.1 | exact hW.2.2.2.2.2.2.2.2.2.2.1 | (constructor <;> omega), ?_⟩
        refine ⟨fun c4 => ?_, fun c4 => ?_⟩
        · refine ⟨by first | assumption | exact inRd rfl | omega | exact ⟨by omega, by omega⟩ | (unfold WnOk; omega) | exact hW.1 | exact hW.2.1 | exact hW.2.2.1 | exact hW.2.2.2.1 | exact hW.2.2.2.2.1 | exact hW.2.2.2.2.2.2.2.2.2.1 | exact hW.2.2.2.2.2.2.2.2.2.2.1 | (constructor <;> omega), ?_⟩
          refine ⟨by first | assumption | exact inRd rfl | omega | exact ⟨by omega, by omega⟩ | (unfold WnOk; omega) | exact hW.1 | exact hW.2.1 | exact hW.2.2.1 | exact hW.2.2.2.1 | exact hW.2.2.2.2.1 | exact hW.2.2.2.2.2.2.2.2.2.1 | exact hW.2.2.2.2.2.2.2.2.2.2.1 | (constructor <;> omega), ?_⟩
          intro I1 q1 p1 s1
          have e15 : ld I1 59 15 = x4 := p1.2.2
          have hy : 0 ≤ x2 ∧ x2 ≤ 7 := by omega
          rw [e15]
          refine ⟨hW.2.1, hW.2.2.2.2.2.2.2.2.2.2.1, by omega, hy, by omega, ?_⟩
          intro I2 q2 t2
          refine ⟨x2 * 100, x2 * 100 + 100 - 1, x4, by unfold WnOk; omega, p1.fr q2 rfl rfl rfl, ?_⟩
          intro I3 q3 p3 l3
          have rg : RgP A I3 x1 (x2 * 100) (x2 * 100 + 100 - 1) x4 := ⟨by unfold WnOk; omega, (p1.fr q2 rfl rfl rfl).fr q3 rfl rfl rfl, (s1.fr q2 (fun _ => rfl)).fr q3 (fun _ => rfl), l3, p3⟩
          rw [show x2 * 100 + 100 - 1 = 100 * x2 + 99 by omega, show x2 * 100 = 100 * x2 by omega] at rg
          refine ⟨by omega, x1, x2, x4, stS A x1 x2 x4, rg, by omega, by omega, ?_, ?_⟩
          · rw [q3.ld rfl, t2 _ (by omega), show ((x2.toNat : Nat) : Int) = x2 by omega]
          intro I4 q4
          have ho : o255 A x1 x2 x3 x4 = (yrS A x1 x2 x3 (stS A x1 x2 x4) x4, A) := by
            unfold o255
            rw [if_pos (by omega), if_pos (by omega), if_pos (by omega), if_pos (by omega)]
          rw [ho] at hK
          exact hK I4 ((((Fr.FK q1 rfl).trans (Fr.FK q2 rfl)).trans (Fr.FK q3 rfl)).trans (Fr.FK q4 rfl)) (CX.up ((((hX.fr q1 rfl rfl).fr q2 rfl rfl).fr q3 rfl rfl).fr q4 rfl rfl) (Nat.le_succ n))
        · have ho : o255 A x1 x2 x3 x4 = ((-1), A) := by
            unfold o255
            repeat' split
            all_goals first | (exfalso; omega) | with_reducible rfl
          rw [ho] at hK
          exact hK I (FK.refl I) (hX.up (Nat.le_succ n))
      · have ho : o255 A x1 x2 x3 x4 = ((-1), A) := by
          unfold o255
          repeat' split
          all_goals first | (exfalso; omega) | with_reducible rfl
        rw [ho] at hK
        exact hK I (FK.refl I) (hX.up (Nat.le_succ n))
    · have ho : o255 A x1 x2 x3 x4 = ((-1), A) := by
        unfold o255
        repeat' split
        all_goals first | (exfalso; omega) | with_reducible rfl
      rw [ho] at hK
      exact hK I (FK.refl I) (hX.up (Nat.le_succ n))
  · have ho : o255 A x1 x2 x3 x4 = ((-1), A) := by
      unfold o255
      repeat' split
      all_goals first | (exfalso; omega) | with_reducible rfl
    rw [ho] at hK
    exact hK I (FK.refl I) (hX.up (Nat.le_succ n))
set_option maxRecDepth 4000 in
theorem e24 {d L : Nat} {I : Nat → Nat → Int32} {R : Nat → Nat → Option Nat} {S : List (Nat × Nat)} {K : Int32 → mM → Prop} {A : aS} (hC : RC R S I A) {x1 : Int} {x2 : Int} {x3 : Int} (hE : inR x1 ∧ (inR (A 91 1 - 1) ∧ (((0 ≤ x1 ∧ x1 ≤ A 91 1 - 1) → inR x2 ∧ (((0 ≤ x2 ∧ x2 ≤ 7) → inR x3 ∧ (((0 ≤ x3 ∧ x3 ≤ 799) → WfA A ∧ (WnOk (x2 * 100) (((x2 * 100) + 100) - 1) x3 ∧ (∀ (I13 : mI), (Fr [68] [(59, 13), (59, 14), (59, 15)] I I13) → (WnP I13 (x2 * 100) (((x2 * 100) + 100) - 1) x3) → (ShP A I13 (x2 * 100) (((x2 * 100) + 100) - 1) x3) → WfP A ∧ (WfC A ∧ ((0 ≤ x1 ∧ x1 < A 91 1) ∧ ((0 ≤ x2 ∧ x2 ≤ 7) ∧ ((0 ≤ ld I13 59 15 ∧ ld I13 59 15 ≤ 799) ∧ (∀ (I22 : mI), (Fr [60, 61, 69] [] I13 I22) → (∀ j : Nat, (j : Int) ≤ x2 → ld I22 69 j = stS A x1 j (ld I13 59 15)) → K (oI (stS A x1 x2 (ld I13 59 15))) (bd L I22 R S))))))))) ∧ (¬ (0 ≤ x3 ∧ x3 ≤ 799) → K (oI (-1)) (bd L I R S)))) ∧ (¬ (0 ≤ x2 ∧ x2 ≤ 7) → K (oI (-1)) (bd L I R S)))) ∧ (¬ (0 ≤ x1 ∧ x1 ≤ A 91 1 - 1) → K (oI (-1)) (bd L I R S))))) : CallI (d + 28) 24 [.ref 8, .int (oI x1), .int (oI x2), .int (oI x3)] (bd L I R S) K := by
  refine cI_of (ls := [.ref 8, .int (oI x1), .int (oI x2), .int (oI x3)]) rfl ?_
  refine xG gb24.1 ?_
  refine s6 (p := 8) rfl ?_
  refine s4 (x := x1) rfl ?_
  refine sI rc7 rfl (Nat.le_of_ble_eq_true rfl) ?_
  refine cI_of (ls := [.ref 8, .int (oI x1)]) rfl ?_
  refine xG gb7 ?_
  refine s4 (x := x1) rfl ?_
  refine s0 ?_
  refine s6 (p := 8) rfl ?_
  refine s51 sh8 (by decide) (by decide) rf8_1 ?_
  refine s50 (v := A 91 1) sh21 (by decide) (by decide) (rdC hC.1 rfl) ?_
  refine s0 ?_
  refine s17 ?_
  obtain ⟨g1, hE⟩ := hE
  obtain ⟨g2, hE⟩ := hE
  refine sI rc3 rfl (Nat.le_of_ble_eq_true rfl) ?_
  refine k3 g1 (inRd rfl) g2 (fun c3 => ?_) (fun c3 => ?_)
  · replace hE := hE.1 c3
    refine s84 (by decide) ?_
    refine rqI_of ?_
    refine s67 (inRd rfl) (fun c4 => absurd c4 (by decide)) (fun _ => ?_)
    refine s4 (x := x2) rfl ?_
    refine sI rc22 rfl (Nat.le_of_ble_eq_true rfl) ?_
    refine cI_of (ls := [.int (oI x2)]) rfl ?_
    refine xG gb22 ?_
    refine s4 (x := x2) rfl ?_
    refine s0 ?_
    refine s0 ?_
    obtain ⟨g5, hE⟩ := hE
    refine sI rc3 rfl (Nat.le_of_ble_eq_true rfl) ?_
    refine k3 g5 (inRd rfl) (inRd rfl) (fun c6 => ?_) (fun c6 => ?_)
    · replace hE := hE.1 c6
      refine s84 (by decide) ?_
      refine rqI_of ?_
      refine s67 (inRd rfl) (fun c7 => absurd c7 (by decide)) (fun _ => ?_)
      refine s4 (x := x3) rfl ?_
      refine sI rc13 rfl (Nat.le_of_ble_eq_true rfl) ?_
      refine cI_of (ls := [.int (oI x3)]) rfl ?_
      refine xG gb13 ?_
      refine s4 (x := x3) rfl ?_
      refine s0 ?_
      refine s0 ?_
      obtain ⟨g8, hE⟩ := hE
      refine sI rc3 rfl (Nat.le_of_ble_eq_true rfl) ?_
      refine k3 g8 (inRd rfl) (inRd rfl) (fun c9 => ?_) (fun c9 => ?_)
      · replace hE := hE.1 c9
        refine s84 (by decide) ?_
        refine rqI_of ?_
        refine s68 (inRd rfl) (fun c10 => absurd c10 (by decide)) (fun _ => ?_)
        refine xG gb24.2.2 ?_
        refine s6 (p := 8) rfl ?_
        refine s51 sh8 (by decide) (by decide) rf8_4 ?_
        refine s4 (x := x2) rfl ?_
        refine s4 (x := x3) rfl ?_
        refine sV rc153 rfl (Nat.le_of_ble_eq_true rfl) ?_
        refine cV_of (ls := [.ref 59, .int (oI x2), .int (oI x3)]) rfl ?_
        refine xG gb153 ?_
        refine s6 (p := 59) rfl ?_
        refine s4 (x := x2) rfl ?_
        refine s0 ?_
        refine s18 ?_
        refine s4 (x := x2) rfl ?_
        refine s0 ?_
        refine s18 ?_
        refine s0 ?_
        refine s16 ?_
        refine s0 ?_
        refine s17 ?_
        refine s4 (x := x3) rfl ?_
        obtain ⟨g11, hE⟩ := hE
        obtain ⟨g12, hE⟩ := hE
        refine sV rc134 rfl (Nat.le_of_ble_eq_true rfl) ?_
        refine k134 hC g11 g12 (fun I13 q14 q15 q16 => ?_)
        replace hE := hE I13 q14 q15 q16
        refine s83 ?_
        refine rqV_of ?_
        refine s6 (p := 8) rfl ?_
        refine s51 sh8 (by decide) (by decide) rf8_4 ?_
        refine s4 (x := x1) rfl ?_
        refine s4 (x := x2) rfl ?_
        obtain ⟨g17, hE⟩ := hE
        obtain ⟨g18, hE⟩ := hE
        obtain ⟨g19, hE⟩ := hE
        obtain ⟨g20, hE⟩ := hE
        obtain ⟨g21, hE⟩ := hE
        refine sI rc142 rfl (Nat.le_of_ble_eq_true rfl) ?_
        refine k142 (RC.fr hC q14 rfl) g11 g17 g18 g19 g20 g21 (fun I22 q23 q24 => ?_)
        replace hE := hE I22 q23 q24
        refine s80 ?_
        exact rqI_of hE
      · replace hE := hE.2 c9
        refine s84 (by decide) ?_
        refine rqI_of ?_
        refine s68 (inRd rfl) (fun _ => ?_) (fun c25 => absurd (by decide) c25)
        refine s79 ?_
        refine xG gb24.2.1 ?_
        refine s0 ?_
        refine s80 ?_
        exact rqI_of hE
    · replace hE := hE.2 c6
      refine s84 (by decide) ?_
      refine rqI_of ?_
      refine s67 (inRd rfl) (fun _ => ?_) (fun c26 => absurd (by decide) c26)
      refine xG gb24.2.1 ?_
      refine s0 ?_
      refine s80 ?_
      exact rqI_of hE
  · replace hE := hE.2 c3
    refine s84 (by decide) ?_
    refine rqI_of ?_
    refine s67 (inRd rfl) (fun _ => ?_) (fun c27 => absurd (by decide) c27)
    refine xG gb24.2.1 ?_
    refine s0 ?_
    refine s80 ?_
    exact rqI_of hE
set_option maxRecDepth 4000 in
theorem q24 {d L n : Nat} {I : mI} {R : mR} {S : mSh} {A : aS} {K : Int32 → mM → Prop} {x1 : Int} {x2 : Int} {x3 : Int} (hX : CX R S I A n) (hW : WF A) (hn : n ≤ 100000) (rx1 : inR x1) (rx2 : inR x2) (rx3 : inR x3) (hK : ∀ I1, FK I I1 → CX R S I1 (o257 A x1 x2 x3).2 (n + 1) → K (oI (o257 A x1 x2 x3).1) (bd L I1 R S)) : CallI (d + 28) 24 [.ref 8, .int (oI x1), .int (oI x2), .int (oI x3)] (bd L I R S) K := by
  have hC := hX.1
  have hA := hW.1
  have w0 := hA.1
  have w1 := hA.2.1
  have w2 := hA.2.2.1
  have w3 : 0 ≤ A 91 3 ∧ A 91 3 ≤ 850 := hA.2.2.2.1
  have ty := today_year hA
  have c9 := hX.2.2.2.1
  refine e24 (d := d) hC ?_
  refine ⟨by first | assumption | exact inRd rfl | omega | exact ⟨by omega, by omega⟩ | (unfold WnOk; omega) | exact hW.1 | exact hW.2.1 | exact hW.2.2.1 | exact hW.2.2.2.1 | exact hW.2.2.2.2.1 | exact hW.2.2.2.2.2.2.2.2.2.1 | exact hW.2.2.2.2.2.2.2.2.2.2.1 | (constructor <;> omega), ?_⟩
  refine ⟨by first | assumption | exact inRd rfl | omega | exact ⟨by omega, by omega⟩ | (unfold WnOk; omega) | exact hW.1 | exact hW.2.1 | exact hW.2.2.1 | exact hW.2.2.2.1 | exact hW.2.2.2.2.1 | exact hW.2.2.2.2.2.2.2.2.2.1 | exact hW.2.2.2.2.2.2.2.2.2.2.1 | (constructor <;> omega), ?_⟩
  refine ⟨fun c1 => ?_, fun c1 => ?_⟩
  · refine ⟨by first | assumption | exact inRd rfl | omega | exact ⟨by omega, by omega⟩ | (unfold WnOk; omega) | exact hW.1 | exact hW.2.1 | exact hW.2.2.1 | exact hW.2.2.2.1 | exact hW.2.2.2.2.1 | exact hW.2.2.2.2.2.2.2.2.2.1 | exact hW.2.2.2.2.2.2.2.2.2.2.1 | (constructor <;> omega), ?_⟩
    refine ⟨fun c2 => ?_, fun c2 => ?_⟩
    · refine ⟨by first | assumption | exact inRd rfl | omega | exact ⟨by omega, by omega⟩ | (unfold WnOk; omega) | exact hW.1 | exact hW.2.1 | exact hW.2.2.1 | exact hW.2.2.2.1 | exact hW.2.2.2.2.1 | exact hW.2.2.2.2.2.2.2.2.2.1 | exact hW.2.2.2.2.2.2.2.2.2.2.1 | (constructor <;> omega), ?_⟩
      refine ⟨fun c3 => ?_, fun c3 => ?_⟩
      · refine ⟨by first | assumption | exact inRd rfl | omega | exact ⟨by omega, by omega⟩ | (unfold WnOk; omega) | exact hW.1 | exact hW.2.1 | exact hW.2.2.1 | exact hW.2.2.2.1 | exact hW.2.2.2.2.1 | exact hW.2.2.2.2.2.2.2.2.2.1 | exact hW.2.2.2.2.2.2.2.2.2.2.1 | (constructor <;> omega), ?_⟩
        refine ⟨by first | assumption | exact inRd rfl | omega | exact ⟨by omega, by omega⟩ | (unfold WnOk; omega) | exact hW.1 | exact hW.2.1 | exact hW.2.2.1 | exact hW.2.2.2.1 | exact hW.2.2.2.2.1 | exact hW.2.2.2.2.2.2.2.2.2.1 | exact hW.2.2.2.2.2.2.2.2.2.2.1 | (constructor <;> omega), ?_⟩
        intro I1 q1 p1 s1
        have e15 : ld I1 59 15 = x3 := p1.2.2
        have hy : 0 ≤ x2 ∧ x2 ≤ 7 := by omega
        rw [e15]
        refine ⟨hW.2.1, hW.2.2.2.2.2.2.2.2.2.2.1, by omega, hy, by omega, ?_⟩
        intro I2 q2 t2
        have ho : o257 A x1 x2 x3 = (stS A x1 x2 x3, A) := by
          unfold o257
          rw [if_pos (by omega), if_pos (by omega), if_pos (by omega), if_pos (by omega)]
        rw [ho] at hK
        exact hK I2 ((Fr.FK q1 rfl).trans (Fr.FK q2 rfl)) (CX.up ((hX.fr q1 rfl rfl).fr q2 rfl rfl) (Nat.le_succ n))
      · have ho : o257 A x1 x2 x3 = ((-1), A) := by
          unfold o257
          repeat' split
          all_goals first | (exfalso; omega) | with_reducible rfl
        rw [ho] at hK
        exact hK I (FK.refl I) (hX.up (Nat.le_succ n))
    · have ho : o257 A x1 x2 x3 = ((-1), A) := by
        unfold o257
        repeat' split
        all_goals first | (exfalso; omega) | with_reducible rfl
      rw [ho] at hK
      exact hK I (FK.refl I) (hX.up (Nat.le_succ n))
  · have ho : o257 A x1 x2 x3 = ((-1), A) := by
      unfold o257
      repeat' split
      all_goals first | (exfalso; omega) | with_reducible rfl
    rw [ho] at hK
    exact hK I (FK.refl I) (hX.up (Nat.le_succ n))
set_option maxRecDepth 4000 in
theorem e25 {d L : Nat} {I : Nat → Nat → Int32} {R : Nat → Nat → Option Nat} {S : List (Nat × Nat)} {K : Int32 → mM → Prop} {A : aS} (hC : RC R S I A) {x1 : Int} {x2 : Int} {x3 : Int} {x4 : Int} (hE : inR x1 ∧ (inR (A 91 1 - 1) ∧ (((0 ≤ x1 ∧ x1 ≤ A 91 1 - 1) → inR x2 ∧ (((0 ≤ x2 ∧ x2 ≤ 7) → inR x3 ∧ (((0 ≤ x3 ∧ x3 ≤ 7) → inR x4 ∧ (((0 ≤ x4 ∧ x4 ≤ 799) → WfA A ∧ (WnOk (x2 * 100) (((x2 * 100) + 100) - 1) x4 ∧ (∀ (I16 : mI), (Fr [68] [(59, 13), (59, 14), (59, 15)] I I16) → (WnP I16 (x2 * 100) (((x2 * 100) + 100) - 1) x4) → (ShP A I16 (x2 * 100) (((x2 * 100) + 100) - 1) x4) → WfP A ∧ (WfC A ∧ ((0 ≤ x1 ∧ x1 < A 91 1) ∧ ((0 ≤ x2 ∧ x2 ≤ 7) ∧ ((0 ≤ ld I16 59 15 ∧ ld I16 59 15 ≤ 799) ∧ (∀ (I25 : mI), (Fr [60, 61, 69] [] I16 I25) → (∀ j : Nat, (j : Int) ≤ x2 → ld I25 69 j = stS A x1 j (ld I16 59 15)) → (0 ≤ x3 ∧ x3 ≤ 7) ∧ (inR (stS A x1 x2 (ld I16 59 15)) ∧ ((0 ≤ ld I25 59 15 ∧ ld I25 59 15 ≤ 799) ∧ (∀ (I31 : mI), (Fr [60, 61] [] I25 I31) → (EnvC 60 I31 (psE A x1 x2 (stS A x1 x2 (ld I16 59 15)) (ld I25 59 15))) → (∀ j : Nat, j < 6 → ld I31 61 j = rsS A x1 x2 j (ld I25 59 15)) → K (oI (psS A x1 x2 x3 (stS A x1 x2 (ld I16 59 15)) (ld I25 59 15))) (bd L I31 R S)))))))))))) ∧ (¬ (0 ≤ x4 ∧ x4 ≤ 799) → K (oI (-1)) (bd L I R S)))) ∧ (¬ (0 ≤ x3 ∧ x3 ≤ 7) → K (oI (-1)) (bd L I R S)))) ∧ (¬ (0 ≤ x2 ∧ x2 ≤ 7) → K (oI (-1)) (bd L I R S)))) ∧ (¬ (0 ≤ x1 ∧ x1 ≤ A 91 1 - 1) → K (oI (-1)) (bd L I R S))))) : CallI (d + 28) 25 [.ref 8, .int (oI x1), .int (oI x2), .int (oI x3), .int (oI x4)] (bd L I R S) K := by
  refine cI_of (ls := [.ref 8, .int (oI x1), .int (oI x2), .int (oI x3), .int (oI x4)]) rfl ?_
  refine xG gb25.1 ?_
  refine s6 (p := 8) rfl ?_
  refine s4 (x := x1) rfl ?_
  refine sI rc7 rfl (Nat.le_of_ble_eq_true rfl) ?_
  refine cI_of (ls := [.ref 8, .int (oI x1)]) rfl ?_
  refine xG gb7 ?_
  refine s4 (x := x1) rfl ?_
  refine s0 ?_
  refine s6 (p := 8) rfl ?_
  refine s51 sh8 (by decide) (by decide) rf8_1 ?_
  refine s50 (v := A 91 1) sh21 (by decide) (by decide) (rdC hC.1 rfl) ?_
  refine s0 ?_
  refine s17 ?_
  obtain ⟨g1, hE⟩ := hE
  obtain ⟨g2, hE⟩ := hE
  refine sI rc3 rfl (Nat.le_of_ble_eq_true rfl) ?_
  refine k3 g1 (inRd rfl) g2 (fun c3 => ?_) (fun c3 => ?_)
  · replace hE := hE.1 c3
    refine s84 (by decide) ?_
    refine rqI_of ?_
    refine s67 (inRd rfl) (fun c4 => absurd c4 (by decide)) (fun _ => ?_)
    refine s4 (x := x2) rfl ?_
    refine sI rc22 rfl (Nat.le_of_ble_eq_true rfl) ?_
    refine cI_of (ls := [.int (oI x2)]) rfl ?_
    refine xG gb22 ?_
    refine s4 (x := x2) rfl ?_
    refine s0 ?_
    refine s0 ?_
    obtain ⟨g5, hE⟩ := hE
    refine sI rc3 rfl (Nat.le_of_ble_eq_true rfl) ?_
    refine k3 g5 (inRd rfl) (inRd rfl) (fun c6 => ?_) (fun c6 => ?_)
    · replace hE := hE.1 c6
      refine s84 (by decide) ?_
      refine rqI_of ?_
      refine s67 (inRd rfl) (fun c7 => absurd c7 (by decide)) (fun _ => ?_)
      refine s4 (x := x3) rfl ?_
      refine sI rc22 rfl (Nat.le_of_ble_eq_true rfl) ?_
      refine cI_of (ls := [.int (oI x3)]) rfl ?_
      refine xG gb22 ?_
      refine s4 (x := x3) rfl ?_
      refine s0 ?_
      refine s0 ?_
      obtain ⟨g8, hE⟩ := hE
      refine sI rc3 rfl (Nat.le_of_ble_eq_true rfl) ?_
      refine k3 g8 (inRd rfl) (inRd rfl) (fun c9 => ?_) (fun c9 => ?_)
      · replace hE := hE.1 c9
        refine s84 (by decide) ?_
        refine rqI_of ?_
        refine s67 (inRd rfl) (fun c10 => absurd c10 (by decide)) (fun _ => ?_)
        refine s4 (x := x4) rfl ?_
        refine sI rc13 rfl (Nat.le_of_ble_eq_true rfl) ?_
        refine cI_of (ls := [.int (oI x4)]) rfl ?_
        refine xG gb13 ?_
        refine s4 (x := x4) rfl ?_
        refine s0 ?_
        refine s0 ?_
        obtain ⟨g11, hE⟩ := hE
        refine sI rc3 rfl (Nat.le_of_ble_eq_true rfl) ?_
        refine k3 g11 (inRd rfl) (inRd rfl) (fun c12 => ?_) (fun c12 => ?_)
        · replace hE := hE.1 c12
          refine s84 (by decide) ?_
          refine rqI_of ?_
          refine s68 (inRd rfl) (fun c13 => absurd c13 (by decide)) (fun _ => ?_)
          refine xG gb25.2.2 ?_
          refine s6 (p := 8) rfl ?_
          refine s51 sh8 (by decide) (by decide) rf8_4 ?_
          refine s4 (x := x2) rfl ?_
          refine s4 (x := x4) rfl ?_
          refine sV rc153 rfl (Nat.le_of_ble_eq_true rfl) ?_
          refine cV_of (ls := [.ref 59, .int (oI x2), .int (oI x4)]) rfl ?_
          refine xG gb153 ?_
          refine s6 (p := 59) rfl ?_
          refine s4 (x := x2) rfl ?_
          refine s0 ?_
          refine s18 ?_
          refine s4 (x := x2) rfl ?_
          refine s0 ?_
          refine s18 ?_
          refine s0 ?_
          refine s16 ?_
          refine s0 ?_
          refine s17 ?_
          refine s4 (x := x4) rfl ?_
          obtain ⟨g14, hE⟩ := hE
          obtain ⟨g15, hE⟩ := hE
          refine sV rc134 rfl (Nat.le_of_ble_eq_true rfl) ?_
          refine k134 hC g14 g15 (fun I16 q17 q18 q19 => ?_)
          replace hE := hE I16 q17 q18 q19
          refine s83 ?_
          refine rqV_of ?_
          refine s6 (p := 8) rfl ?_
          refine s51 sh8 (by decide) (by decide) rf8_4 ?_
          refine s4 (x := x1) rfl ?_
          refine s4 (x := x2) rfl ?_
          refine s4 (x := x3) rfl ?_
          refine s6 (p := 8) rfl ?_
          refine s51 sh8 (by decide) (by decide) rf8_4 ?_
          refine s4 (x := x1) rfl ?_
          refine s4 (x := x2) rfl ?_
          obtain ⟨g20, hE⟩ := hE
          obtain ⟨g21, hE⟩ := hE
          obtain ⟨g22, hE⟩ := hE
          obtain ⟨g23, hE⟩ := hE
          obtain ⟨g24, hE⟩ := hE
          refine sI rc142 rfl (Nat.le_of_ble_eq_true rfl) ?_
          refine k142 (RC.fr hC q17 rfl) g14 g20 g21 g22 g23 g24 (fun I25 q26 q27 => ?_)
          replace hE := hE I25 q26 q27
          obtain ⟨g28, hE⟩ := hE
          obtain ⟨g29, hE⟩ := hE
          obtain ⟨g30, hE⟩ := hE
          refine sI rc143 rfl (Nat.le_of_ble_eq_true rfl) ?_
          refine k143 (RC.fr (RC.fr hC q17 rfl) q26 rfl) g14 g20 g21 g22 g23 g28 g29 g30 (fun I31 q32 q33 q34 => ?_)
          replace hE := hE I31 q32 q33 q34
          refine s80 ?_
          exact rqI_of hE
        · replace hE := hE.2 c12
          refine s84 (by decide) ?_
          refine rqI_of ?_
          refine s68 (inRd rfl) (fun _ => ?_) (fun c35 => absurd (by decide) c35)
          refine s79 ?_
          refine xG gb25.2.1 ?_
          refine s0 ?_
          refine s80 ?_
          exact rqI_of hE
      · replace hE := hE.2 c9
        refine s84 (by decide) ?_
        refine rqI_of ?_
        refine s67 (inRd rfl) (fun _ => ?_) (fun c36 => absurd (by decide) c36)
        refine xG gb25.2.1 ?_
        refine s0 ?_
        refine s80 ?_
        exact rqI_of hE
    · replace hE := hE.2 c6
      refine s84 (by decide) ?_
      refine rqI_of ?_
      refine s67 (inRd rfl) (fun _ => ?_) (fun c37 => absurd (by decide) c37)
      refine xG gb25.2.1 ?_
      refine s0 ?_
      refine s80 ?_
      exact rqI_of hE
  · replace hE := hE.2 c3
    refine s84 (by decide) ?_
    refine rqI_of ?_
    refine s67 (inRd rfl) (fun _ => ?_) (fun c38 => absurd (by decide) c38)
    refine xG gb25.2.1 ?_
    refine s0 ?_
    refine s80 ?_
    exact rqI_of hE
set_option maxRecDepth 4000 in
theorem q25 {d L n : Nat} {I : mI} {R : mR} {S : mSh} {A : aS} {K : Int32 → mM → Prop} {x1 : Int} {x2 : Int} {x3 : Int} {x4 : Int} (hX : CX R S I A n) (hW : WF A) (hn : n ≤ 100000) (rx1 : inR x1) (rx2 : inR x2) (rx3 : inR x3) (rx4 : inR x4) (hK : ∀ I1, FK I I1 → CX R S I1 (o258 A x1 x2 x3 x4).2 (n + 1) → K (oI (o258 A x1 x2 x3 x4).1) (bd L I1 R S)) : CallI (d + 28) 25 [.ref 8, .int (oI x1), .int (oI x2), .int (oI x3), .int (oI x4)] (bd L I R S) K := by
  have hC := hX.1
  have hA := hW.1
  have w0 := hA.1
  have w1 := hA.2.1
  have w2 := hA.2.2.1
  have w3 : 0 ≤ A 91 3 ∧ A 91 3 ≤ 850 := hA.2.2.2.1
  have ty := today_year hA
  have c9 := hX.2.2.2.1
  refine e25 (d := d) hC ?_
  refine ⟨by first | assumption | exact inRd rfl | omega | exact ⟨by omega, by omega⟩ | (unfold WnOk; omega) | exact hW.1 | exact hW.2.1 | exact hW.2.2.1 | exact hW.2.2.2.1 | exact hW.2.2.2.2.1 | exact hW.2.2.2.2.2.2.2.2.2.1 | exact hW.2.2.2.2.2.2.2.2.2.2.1 | (constructor <;> omega), ?_⟩
  refine ⟨by first | assumption | exact inRd rfl | omega | exact ⟨by omega, by omega⟩ | (unfold WnOk; omega) | exact hW.1 | exact hW.2.1 | exact hW.2.2.1 | exact hW.2.2.2.1 | exact hW.2.2.2.2.1 | exact hW.2.2.2.2.2.2.2.2.2.1 | exact hW.2.2.2.2.2.2.2.2.2.2.1 | (constructor <;> omega), ?_⟩
  refine ⟨fun c1 => ?_, fun c1 => ?_⟩
  · refine ⟨by first | assumption | exact inRd rfl | omega | exact ⟨by omega, by omega⟩ | (unfold WnOk; omega) | exact hW.1 | exact hW.2.1 | exact hW.2.2.1 | exact hW.2.2.2.1 | exact hW.2.2.2.2.1 | exact hW.2.2.2.2.2.2.2.2.2.1 | exact hW.2.2.2.2.2.2.2.2.2.2.1 | (constructor <;> omega), ?_⟩
    refine ⟨fun c2 => ?_, fun c2 => ?_⟩
    · refine ⟨by first | assumption | exact inRd rfl | omega | exact ⟨by omega, by omega⟩ | (unfold WnOk; omega) | exact hW.1 | exact hW.2.1 | exact hW.2.2.1 | exact hW.2.2.2.1 | exact hW.2.2.2.2.1 | exact hW.2.2.2.2.2.2.2.2.2.1 | exact hW.2.2.2.2.2.2.2.2.2.2.1 | (constructor <;> omega), ?_⟩
      refine ⟨fun c3 => ?_, fun c3 => ?_⟩
      · refine ⟨by first | assumption | exact inRd rfl | omega | exact ⟨by omega, by omega⟩ | (unfold WnOk; omega) | exact hW.1 | exact hW.2.1 | exact hW.2.2.1 | exact hW.2.2.2.1 | exact hW.2.2.2.2.1 | exact hW.2.2.2.2.2.2.2.2.2.1 | exact hW.2.2.2.2.2.2.2.2.2.2.1 | (constructor <;> omega), ?_⟩
        refine ⟨fun c4 => ?_, fun c4 => ?_⟩
        · refine ⟨by first | assumption | exact inRd rfl | omega | exact ⟨by omega, by omega⟩ | (unfold WnOk; omega) | exact hW.1 | exact hW.2.1 | exact hW.2.2.1 | exact hW.2.2.2.1 | exact hW.2.2.2.2.1 | exact hW.2.2.2.2.2.2.2.2.2.1 | exact hW.2.2.2.2.2.2.2.2.2.2.1 | (constructor <;> omega), ?_⟩
          refine ⟨by first | assumption | exact inRd rfl | omega | exact ⟨by omega, by omega⟩ | (unfold WnOk; omega) | exact hW.1 | exact hW.2.1 | exact hW.2.2.1 | exact hW.2.2.2.1 | exact hW.2.2.2.2.1 | exact hW.2.2.2.2.2.2.2.2.2.1 | exact hW.2.2.2.2.2.2.2.2.2.2.1 | (constructor <;> omega), ?_⟩
          intro I1 q1 p1 s1
          have e15 : ld I1 59 15 = x4 := p1.2.2
          have hy : 0 ≤ x2 ∧ x2 ≤ 7 := by omega
          rw [e15]
          refine ⟨hW.2.1, hW.2.2.2.2.2.2.2.2.2.2.1, by omega, hy, by omega, ?_⟩
          intro I2 q2 t2
          have e15b : ld I2 59 15 = x4 := (q2.ld rfl).trans e15
          rw [e15b]
          refine ⟨by omega, ?_, by omega, ?_⟩
          · have := stS_in (A := A) (c := x1) (year := x2) (known := x4) hW.2.1 (by omega)
            exact ⟨by omega, by omega⟩
          intro I3 q3 h3 g3
          have ho : o258 A x1 x2 x3 x4 = (psS A x1 x2 x3 (stS A x1 x2 x4) x4, A) := by
            unfold o258
            rw [if_pos (by omega), if_pos (by omega), if_pos (by omega), if_pos (by omega)]
          rw [ho] at hK
          exact hK I3 (((Fr.FK q1 rfl).trans (Fr.FK q2 rfl)).trans (Fr.FK q3 rfl)) (CX.up (((hX.fr q1 rfl rfl).fr q2 rfl rfl).fr q3 rfl rfl) (Nat.le_succ n))
        · have ho : o258 A x1 x2 x3 x4 = ((-1), A) := by
            unfold o258
            repeat' split
            all_goals first | (exfalso; omega) | with_reducible rfl
          rw [ho] at hK
          exact hK I (FK.refl I) (hX.up (Nat.le_succ n))
      · have ho : o258 A x1 x2 x3 x4 = ((-1), A) := by
          unfold o258
          repeat' split
          all_goals first | (exfalso; omega) | with_reducible rfl
        rw [ho] at hK
        exact hK I (FK.refl I) (hX.up (Nat.le_succ n))
    · have ho : o258 A x1 x2 x3 x4 = ((-1), A) := by
        unfold o258
        repeat' split
        all_goals first | (exfalso; omega) | with_reducible rfl
      rw [ho] at hK
      exact hK I (FK.refl I) (hX.up (Nat.le_succ n))
  · have ho : o258 A x1 x2 x3 x4 = ((-1), A) := by
      unfold o258
      repeat' split
      all_goals first | (exfalso; omega) | with_reducible rfl
    rw [ho] at hK
    exact hK I (FK.refl I) (hX.up (Nat.le_succ n))
