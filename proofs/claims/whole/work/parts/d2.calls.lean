theorem tlS_ln {A : aS} {y b ow : Int} (hC : WfC A) (hb : b = 3 ∨ b = 5 ∨ b = 7 ∨ b = 8 ∨ (10 ≤ b ∧ b ≤ 12) ∨ b = 15) : tlS A zE y (ckd b) 1 ow = lnS A y b ow := tlS_one hC hb
set_option maxRecDepth 4000 in
theorem e30 {d L : Nat} {I : Nat → Nat → Int32} {R : Nat → Nat → Option Nat} {S : List (Nat × Nat)} {K : Int32 → mM → Prop} {A : aS} (hC : RC R S I A) {x1 : Int} {x2 : Int} (hE : inR x1 ∧ (inR (A 91 1 - 1) ∧ (((0 ≤ x1 ∧ x1 ≤ A 91 1 - 1) → inR x2 ∧ (((1 ≤ x2 ∧ x2 ≤ 9999) → (0 ≤ x1 ∧ x1 < 40) ∧ (inR (A 96 x1.toNat + x2) ∧ (((999999 < A 96 x1.toNat + x2) → K (oI (-1)) (bd L I R S)) ∧ (¬ (999999 < A 96 x1.toNat + x2) → K (oI (A 96 x1.toNat + x2)) (bd L (u2 I 26 x1.toNat (oI (A 96 x1.toNat + x2))) R S))))) ∧ (¬ (1 ≤ x2 ∧ x2 ≤ 9999) → K (oI (-1)) (bd L I R S)))) ∧ (¬ (0 ≤ x1 ∧ x1 ≤ A 91 1 - 1) → K (oI (-1)) (bd L I R S))))) : CallI (d + 2) 30 [.ref 8, .int (oI x1), .int (oI x2)] (bd L I R S) K := by
  refine cI_of (ls := [.ref 8, .int (oI x1), .int (oI x2)]) rfl ?_
  refine xG gb30.1 ?_
  refine s6 (p := 8) rfl ?_
  refine s4 (x := x1) rfl ?_
  refine sI rc7 rfl (Nat.le_of_ble_eq_true rfl) ?_
  refine cI_of (ls := [.ref 8, .int (oI x1)]) rfl ?_
  refine xG gb7 ?_
  refine s4 (x := x1) rfl ?_
  refine s0 ?_
  refine s6 (p := 8) rfl ?_
  refine s51 sh8 (by decide) (by decide) rf8_1 ?_
  refine s50 (v := A 91 1) sh21 (by decide) (by decide) (rdC hC.1 rfl) ?_
  refine s0 ?_
  refine s17 ?_
  obtain ⟨g1, hE⟩ := hE
  obtain ⟨g2, hE⟩ := hE
  refine sI rc3 rfl (Nat.le_of_ble_eq_true rfl) ?_
  refine k3 g1 (inRd rfl) g2 (fun c3 => ?_) (fun c3 => ?_)
  · replace hE := hE.1 c3
    refine s84 (by decide) ?_
    refine rqI_of ?_
    refine s67 (inRd rfl) (fun c4 => absurd c4 (by decide)) (fun _ => ?_)
    refine s4 (x := x2) rfl ?_
    refine s0 ?_
    refine s0 ?_
    obtain ⟨g5, hE⟩ := hE
    refine sI rc3 rfl (Nat.le_of_ble_eq_true rfl) ?_
    refine k3 g5 (inRd rfl) (inRd rfl) (fun c6 => ?_) (fun c6 => ?_)
    · replace hE := hE.1 c6
      refine s67 (inRd rfl) (fun c7 => absurd c7 (by decide)) (fun _ => ?_)
      refine s6 (p := 8) rfl ?_
      refine s51 sh8 (by decide) (by decide) rf8_1 ?_
      refine s51 sh21 (by decide) (by decide) rf21_4 ?_
      refine s4 (x := x1) rfl ?_
      obtain ⟨g8, hE⟩ := hE
      refine s40 (v := A 96 x1.toNat) sh26 g8 rfl (rdC hC.1 rfl) ?_
      refine s4 (x := x2) rfl ?_
      refine s16 ?_
      refine s0 ?_
      obtain ⟨g9, hE⟩ := hE
      refine s66 g9 (inRd rfl) (fun c10 => ?_) (fun c10 => ?_)
      · replace hE := hE.1 c10
        refine s79 ?_
        refine xG gb30.2.1 ?_
        refine s0 ?_
        refine s80 ?_
        exact rqI_of hE
      · replace hE := hE.2 c10
        refine xG gb30.2.2 ?_
        refine s6 (p := 8) rfl ?_
        refine s51 sh8 (by decide) (by decide) rf8_1 ?_
        refine s51 sh21 (by decide) (by decide) rf21_4 ?_
        refine s4 (x := x1) rfl ?_
        refine s14 ?_
        refine s40 (v := A 96 x1.toNat) sh26 g8 rfl (rdC hC.1 rfl) ?_
        refine s4 (x := x2) rfl ?_
        refine s16 ?_
        refine s44 sh26 (by decide) g8 rfl ?_
        refine s6 (p := 8) rfl ?_
        refine s51 sh8 (by decide) (by decide) rf8_1 ?_
        refine s51 sh21 (by decide) (by decide) rf21_4 ?_
        refine s4 (x := x1) rfl ?_
        refine s40 (v := A 96 x1.toNat + x2) sh26 g8 rfl (v2_eq) ?_
        refine s80 ?_
        exact rqI_of hE
    · replace hE := hE.2 c6
      refine s67 (inRd rfl) (fun _ => ?_) (fun c11 => absurd (by decide) c11)
      refine xG gb30.2.1 ?_
      refine s0 ?_
      refine s80 ?_
      exact rqI_of hE
  · replace hE := hE.2 c3
    refine s84 (by decide) ?_
    refine rqI_of ?_
    refine s67 (inRd rfl) (fun _ => ?_) (fun c12 => absurd (by decide) c12)
    refine xG gb30.2.1 ?_
    refine s0 ?_
    refine s80 ?_
    exact rqI_of hE
set_option maxRecDepth 4000 in
theorem q30 {d L n : Nat} {I : mI} {R : mR} {S : mSh} {A : aS} {K : Int32 → mM → Prop} {x1 : Int} {x2 : Int} (hX : CX R S I A n) (hW : WF A) (hn : n ≤ 100000) (rx1 : inR x1) (rx2 : inR x2) (hK : ∀ I1, FK I I1 → CX R S I1 (o269 A x1 x2).2 (n + 1) → K (oI (o269 A x1 x2).1) (bd L I1 R S)) : CallI (d + 2) 30 [.ref 8, .int (oI x1), .int (oI x2)] (bd L I R S) K := by
  have hC := hX.1
  have hA := hW.1
  have w0 := hA.1
  have w1 := hA.2.1
  have w2 := hA.2.2.1
  have w3 : 0 ≤ A 91 3 ∧ A 91 3 ≤ 850 := hA.2.2.2.1
  have ty := today_year hA
  have c9 := hX.2.2.2.1
  have wp : 0 ≤ x1 ∧ x1 ≤ A 91 1 - 1 → 0 ≤ A 96 x1.toNat ∧ A 96 x1.toNat ≤ 999999 := fun h => (hW.2.1 x1.toNat (by omega)).2.2.2.2
  refine e30 (d := d) hC ?_
  refine ⟨by first | assumption | exact inRd rfl | omega | exact ⟨by omega, by omega⟩ | (unfold WnOk; omega) | exact hW.1 | exact hW.2.1 | exact hW.2.2.1 | exact hW.2.2.2.1 | exact hW.2.2.2.2.1 | exact hW.2.2.2.2.2.2.2.2.2.1 | exact hW.2.2.2.2.2.2.2.2.2.2.1 | (constructor <;> omega), ?_⟩
  refine ⟨by first | assumption | exact inRd rfl | omega | exact ⟨by omega, by omega⟩ | (unfold WnOk; omega) | exact hW.1 | exact hW.2.1 | exact hW.2.2.1 | exact hW.2.2.2.1 | exact hW.2.2.2.2.1 | exact hW.2.2.2.2.2.2.2.2.2.1 | exact hW.2.2.2.2.2.2.2.2.2.2.1 | (constructor <;> omega), ?_⟩
  refine ⟨fun c1 => ?_, fun c1 => ?_⟩
  · refine ⟨by first | assumption | exact inRd rfl | omega | exact ⟨by omega, by omega⟩ | (unfold WnOk; omega) | exact hW.1 | exact hW.2.1 | exact hW.2.2.1 | exact hW.2.2.2.1 | exact hW.2.2.2.2.1 | exact hW.2.2.2.2.2.2.2.2.2.1 | exact hW.2.2.2.2.2.2.2.2.2.2.1 | (constructor <;> omega), ?_⟩
    refine ⟨fun c2 => ?_, fun c2 => ?_⟩
    · refine ⟨by first | assumption | exact inRd rfl | omega | exact ⟨by omega, by omega⟩ | (unfold WnOk; omega) | exact hW.1 | exact hW.2.1 | exact hW.2.2.1 | exact hW.2.2.2.1 | exact hW.2.2.2.2.1 | exact hW.2.2.2.2.2.2.2.2.2.1 | exact hW.2.2.2.2.2.2.2.2.2.2.1 | (constructor <;> omega), ?_⟩
      refine ⟨by first | assumption | exact inRd rfl | omega | exact ⟨by omega, by omega⟩ | (unfold WnOk; omega) | exact hW.1 | exact hW.2.1 | exact hW.2.2.1 | exact hW.2.2.2.1 | exact hW.2.2.2.2.1 | exact hW.2.2.2.2.2.2.2.2.2.1 | exact hW.2.2.2.2.2.2.2.2.2.2.1 | (constructor <;> omega), ?_⟩
      refine ⟨fun c3 => ?_, fun c3 => ?_⟩
      · have ho : o269 A x1 x2 = ((-1), A) := by
          unfold o269
          repeat' split
          all_goals first | with_reducible rfl | (exfalso; omega) | exact Prod.ext (by dsimp only; omega) rfl | exact Prod.ext (by dsimp only) rfl
        rw [ho] at hK
        exact hK I (FK.refl I) (hX.up (Nat.le_succ n))
      · have ho : o269 A x1 x2 = ((A 96 x1.toNat + x2), (u2 A 96 x1.toNat ((A 96 x1.toNat + x2)))) := by
          unfold o269
          repeat' split
          all_goals first | with_reducible rfl | (exfalso; omega) | exact Prod.ext (by dsimp only; omega) rfl | exact Prod.ext (by dsimp only) rfl
        rw [ho] at hK
        have h0 : RelC0 (u2 I 26 x1.toNat (oI (A 96 x1.toNat + x2))) (u2 A 96 x1.toNat ((A 96 x1.toNat + x2))) := (RelC0.set hC.1 (a := 26) (k := x1.toNat) (v := (A 96 x1.toNat + x2)) rfl (by first | assumption | exact inRd rfl | omega | exact ⟨by omega, by omega⟩ | (unfold WnOk; omega) | exact hW.1 | exact hW.2.1 | exact hW.2.2.1 | exact hW.2.2.2.1 | exact hW.2.2.2.2.1 | exact hW.2.2.2.2.2.2.2.2.2.1 | exact hW.2.2.2.2.2.2.2.2.2.2.1 | (constructor <;> omega)))
        have hr : RC R S (u2 I 26 x1.toNat (oI (A 96 x1.toNat + x2))) (u2 A 96 x1.toNat ((A 96 x1.toNat + x2))) := RC.st hC h0 (PKx.wr (PKx.refl I) rfl) (Ko.set (Ko.refl _ _ _) rfl) (Ko.set (Ko.refl _ _ _) rfl) (Ko.set (Ko.refl _ _ _) rfl) (Ko.set (Ko.refl _ _ _) rfl)
        exact hK _ (FK.wr (FK.refl I) (by decide)) (CX.up (hX.ko (Ko.set (Ko.refl _ _ _) rfl) hr (MmK.wr (MmK.refl I) rfl) rfl) (Nat.le_succ n))
    · have ho : o269 A x1 x2 = ((-1), A) := by
        unfold o269
        repeat' split
        all_goals first | with_reducible rfl | (exfalso; omega) | exact Prod.ext (by dsimp only; omega) rfl | exact Prod.ext (by dsimp only) rfl
      rw [ho] at hK
      exact hK I (FK.refl I) (hX.up (Nat.le_succ n))
  · have ho : o269 A x1 x2 = ((-1), A) := by
      unfold o269
      repeat' split
      all_goals first | with_reducible rfl | (exfalso; omega) | exact Prod.ext (by dsimp only; omega) rfl | exact Prod.ext (by dsimp only) rfl
    rw [ho] at hK
    exact hK I (FK.refl I) (hX.up (Nat.le_succ n))
set_option maxRecDepth 4000 in
theorem e47 {d L : Nat} {I : Nat → Nat → Int32} {R : Nat → Nat → Option Nat} {S : List (Nat × Nat)} {K : Int32 → mM → Prop} {A : aS} (hC : RC R S I A) {x1 : Int} {x2 : Int} {x3 : Int} (hE : inR x1 ∧ (inR (A 91 1 - 1) ∧ (((0 ≤ x1 ∧ x1 ≤ A 91 1 - 1) → inR x2 ∧ (((0 ≤ x2 ∧ x2 ≤ 5) → inR x3 ∧ ((((-1) ≤ x3 ∧ x3 ≤ 100) → (0 ≤ (x1 * 6) + x2 ∧ (x1 * 6) + x2 < 240) ∧ (K (oI 1) (bd L (u2 (u2 I 8 9 (oI (ld I 8 9 + 1))) 27 ((x1 * 6) + x2).toNat (oI x3)) R S))) ∧ (¬ ((-1) ≤ x3 ∧ x3 ≤ 100) → K (oI 0) (bd L I R S)))) ∧ (¬ (0 ≤ x2 ∧ x2 ≤ 5) → K (oI 0) (bd L I R S)))) ∧ (¬ (0 ≤ x1 ∧ x1 ≤ A 91 1 - 1) → K (oI 0) (bd L I R S))))) : CallI (d + 2) 47 [.ref 8, .int (oI x1), .int (oI x2), .int (oI x3)] (bd L I R S) K := by
  refine cI_of (ls := [.ref 8, .int (oI x1), .int (oI x2), .int (oI x3), mUn]) rfl ?_
  refine xG gb47.1 ?_
  refine s6 (p := 8) rfl ?_
  refine s4 (x := x1) rfl ?_
  refine sI rc7 rfl (Nat.le_of_ble_eq_true rfl) ?_
  refine cI_of (ls := [.ref 8, .int (oI x1)]) rfl ?_
  refine xG gb7 ?_
  refine s4 (x := x1) rfl ?_
  refine s0 ?_
  refine s6 (p := 8) rfl ?_
  refine s51 sh8 (by decide) (by decide) rf8_1 ?_
  refine s50 (v := A 91 1) sh21 (by decide) (by decide) (rdC hC.1 rfl) ?_
  refine s0 ?_
  refine s17 ?_
  obtain ⟨g1, hE⟩ := hE
  obtain ⟨g2, hE⟩ := hE
  refine sI rc3 rfl (Nat.le_of_ble_eq_true rfl) ?_
  refine k3 g1 (inRd rfl) g2 (fun c3 => ?_) (fun c3 => ?_)
  · replace hE := hE.1 c3
    refine s84 (by decide) ?_
    refine rqI_of ?_
    refine s67 (inRd rfl) (fun c4 => absurd c4 (by decide)) (fun _ => ?_)
    refine s4 (x := x2) rfl ?_
    refine s0 ?_
    refine s0 ?_
    obtain ⟨g5, hE⟩ := hE
    refine sI rc3 rfl (Nat.le_of_ble_eq_true rfl) ?_
    refine k3 g5 (inRd rfl) (inRd rfl) (fun c6 => ?_) (fun c6 => ?_)
    · replace hE := hE.1 c6
      refine s67 (inRd rfl) (fun c7 => absurd c7 (by decide)) (fun _ => ?_)
      refine s4 (x := x3) rfl ?_
      refine s0 ?_
      refine s0 ?_
      obtain ⟨g8, hE⟩ := hE
      refine sI rc3 rfl (Nat.le_of_ble_eq_true rfl) ?_
      refine k3 g8 (inRd rfl) (inRd rfl) (fun c9 => ?_) (fun c9 => ?_)
      · replace hE := hE.1 c9
        refine s67 (inRd rfl) (fun c10 => absurd c10 (by decide)) (fun _ => ?_)
        refine s0 ?_
        refine s60 ?_
        refine xG gb47.2.2.1 ?_
        refine s7 (ls' := [.ref 8, .int (oI x1), .int (oI x2), .int (oI x3), .int (oI 1)]) (Nat.le_of_ble_eq_true rfl) rfl ?_
        refine s4 (x := 1) rfl ?_
        refine s67 (inRd rfl) (fun c11 => absurd c11 (by decide)) (fun _ => ?_)
        refine s6 (p := 8) rfl ?_
        refine s13r ?_
        refine s50 (v := ld I 8 9) sh8 (by decide) (by decide) (oI_ld _ _ _) ?_
        refine s0 ?_
        refine s16 ?_
        refine s52 sh8 (by decide) (by decide) ?_
        refine s6 (p := 8) rfl ?_
        refine s51 sh8 (by decide) (by decide) rf8_1 ?_
        refine s51 sh21 (by decide) (by decide) rf21_5 ?_
        refine s4 (x := x1) rfl ?_
        refine s0 ?_
        refine s18 ?_
        refine s4 (x := x2) rfl ?_
        refine s16 ?_
        refine s4 (x := x3) rfl ?_
        obtain ⟨g12, hE⟩ := hE
        refine s44 sh27 (by decide) g12 rfl ?_
        refine s79 ?_
        refine xG gb47.2.2.2 ?_
        refine s4 (x := 1) rfl ?_
        refine s84 (by decide) ?_
        exact rqI_of hE
      · replace hE := hE.2 c9
        refine s67 (inRd rfl) (fun _ => ?_) (fun c13 => absurd (by decide) c13)
        refine xG gb47.2.1 ?_
        refine s0 ?_
        refine s79 ?_
        refine xG gb47.2.2.1 ?_
        refine s7 (ls' := [.ref 8, .int (oI x1), .int (oI x2), .int (oI x3), .int (oI 0)]) (Nat.le_of_ble_eq_true rfl) rfl ?_
        refine s4 (x := 0) rfl ?_
        refine s67 (inRd rfl) (fun _ => ?_) (fun c14 => absurd (by decide) c14)
        refine xG gb47.2.2.2 ?_
        refine s4 (x := 0) rfl ?_
        refine s84 (by decide) ?_
        exact rqI_of hE
    · replace hE := hE.2 c6
      refine s67 (inRd rfl) (fun _ => ?_) (fun c15 => absurd (by decide) c15)
      refine xG gb47.2.1 ?_
      refine s0 ?_
      refine s79 ?_
      refine xG gb47.2.2.1 ?_
      refine s7 (ls' := [.ref 8, .int (oI x1), .int (oI x2), .int (oI x3), .int (oI 0)]) (Nat.le_of_ble_eq_true rfl) rfl ?_
      refine s4 (x := 0) rfl ?_
      refine s67 (inRd rfl) (fun _ => ?_) (fun c16 => absurd (by decide) c16)
      refine xG gb47.2.2.2 ?_
      refine s4 (x := 0) rfl ?_
      refine s84 (by decide) ?_
      exact rqI_of hE
  · replace hE := hE.2 c3
    refine s84 (by decide) ?_
    refine rqI_of ?_
    refine s67 (inRd rfl) (fun _ => ?_) (fun c17 => absurd (by decide) c17)
    refine xG gb47.2.1 ?_
    refine s0 ?_
    refine s79 ?_
    refine xG gb47.2.2.1 ?_
    refine s7 (ls' := [.ref 8, .int (oI x1), .int (oI x2), .int (oI x3), .int (oI 0)]) (Nat.le_of_ble_eq_true rfl) rfl ?_
    refine s4 (x := 0) rfl ?_
    refine s67 (inRd rfl) (fun _ => ?_) (fun c18 => absurd (by decide) c18)
    refine xG gb47.2.2.2 ?_
    refine s4 (x := 0) rfl ?_
    refine s84 (by decide) ?_
    exact rqI_of hE
set_option maxRecDepth 4000 in
theorem q47 {d L n : Nat} {I : mI} {R : mR} {S : mSh} {A : aS} {K : Int32 → mM → Prop} {x1 : Int} {x2 : Int} {x3 : Int} (hX : CX R S I A n) (hW : WF A) (hn : n ≤ 100000) (rx1 : inR x1) (rx2 : inR x2) (rx3 : inR x3) (hK : ∀ I1, FK I I1 → CX R S I1 (o275 A x1 x2 x3).2 (n + 1) → K (oI (o275 A x1 x2 x3).1) (bd L I1 R S)) : CallI (d + 2) 47 [.ref 8, .int (oI x1), .int (oI x2), .int (oI x3)] (bd L I R S) K := by
  have hC := hX.1
  have hA := hW.1
  have w0 := hA.1
  have w1 := hA.2.1
  have w2 := hA.2.2.1
  have w3 : 0 ≤ A 91 3 ∧ A 91 3 ≤ 850 := hA.2.2.2.1
  have ty := today_year hA
  have c9 := hX.2.2.2.1
  refine e47 (d := d) hC ?_
  refine ⟨by first | assumption | exact inRd rfl | omega | exact ⟨by omega, by omega⟩ | (unfold WnOk; omega) | exact hW.1 | exact hW.2.1 | exact hW.2.2.1 | exact hW.2.2.2.1 | exact hW.2.2.2.2.1 | exact hW.2.2.2.2.2.2.2.2.2.1 | exact hW.2.2.2.2.2.2.2.2.2.2.1 | (constructor <;> omega), ?_⟩
  refine ⟨by first | assumption | exact inRd rfl | omega | exact ⟨by omega, by omega⟩ | (unfold WnOk; omega) | exact hW.1 | exact hW.2.1 | exact hW.2.2.1 | exact hW.2.2.2.1 | exact hW.2.2.2.2.1 | exact hW.2.2.2.2.2.2.2.2.2.1 | exact hW.2.2.2.2.2.2.2.2.2.2.1 | (constructor <;> omega), ?_⟩
  refine ⟨fun c1 => ?_, fun c1 => ?_⟩
  · refine ⟨by first | assumption | exact inRd rfl | omega | exact ⟨by omega, by omega⟩ | (unfold WnOk; omega) | exact hW.1 | exact hW.2.1 | exact hW.2.2.1 | exact hW.2.2.2.1 | exact hW.2.2.2.2.1 | exact hW.2.2.2.2.2.2.2.2.2.1 | exact hW.2.2.2.2.2.2.2.2.2.2.1 | (constructor <;> omega), ?_⟩
    refine ⟨fun c2 => ?_, fun c2 => ?_⟩
    · refine ⟨by first | assumption | exact inRd rfl | omega | exact ⟨by omega, by omega⟩ | (unfold WnOk; omega) | exact hW.1 | exact hW.2.1 | exact hW.2.2.1 | exact hW.2.2.2.1 | exact hW.2.2.2.2.1 | exact hW.2.2.2.2.2.2.2.2.2.1 | exact hW.2.2.2.2.2.2.2.2.2.2.1 | (constructor <;> omega), ?_⟩
      refine ⟨fun c3 => ?_, fun c3 => ?_⟩
      · refine ⟨by first | assumption | exact inRd rfl | omega | exact ⟨by omega, by omega⟩ | (unfold WnOk; omega) | exact hW.1 | exact hW.2.1 | exact hW.2.2.1 | exact hW.2.2.2.1 | exact hW.2.2.2.2.1 | exact hW.2.2.2.2.2.2.2.2.2.1 | exact hW.2.2.2.2.2.2.2.2.2.2.1 | (constructor <;> omega), ?_⟩
        have ho : o275 A x1 x2 x3 = (1, (u2 A 97 ((6 * x1) + x2).toNat (x3))) := by
          unfold o275
          repeat' split
          all_goals first | with_reducible rfl | (exfalso; omega) | exact Prod.ext (by dsimp only; omega) rfl | exact Prod.ext (by dsimp only) rfl
        rw [ho] at hK
        have h0 : RelC0 (u2 (u2 I 8 9 (oI (ld I 8 9 + 1))) 27 ((x1 * 6) + x2).toNat (oI x3)) (u2 A 97 ((x1 * 6) + x2).toNat (x3)) := (RelC0.set (RelC0.scr hC.1 (a := 8) (k := 9) rfl) (a := 27) (k := ((x1 * 6) + x2).toNat) (v := x3) rfl (by first | assumption | exact inRd rfl | omega | exact ⟨by omega, by omega⟩ | (unfold WnOk; omega) | exact hW.1 | exact hW.2.1 | exact hW.2.2.1 | exact hW.2.2.2.1 | exact hW.2.2.2.2.1 | exact hW.2.2.2.2.2.2.2.2.2.1 | exact hW.2.2.2.2.2.2.2.2.2.2.1 | (constructor <;> omega)))
        have eA : (u2 A 97 ((x1 * 6) + x2).toNat (x3)) = (u2 A 97 ((6 * x1) + x2).toNat (x3)) := by
          funext a k
          simp only [u2]
          repeat' split
          all_goals first | rfl | (exfalso; omega)
        rw [eA] at h0
        have hr : RC R S (u2 (u2 I 8 9 (oI (ld I 8 9 + 1))) 27 ((x1 * 6) + x2).toNat (oI x3)) (u2 A 97 ((6 * x1) + x2).toNat (x3)) := RC.st hC h0 (PKx.wr (PKx.wr (PKx.refl I) rfl) rfl) (Ko.set (Ko.refl _ _ _) rfl) (Ko.set (Ko.refl _ _ _) rfl) (Ko.set (Ko.refl _ _ _) rfl) (Ko.set (Ko.refl _ _ _) rfl)
        have h9 : ld (u2 (u2 I 8 9 (oI (ld I 8 9 + 1))) 27 ((x1 * 6) + x2).toNat (oI x3)) 8 9 = ld I 8 9 + 1 := by
          rw [ld_u2x, if_neg (fun q => absurd q.1 (by decide)), ld_u2x, if_pos ⟨rfl, rfl⟩, toInt_oI (by first | assumption | exact inRd rfl | omega | exact ⟨by omega, by omega⟩ | (unfold WnOk; omega) | exact hW.1 | exact hW.2.1 | exact hW.2.2.1 | exact hW.2.2.2.1 | exact hW.2.2.2.2.1 | exact hW.2.2.2.2.2.2.2.2.2.1 | exact hW.2.2.2.2.2.2.2.2.2.2.1 | (constructor <;> omega))]
        exact hK _ (FK.wr (FK.wr (FK.refl I) (by decide)) (by decide)) (hX.bump hr (MmK.wr (MmK.wr (MmK.refl I) rfl) rfl) h9)
      · have ho : o275 A x1 x2 x3 = (0, A) := by
          unfold o275
          repeat' split
          all_goals first | with_reducible rfl | (exfalso; omega) | exact Prod.ext (by dsimp only; omega) rfl | exact Prod.ext (by dsimp only) rfl
        rw [ho] at hK
        exact hK I (FK.refl I) (hX.up (Nat.le_succ n))
    · have ho : o275 A x1 x2 x3 = (0, A) := by
        unfold o275
        repeat' split
        all_goals first | with_reducible rfl | (exfalso; omega) | exact Prod.ext (by dsimp only; omega) rfl | exact Prod.ext (by dsimp only) rfl
      rw [ho] at hK
      exact hK I (FK.refl I) (hX.up (Nat.le_succ n))
  · have ho : o275 A x1 x2 x3 = (0, A) := by
      unfold o275
      repeat' split
      all_goals first | with_reducible rfl | (exfalso; omega) | exact Prod.ext (by dsimp only; omega) rfl | exact Prod.ext (by dsimp only) rfl
    rw [ho] at hK
    exact hK I (FK.refl I) (hX.up (Nat.le_succ n))
set_option maxRecDepth 4000 in
theorem e50 {d L : Nat} {I : Nat → Nat → Int32} {R : Nat → Nat → Option Nat} {S : List (Nat × Nat)} {K : Int32 → mM → Prop} {A : aS} (hC : RC R S I A) {x1 : Int} {x2 : Int} (hE : inR x1 ∧ (((0 ≤ x1 ∧ x1 ≤ 60) → inR x2 ∧ (((0 ≤ x2 ∧ x2 ≤ 60) → ((A 91 54 < 10) → (0 ≤ A 91 54 ∧ A 91 54 < 10) ∧ (K (oI (A 91 54)) (bd L (u2 (u2 (u2 I 17 (A 91 54).toNat (oI x1)) 18 (A 91 54).toNat (oI x2)) 9 12 (oI (A 91 54 + 1))) R S))) ∧ (¬ (A 91 54 < 10) → K (oI (-1)) (bd L I R S))) ∧ (¬ (0 ≤ x2 ∧ x2 ≤ 60) → K (oI (-1)) (bd L I R S)))) ∧ (¬ (0 ≤ x1 ∧ x1 ≤ 60) → K (oI (-1)) (bd L I R S)))) : CallI (d + 2) 50 [.ref 8, .int (oI x1), .int (oI x2)] (bd L I R S) K := by
  refine cI_of (ls := [.ref 8, .int (oI x1), .int (oI x2)]) rfl ?_
  refine xG gb50.1 ?_
  refine s6 (p := 8) rfl ?_
  refine s51 sh8 (by decide) (by decide) rf8_0 ?_
  refine s4 (x := x1) rfl ?_
  refine s4 (x := x2) rfl ?_
  refine sI rc62 rfl (Nat.le_of_ble_eq_true rfl) ?_
  refine cI_of (ls := [.ref 9, .int (oI x1), .int (oI x2)]) rfl ?_
  refine xG gb62.1 ?_
  refine s4 (x := x1) rfl ?_
  refine s0 ?_
  refine s0 ?_
  obtain ⟨g1, hE⟩ := hE
  refine sI rc3 rfl (Nat.le_of_ble_eq_true rfl) ?_
  refine k3 g1 (inRd rfl) (inRd rfl) (fun c2 => ?_) (fun c2 => ?_)
  · replace hE := hE.1 c2
    refine s67 (inRd rfl) (fun c3 => absurd c3 (by decide)) (fun _ => ?_)
    refine s4 (x := x2) rfl ?_
    refine s0 ?_
    refine s0 ?_
    obtain ⟨g4, hE⟩ := hE
    refine sI rc3 rfl (Nat.le_of_ble_eq_true rfl) ?_
    refine k3 g4 (inRd rfl) (inRd rfl) (fun c5 => ?_) (fun c5 => ?_)
    · replace hE := hE.1 c5
      refine s67 (inRd rfl) (fun c6 => absurd c6 (by decide)) (fun _ => ?_)
      refine s0 ?_
      refine s60 ?_
      refine xG gb62.2.2 ?_
      refine s84 (by decide) ?_
      refine rqI_of ?_
      refine s67 (inRd rfl) (fun c7 => absurd c7 (by decide)) (fun _ => ?_)
      refine s6 (p := 8) rfl ?_
      refine s51 sh8 (by decide) (by decide) rf8_0 ?_
      refine s50 (v := A 91 54) sh9 (by decide) (by decide) (rdC hC.1 rfl) ?_
      refine s0 ?_
      refine s63 (inC hC.1 (a := 9) (k := 12) rfl) (inRd rfl) (fun c8 => ?_) (fun c8 => ?_)
      · replace hE := hE.1 c8
        refine xG gb50.2.2 ?_
        refine s6 (p := 8) rfl ?_
        refine s51 sh8 (by decide) (by decide) rf8_0 ?_
        refine s4 (x := x1) rfl ?_
        refine s4 (x := x2) rfl ?_
        refine sI rc71 rfl (Nat.le_of_ble_eq_true rfl) ?_
        refine cI_of (ls := [.ref 9, .int (oI x1), .int (oI x2)]) rfl ?_
        refine xG gb71 ?_
        refine s6 (p := 9) rfl ?_
        refine s51 sh9 (by decide) (by decide) rf9_7 ?_
        refine s6 (p := 9) rfl ?_
        refine s50 (v := A 91 54) sh9 (by decide) (by decide) (rdC hC.1 rfl) ?_
        refine s4 (x := x1) rfl ?_
        obtain ⟨g9, hE⟩ := hE
        refine s44 sh17 (by decide) g9 rfl ?_
        refine s6 (p := 9) rfl ?_
        refine s51 sh9 (by decide) (by decide) rf9_8 ?_
        refine s6 (p := 9) rfl ?_
        refine s50 (v := A 91 54) sh9 (by decide) (by decide) ((v2_ne (by decide)).trans (rdC hC.1 rfl)) ?_
        refine s4 (x := x2) rfl ?_
        refine s44 sh18 (by decide) g9 rfl ?_
        refine s6 (p := 9) rfl ?_
        refine s13r ?_
        refine s50 (v := A 91 54) sh9 (by decide) (by decide) ((v2_ne (by decide)).trans ((v2_ne (by decide)).trans (rdC hC.1 rfl))) ?_
        refine s15 ?_
        refine s0 ?_
        refine s16 ?_
        refine s52 sh9 (by decide) (by decide) ?_
        refine s80 ?_
        refine rqI_of ?_
        refine s80 ?_
        exact rqI_of hE
      · replace hE := hE.2 c8
        refine s79 ?_
        refine xG gb50.2.1 ?_
        refine s0 ?_
        refine s80 ?_
        exact rqI_of hE
    · replace hE := hE.2 c5
      refine s67 (inRd rfl) (fun _ => ?_) (fun c10 => absurd (by decide) c10)
      refine xG gb62.2.1 ?_
      refine s0 ?_
      refine s79 ?_
      refine xG gb62.2.2 ?_
      refine s84 (by decide) ?_
      refine rqI_of ?_
      refine s67 (inRd rfl) (fun _ => ?_) (fun c11 => absurd (by decide) c11)
      refine xG gb50.2.1 ?_
      refine s0 ?_
      refine s80 ?_
      exact rqI_of hE
  · replace hE := hE.2 c2
    refine s67 (inRd rfl) (fun _ => ?_) (fun c12 => absurd (by decide) c12)
    refine xG gb62.2.1 ?_
    refine s0 ?_
    refine s79 ?_
    refine xG gb62.2.2 ?_
    refine s84 (by decide) ?_
    refine rqI_of ?_
    refine s67 (inRd rfl) (fun _ => ?_) (fun c13 => absurd (by decide) c13)
    refine xG gb50.2.1 ?_
    refine s0 ?_
    refine s80 ?_
    exact rqI_of hE
set_option maxRecDepth 4000 in
theorem q50 {d L n : Nat} {I : mI} {R : mR} {S : mSh} {A : aS} {K : Int32 → mM → Prop} {x1 : Int} {x2 : Int} (hX : CX R S I A n) (hW : WF A) (hn : n ≤ 100000) (rx1 : inR x1) (rx2 : inR x2) (hK : ∀ I1, FK I I1 → CX R S I1 (o283 A x1 x2).2 (n + 1) → K (oI (o283 A x1 x2).1) (bd L I1 R S)) : CallI (d + 2) 50 [.ref 8, .int (oI x1), .int (oI x2)] (bd L I R S) K := by
  have hC := hX.1
  have hA := hW.1
  have w0 := hA.1
  have w1 := hA.2.1
  have w2 := hA.2.2.1
  have w3 : 0 ≤ A 91 3 ∧ A 91 3 ≤ 850 := hA.2.2.2.1
  have ty := today_year hA
  have c9 := hX.2.2.2.1
  have hXX := hW.2.2.2.2.1
  have z0 := hXX.1
  refine e50 (d := d) hC ?_
  refine ⟨by first | assumption | exact inRd rfl | omega | exact ⟨by omega, by omega⟩ | (unfold WnOk; omega) | exact hW.1 | exact hW.2.1 | exact hW.2.2.1 | exact hW.2.2.2.1 | exact hW.2.2.2.2.1 | exact hW.2.2.2.2.2.2.2.2.2.1 | exact hW.2.2.2.2.2.2.2.2.2.2.1 | (constructor <;> omega), ?_⟩
  refine ⟨fun c1 => ?_, fun c1 => ?_⟩
  · refine ⟨by first | assumption | exact inRd rfl | omega | exact ⟨by omega, by omega⟩ | (unfold WnOk; omega) | exact hW.1 | exact hW.2.1 | exact hW.2.2.1 | exact hW.2.2.2.1 | exact hW.2.2.2.2.1 | exact hW.2.2.2.2.2.2.2.2.2.1 | exact hW.2.2.2.2.2.2.2.2.2.2.1 | (constructor <;> omega), ?_⟩
    refine ⟨fun c2 => ?_, fun c2 => ?_⟩
    · refine ⟨fun c3 => ?_, fun c3 => ?_⟩
      · refine ⟨by first | assumption | exact inRd rfl | omega | exact ⟨by omega, by omega⟩ | (unfold WnOk; omega) | exact hW.1 | exact hW.2.1 | exact hW.2.2.1 | exact hW.2.2.2.1 | exact hW.2.2.2.2.1 | exact hW.2.2.2.2.2.2.2.2.2.1 | exact hW.2.2.2.2.2.2.2.2.2.2.1 | (constructor <;> omega), ?_⟩
        have ho : o283 A x1 x2 = ((A 91 54), (u2 (u2 (u2 A 131 (A 91 54).toNat (x1)) 132 (A 91 54).toNat (x2)) 91 54 ((A 91 54 + 1)))) := by
          unfold o283
          repeat' split
          all_goals first | with_reducible rfl | (exfalso; omega) | exact Prod.ext (by dsimp only; omega) rfl | exact Prod.ext (by dsimp only) rfl
        rw [ho] at hK
        have h0 : RelC0 (u2 (u2 (u2 I 17 (A 91 54).toNat (oI x1)) 18 (A 91 54).toNat (oI x2)) 9 12 (oI (A 91 54 + 1))) (u2 (u2 (u2 A 131 (A 91 54).toNat (x1)) 132 (A 91 54).toNat (x2)) 91 54 ((A 91 54 + 1))) := (RelC0.set (RelC0.set (RelC0.set hC.1 (a := 17) (k := (A 91 54).toNat) (v := x1) rfl (by first | assumption | exact inRd rfl | omega | exact ⟨by omega, by omega⟩ | (unfold WnOk; omega) | exact hW.1 | exact hW.2.1 | exact hW.2.2.1 | exact hW.2.2.2.1 | exact hW.2.2.2.2.1 | exact hW.2.2.2.2.2.2.2.2.2.1 | exact hW.2.2.2.2.2.2.2.2.2.2.1 | (constructor <;> omega))) (a := 18) (k := (A 91 54).toNat) (v := x2) rfl (by first | assumption | exact inRd rfl | omega | exact ⟨by omega, by omega⟩ | (unfold WnOk; omega) | exact hW.1 | exact hW.2.1 | exact hW.2.2.1 | exact hW.2.2.2.1 | exact hW.2.2.2.2.1 | exact hW.2.2.2.2.2.2.2.2.2.1 | exact hW.2.2.2.2.2.2.2.2.2.2.1 | (constructor <;> omega))) (a := 9) (k := 12) (v := (A 91 54 + 1)) rfl (by first | assumption | exact inRd rfl | omega | exact ⟨by omega, by omega⟩ | (unfold WnOk; omega) | exact hW.1 | exact hW.2.1 | exact hW.2.2.1 | exact hW.2.2.2.1 | exact hW.2.2.2.2.1 | exact hW.2.2.2.2.2.2.2.2.2.1 | exact hW.2.2.2.2.2.2.2.2.2.2.1 | (constructor <;> omega)))
        have hr : RC R S (u2 (u2 (u2 I 17 (A 91 54).toNat (oI x1)) 18 (A 91 54).toNat (oI x2)) 9 12 (oI (A 91 54 + 1))) (u2 (u2 (u2 A 131 (A 91 54).toNat (x1)) 132 (A 91 54).toNat (x2)) 91 54 ((A 91 54 + 1))) := RC.st hC h0 (PKx.wr (PKx.wr (PKx.wr (PKx.refl I) rfl) rfl) rfl) (Ko.set (Ko.set (Ko.set (Ko.refl _ _ _) rfl) rfl) rfl) (Ko.set (Ko.set (Ko.set (Ko.refl _ _ _) rfl) rfl) rfl) (Ko.set (Ko.set (Ko.set (Ko.refl _ _ _) rfl) rfl) rfl) (Ko.set (Ko.set (Ko.set (Ko.refl _ _ _) rfl) rfl) rfl)
        exact hK _ (FK.wr (FK.wr (FK.wr (FK.refl I) (by decide)) (by decide)) (by decide)) (CX.up (hX.ko (Ko.set (Ko.set (Ko.set (Ko.refl _ _ _) rfl) rfl) rfl) hr (MmK.wr (MmK.wr (MmK.wr (MmK.refl I) rfl) rfl) rfl) rfl) (Nat.le_succ n))
      · have ho : o283 A x1 x2 = ((-1), A) := by
          unfold o283
          repeat' split
          all_goals first | with_reducible rfl | (exfalso; omega) | exact Prod.ext (by dsimp only; omega) rfl | exact Prod.ext (by dsimp only) rfl
        rw [ho] at hK
        exact hK I (FK.refl I) (hX.up (Nat.le_succ n))
    · have ho : o283 A x1 x2 = ((-1), A) := by
        unfold o283
        repeat' split
        all_goals first | with_reducible rfl | (exfalso; omega) | exact Prod.ext (by dsimp only; omega) rfl | exact Prod.ext (by dsimp only) rfl
      rw [ho] at hK
      exact hK I (FK.refl I) (hX.up (Nat.le_succ n))
  · have ho : o283 A x1 x2 = ((-1), A) := by
      unfold o283
      repeat' split
      all_goals first | with_reducible rfl | (exfalso; omega) | exact Prod.ext (by dsimp only; omega) rfl | exact Prod.ext (by dsimp only) rfl
    rw [ho] at hK
    exact hK I (FK.refl I) (hX.up (Nat.le_succ n))
set_option maxRecDepth 4000 in
theorem e53 {d L : Nat} {I : Nat → Nat → Int32} {R : Nat → Nat → Option Nat} {S : List (Nat × Nat)} {K : Int32 → mM → Prop} {A : aS} (hC : RC R S I A) {x1 : Int} (hE : inR x1 ∧ (((0 ≤ x1 ∧ x1 ≤ 3) → ((A 91 57 = 0) → K (oI (-1)) (bd L I R S)) ∧ (¬ (A 91 57 = 0) → ((A 91 58 < 10) → (0 ≤ A 91 58 ∧ A 91 58 < 10) ∧ (K (oI (A 91 58)) (bd L (u2 (u2 I 86 (A 91 58).toNat (oI x1)) 85 1 (oI (A 91 58 + 1))) R S))) ∧ (¬ (A 91 58 < 10) → K (oI (-1)) (bd L I R S)))) ∧ (¬ (0 ≤ x1 ∧ x1 ≤ 3) → K (oI (-1)) (bd L I R S)))) : CallI (d + 1) 53 [.ref 8, .int (oI x1)] (bd L I R S) K := by
  refine cI_of (ls := [.ref 8, .int (oI x1)]) rfl ?_
  refine xG gb53.1 ?_
  refine s4 (x := x1) rfl ?_
  refine s0 ?_
  refine s0 ?_
  obtain ⟨g1, hE⟩ := hE
  refine sI rc3 rfl (Nat.le_of_ble_eq_true rfl) ?_
  refine k3 g1 (inRd rfl) (inRd rfl) (fun c2 => ?_) (fun c2 => ?_)
  · replace hE := hE.1 c2
    refine s67 (inRd rfl) (fun c3 => absurd c3 (by decide)) (fun _ => ?_)
    refine s6 (p := 8) rfl ?_
    refine s51 sh8 (by decide) (by decide) rf8_7 ?_
    refine s50 (v := A 91 57) sh85 (by decide) (by decide) (rdC hC.1 rfl) ?_
    refine s67 (inC hC.1 (a := 85) (k := 0) rfl) (fun c4 => ?_) (fun c4 => ?_)
    · replace hE := hE.1 c4
      refine xG gb53.2.1 ?_
      refine s0 ?_
      refine s80 ?_
      exact rqI_of hE
    · replace hE := hE.2 c4
      refine s6 (p := 8) rfl ?_
      refine s51 sh8 (by decide) (by decide) rf8_7 ?_
      refine s50 (v := A 91 58) sh85 (by decide) (by decide) (rdC hC.1 rfl) ?_
      refine s0 ?_
      refine s63 (inC hC.1 (a := 85) (k := 1) rfl) (inRd rfl) (fun c5 => ?_) (fun c5 => ?_)
      · replace hE := hE.1 c5
        refine xG gb53.2.2 ?_
        refine s6 (p := 8) rfl ?_
        refine s51 sh8 (by decide) (by decide) rf8_7 ?_
        refine s4 (x := x1) rfl ?_
        refine sI rc182 rfl (Nat.le_of_ble_eq_true rfl) ?_
        refine cI_of (ls := [.ref 85, .int (oI x1)]) rfl ?_
        refine xG gb182 ?_
        refine s6 (p := 85) rfl ?_
        refine s51 sh85 (by decide) (by decide) rf85_3 ?_
        refine s6 (p := 85) rfl ?_
        refine s50 (v := A 91 58) sh85 (by decide) (by decide) (rdC hC.1 rfl) ?_
        refine s4 (x := x1) rfl ?_
        obtain ⟨g6, hE⟩ := hE
        refine s44 sh86 (by decide) g6 rfl ?_
        refine s6 (p := 85) rfl ?_
        refine s13r ?_
        refine s50 (v := A 91 58) sh85 (by decide) (by decide) ((v2_ne (by decide)).trans (rdC hC.1 rfl)) ?_
        refine s15 ?_
        refine s0 ?_
        refine s16 ?_
        refine s52 sh85 (by decide) (by decide) ?_
        refine s80 ?_
        refine rqI_of ?_
        refine s80 ?_
        exact rqI_of hE
      · replace hE := hE.2 c5
        refine s79 ?_
        refine xG gb53.2.1 ?_
        refine s0 ?_
        refine s80 ?_
        exact rqI_of hE
  · replace hE := hE.2 c2
    refine s67 (inRd rfl) (fun _ => ?_) (fun c7 => absurd (by decide) c7)
    refine xG gb53.2.1 ?_
    refine s0 ?_
    refine s80 ?_
    exact rqI_of hE
set_option maxRecDepth 4000 in
theorem q53 {d L n : Nat} {I : mI} {R : mR} {S : mSh} {A : aS} {K : Int32 → mM → Prop} {x1 : Int} (hX : CX R S I A n) (hW : WF A) (hn : n ≤ 100000) (rx1 : inR x1) (hK : ∀ I1, FK I I1 → CX R S I1 (o287 A x1).2 (n + 1) → K (oI (o287 A x1).1) (bd L I1 R S)) : CallI (d + 1) 53 [.ref 8, .int (oI x1)] (bd L I R S) K := by
  have hC := hX.1
  have hA := hW.1
  have w0 := hA.1
  have w1 := hA.2.1
  have w2 := hA.2.2.1
  have w3 : 0 ≤ A 91 3 ∧ A 91 3 ≤ 850 := hA.2.2.2.1
  have ty := today_year hA
  have c9 := hX.2.2.2.1
  have hV := hW.2.2.2.1
  have v0 := hV.1
  have v1 := hV.2.1
  have v2 := hV.2.2.1
  refine e53 (d := d) hC ?_
  refine ⟨by first | assumption | exact inRd rfl | omega | exact ⟨by omega, by omega⟩ | (unfold WnOk; omega) | exact hW.1 | exact hW.2.1 | exact hW.2.2.1 | exact hW.2.2.2.1 | exact hW.2.2.2.2.1 | exact hW.2.2.2.2.2.2.2.2.2.1 | exact hW.2.2.2.2.2.2.2.2.2.2.1 | (constructor <;> omega), ?_⟩
  refine ⟨fun c1 => ?_, fun c1 => ?_⟩
  · refine ⟨fun c2 => ?_, fun c2 => ?_⟩
    · have ho : o287 A x1 = ((-1), A) := by
        unfold o287
        repeat' split
        all_goals first | with_reducible rfl | (exfalso; omega) | exact Prod.ext (by dsimp only; omega) rfl | exact Prod.ext (by dsimp only) rfl
      rw [ho] at hK
      exact hK I (FK.refl I) (hX.up (Nat.le_succ n))
    · refine ⟨fun c3 => ?_, fun c3 => ?_⟩
      · refine ⟨by first | assumption | exact inRd rfl | omega | exact ⟨by omega, by omega⟩ | (unfold WnOk; omega) | exact hW.1 | exact hW.2.1 | exact hW.2.2.1 | exact hW.2.2.2.1 | exact hW.2.2.2.2.1 | exact hW.2.2.2.2.2.2.2.2.2.1 | exact hW.2.2.2.2.2.2.2.2.2.2.1 | (constructor <;> omega), ?_⟩
        have ho : o287 A x1 = ((A 91 58), (u2 (u2 A 133 (A 91 58).toNat (x1)) 91 58 ((A 91 58 + 1)))) := by
          unfold o287
          repeat' split
          all_goals first | with_reducible rfl | (exfalso; omega) | exact Prod.ext (by dsimp only; omega) rfl | exact Prod.ext (by dsimp only) rfl
        rw [ho] at hK
        have h0 : RelC0 (u2 (u2 I 86 (A 91 58).toNat (oI x1)) 85 1 (oI (A 91 58 + 1))) (u2 (u2 A 133 (A 91 58).toNat (x1)) 91 58 ((A 91 58 + 1))) := (RelC0.set (RelC0.set hC.1 (a := 86) (k := (A 91 58).toNat) (v := x1) rfl (by first | assumption | exact inRd rfl | omega | exact ⟨by omega, by omega⟩ | (unfold WnOk; omega) | exact hW.1 | exact hW.2.1 | exact hW.2.2.1 | exact hW.2.2.2.1 | exact hW.2.2.2.2.1 | exact hW.2.2.2.2.2.2.2.2.2.1 | exact hW.2.2.2.2.2.2.2.2.2.2.1 | (constructor <;> omega))) (a := 85) (k := 1) (v := (A 91 58 + 1)) rfl (by first | assumption | exact inRd rfl | omega | exact ⟨by omega, by omega⟩ | (unfold WnOk; omega) | exact hW.1 | exact hW.2.1 | exact hW.2.2.1 | exact hW.2.2.2.1 | exact hW.2.2.2.2.1 | exact hW.2.2.2.2.2.2.2.2.2.1 | exact hW.2.2.2.2.2.2.2.2.2.2.1 | (constructor <;> omega)))
        have hr : RC R S (u2 (u2 I 86 (A 91 58).toNat (oI x1)) 85 1 (oI (A 91 58 + 1))) (u2 (u2 A 133 (A 91 58).toNat (x1)) 91 58 ((A 91 58 + 1))) := RC.st hC h0 (PKx.wr (PKx.wr (PKx.refl I) rfl) rfl) (Ko.set (Ko.set (Ko.refl _ _ _) rfl) rfl) (Ko.set (Ko.set (Ko.refl _ _ _) rfl) rfl) (Ko.set (Ko.set (Ko.refl _ _ _) rfl) rfl) (Ko.set (Ko.set (Ko.refl _ _ _) rfl) rfl)
        exact hK _ (FK.wr (FK.wr (FK.refl I) (by decide)) (by decide)) (CX.up (hX.ko (Ko.set (Ko.set (Ko.refl _ _ _) rfl) rfl) hr (MmK.wr (MmK.wr (MmK.refl I) rfl) rfl) rfl) (Nat.le_succ n))
      · have ho : o287 A x1 = ((-1), A) := by
          unfold o287
          repeat' split
          all_goals first | with_reducible rfl | (exfalso; omega) | exact Prod.ext (by dsimp only; omega) rfl | exact Prod.ext (by dsimp only) rfl
        rw [ho] at hK
        exact hK I (FK.refl I) (hX.up (Nat.le_succ n))
  · have ho : o287 A x1 = ((-1), A) := by
      unfold o287
      repeat' split
      all_goals first | with_reducible rfl | (exfalso; omega) | exact Prod.ext (by dsimp only; omega) rfl | exact Prod.ext (by dsimp only) rfl
    rw [ho] at hK
    exact hK I (FK.refl I) (hX.up (Nat.le_succ n))
set_option maxRecDepth 4000 in
theorem e54 {d L : Nat} {I : Nat → Nat → Int32} {R : Nat → Nat → Option Nat} {S : List (Nat × Nat)} {K : Int32 → mM → Prop} {A : aS} (hC : RC R S I A)  (hE : ((A 91 57 = 0) → K (oI (-1)) (bd L I R S)) ∧ (¬ (A 91 57 = 0) → ((A 91 59 < 60) → K (oI (A 91 59)) (bd L (u2 I 85 2 (oI (A 91 59 + 1))) R S)) ∧ (¬ (A 91 59 < 60) → K (oI (-1)) (bd L I R S)))) : CallI (d + 1) 54 [.ref 8] (bd L I R S) K := by
  refine cI_of (ls := [.ref 8]) rfl ?_
  refine xG gb54.1 ?_
  refine s6 (p := 8) rfl ?_
  refine s51 sh8 (by decide) (by decide) rf8_7 ?_
  refine s50 (v := A 91 57) sh85 (by decide) (by decide) (rdC hC.1 rfl) ?_
  refine s67 (inC hC.1 (a := 85) (k := 0) rfl) (fun c1 => ?_) (fun c1 => ?_)
  · replace hE := hE.1 c1
    refine xG gb54.2.1 ?_
    refine s0 ?_
    refine s80 ?_
    exact rqI_of hE
  · replace hE := hE.2 c1
    refine s6 (p := 8) rfl ?_
    refine s51 sh8 (by decide) (by decide) rf8_7 ?_
    refine s50 (v := A 91 59) sh85 (by decide) (by decide) (rdC hC.1 rfl) ?_
    refine s0 ?_
    refine s63 (inC hC.1 (a := 85) (k := 2) rfl) (inRd rfl) (fun c2 => ?_) (fun c2 => ?_)
    · replace hE := hE.1 c2
      refine xG gb54.2.2 ?_
      refine s6 (p := 8) rfl ?_
      refine s51 sh8 (by decide) (by decide) rf8_7 ?_
      refine sI rc183 rfl (Nat.le_of_ble_eq_true rfl) ?_
      refine cI_of (ls := [.ref 85]) rfl ?_
      refine xG gb183 ?_
      refine s6 (p := 85) rfl ?_
      refine s13r ?_
      refine s50 (v := A 91 59) sh85 (by decide) (by decide) (rdC hC.1 rfl) ?_
      refine s15 ?_
      refine s0 ?_
      refine s16 ?_
      refine s52 sh85 (by decide) (by decide) ?_
      refine s80 ?_
      refine rqI_of ?_
      refine s80 ?_
      exact rqI_of hE
    · replace hE := hE.2 c2
      refine s79 ?_
      refine xG gb54.2.1 ?_
      refine s0 ?_
      refine s80 ?_
      exact rqI_of hE
set_option maxRecDepth 4000 in
theorem q54 {d L n : Nat} {I : mI} {R : mR} {S : mSh} {A : aS} {K : Int32 → mM → Prop} (hX : CX R S I A n) (hW : WF A) (hn : n ≤ 100000) (hK : ∀ I1, FK I I1 → CX R S I1 (o288 A).2 (n + 1) → K (oI (o288 A).1) (bd L I1 R S)) : CallI (d + 1) 54 [.ref 8] (bd L I R S) K := by
  have hC := hX.1
  have hA := hW.1
  have w0 := hA.1
  have w1 := hA.2.1
  have w2 := hA.2.2.1
  have w3 : 0 ≤ A 91 3 ∧ A 91 3 ≤ 850 := hA.2.2.2.1
  have ty := today_year hA
  have c9 := hX.2.2.2.1
  have hV := hW.2.2.2.1
  have v0 := hV.1
  have v1 := hV.2.1
  have v2 := hV.2.2.1
  refine e54 (d := d) hC ?_
  refine ⟨fun c1 => ?_, fun c1 => ?_⟩
  · have ho : o288 A = ((-1), A) := by
      unfold o288
      repeat' split
      all_goals first | with_reducible rfl | (exfalso; omega) | exact Prod.ext (by dsimp only; omega) rfl | exact Prod.ext (by dsimp only) rfl
    rw [ho] at hK
    exact hK I (FK.refl I) (hX.up (Nat.le_succ n))
  · refine ⟨fun c2 => ?_, fun c2 => ?_⟩
    · have ho : o288 A = ((A 91 59), (u2 A 91 59 ((A 91 59 + 1)))) := by
        unfold o288
        repeat' split
        all_goals first | with_reducible rfl | (exfalso; omega) | exact Prod.ext (by dsimp only; omega) rfl | exact Prod.ext (by dsimp only) rfl
      rw [ho] at hK
      have h0 : RelC0 (u2 I 85 2 (oI (A 91 59 + 1))) (u2 A 91 59 ((A 91 59 + 1))) := (RelC0.set hC.1 (a := 85) (k := 2) (v := (A 91 59 + 1)) rfl (by first | assumption | exact inRd rfl | omega | exact ⟨by omega, by omega⟩ | (unfold WnOk; omega) | exact hW.1 | exact hW.2.1 | exact hW.2.2.1 | exact hW.2.2.2.1 | exact hW.2.2.2.2.1 | exact hW.2.2.2.2.2.2.2.2.2.1 | exact hW.2.2.2.2.2.2.2.2.2.2.1 | (constructor <;> omega)))
      have hr : RC R S (u2 I 85 2 (oI (A 91 59 + 1))) (u2 A 91 59 ((A 91 59 + 1))) := RC.st hC h0 (PKx.wr (PKx.refl I) rfl) (Ko.set (Ko.refl _ _ _) rfl) (Ko.set (Ko.refl _ _ _) rfl) (Ko.set (Ko.refl _ _ _) rfl) (Ko.set (Ko.refl _ _ _) rfl)
      exact hK _ (FK.wr (FK.refl I) (by decide)) (CX.up (hX.ko (Ko.set (Ko.refl _ _ _) rfl) hr (MmK.wr (MmK.refl I) rfl) rfl) (Nat.le_succ n))
    · have ho : o288 A = ((-1), A) := by
        unfold o288
        repeat' split
        all_goals first | with_reducible rfl | (exfalso; omega) | exact Prod.ext (by dsimp only; omega) rfl | exact Prod.ext (by dsimp only) rfl
      rw [ho] at hK
      exact hK I (FK.refl I) (hX.up (Nat.le_succ n))
set_option maxRecDepth 4000 in
theorem e58 {d L : Nat} {I : Nat → Nat → Int32} {R : Nat → Nat → Option Nat} {S : List (Nat × Nat)} {K : Int32 → mM → Prop} {A : aS} (hC : RC R S I A) {x1 : Int} (hE : inR x1 ∧ (((1 ≤ x1 ∧ x1 ≤ 500) → ((A 91 63 < 40) → (0 ≤ A 91 63 ∧ A 91 63 < 40) ∧ (K (oI (A 91 63)) (bd L (u2 (u2 I 20 (A 91 63).toNat (oI x1)) 9 13 (oI (A 91 63 + 1))) R S))) ∧ (¬ (A 91 63 < 40) → K (oI (-1)) (bd L I R S))) ∧ (¬ (1 ≤ x1 ∧ x1 ≤ 500) → K (oI (-1)) (bd L I R S)))) : CallI (d + 1) 58 [.ref 8, .int (oI x1)] (bd L I R S) K := by
  refine cI_of (ls := [.ref 8, .int (oI x1)]) rfl ?_
  refine xG gb58.1 ?_
  refine s4 (x := x1) rfl ?_
  refine s0 ?_
  refine s0 ?_
  obtain ⟨g1, hE⟩ := hE
  refine sI rc3 rfl (Nat.le_of_ble_eq_true rfl) ?_
  refine k3 g1 (inRd rfl) (inRd rfl) (fun c2 => ?_) (fun c2 => ?_)
  · replace hE := hE.1 c2
    refine s67 (inRd rfl) (fun c3 => absurd c3 (by decide)) (fun _ => ?_)
    refine s6 (p := 8) rfl ?_
    refine s51 sh8 (by decide) (by decide) rf8_0 ?_
    refine s50 (v := A 91 63) sh9 (by decide) (by decide) (rdC hC.1 rfl) ?_
    refine s0 ?_
    refine s63 (inC hC.1 (a := 9) (k := 13) rfl) (inRd rfl) (fun c4 => ?_) (fun c4 => ?_)
    · replace hE := hE.1 c4
      refine xG gb58.2.2 ?_
      refine s6 (p := 8) rfl ?_
      refine s51 sh8 (by decide) (by decide) rf8_0 ?_
      refine s4 (x := x1) rfl ?_
      refine sI rc75 rfl (Nat.le_of_ble_eq_true rfl) ?_
      refine cI_of (ls := [.ref 9, .int (oI x1)]) rfl ?_
      refine xG gb75 ?_
      refine s6 (p := 9) rfl ?_
      refine s51 sh9 (by decide) (by decide) rf9_10 ?_
      refine s6 (p := 9) rfl ?_
      refine s50 (v := A 91 63) sh9 (by decide) (by decide) (rdC hC.1 rfl) ?_
      refine s4 (x := x1) rfl ?_
      obtain ⟨g5, hE⟩ := hE
      refine s44 sh20 (by decide) g5 rfl ?_
      refine s6 (p := 9) rfl ?_
      refine s13r ?_
      refine s50 (v := A 91 63) sh9 (by decide) (by decide) ((v2_ne (by decide)).trans (rdC hC.1 rfl)) ?_
      refine s15 ?_
      refine s0 ?_
      refine s16 ?_
      refine s52 sh9 (by decide) (by decide) ?_
      refine s80 ?_
      refine rqI_of ?_
      refine s80 ?_
      exact rqI_of hE
    · replace hE := hE.2 c4
      refine s79 ?_
      refine xG gb58.2.1 ?_
      refine s0 ?_
      refine s80 ?_
      exact rqI_of hE
  · replace hE := hE.2 c2
    refine s67 (inRd rfl) (fun _ => ?_) (fun c6 => absurd (by decide) c6)
    refine xG gb58.2.1 ?_
    refine s0 ?_
    refine s80 ?_
    exact rqI_of hE
set_option maxRecDepth 4000 in
theorem q58 {d L n : Nat} {I : mI} {R : mR} {S : mSh} {A : aS} {K : Int32 → mM → Prop} {x1 : Int} (hX : CX R S I A n) (hW : WF A) (hn : n ≤ 100000) (rx1 : inR x1) (hK : ∀ I1, FK I I1 → CX R S I1 (o295 A x1).2 (n + 1) → K (oI (o295 A x1).1) (bd L I1 R S)) : CallI (d + 1) 58 [.ref 8, .int (oI x1)] (bd L I R S) K := by
  have hC := hX.1
  have hA := hW.1
  have w0 := hA.1
  have w1 := hA.2.1
  have w2 := hA.2.2.1
  have w3 : 0 ≤ A 91 3 ∧ A 91 3 ≤ 850 := hA.2.2.2.1
  have ty := today_year hA
  have c9 := hX.2.2.2.1
  have hT := hW.2.2.1
  have t0 := hT.1
  have t1 := hT.2.2.1
  refine e58 (d := d) hC ?_
  refine ⟨by first | assumption | exact inRd rfl | omega | exact ⟨by omega, by omega⟩ | (unfold WnOk; omega) | exact hW.1 | exact hW.2.1 | exact hW.2.2.1 | exact hW.2.2.2.1 | exact hW.2.2.2.2.1 | exact hW.2.2.2.2.2.2.2.2.2.1 | exact hW.2.2.2.2.2.2.2.2.2.2.1 | (constructor <;> omega), ?_⟩
  refine ⟨fun c1 => ?_, fun c1 => ?_⟩
  · refine ⟨fun c2 => ?_, fun c2 => ?_⟩
    · refine ⟨by first | assumption | exact inRd rfl | omega | exact ⟨by omega, by omega⟩ | (unfold WnOk; omega) | exact hW.1 | exact hW.2.1 | exact hW.2.2.1 | exact hW.2.2.2.1 | exact hW.2.2.2.2.1 | exact hW.2.2.2.2.2.2.2.2.2.1 | exact hW.2.2.2.2.2.2.2.2.2.2.1 | (constructor <;> omega), ?_⟩
      have ho : o295 A x1 = ((A 91 63), (u2 (u2 A 136 (A 91 63).toNat (x1)) 91 63 ((A 91 63 + 1)))) := by
        unfold o295
        repeat' split
        all_goals first | with_reducible rfl | (exfalso; omega) | exact Prod.ext (by dsimp only; omega) rfl | exact Prod.ext (by dsimp only) rfl
      rw [ho] at hK
      have h0 : RelC0 (u2 (u2 I 20 (A 91 63).toNat (oI x1)) 9 13 (oI (A 91 63 + 1))) (u2 (u2 A 136 (A 91 63).toNat (x1)) 91 63 ((A 91 63 + 1))) := (RelC0.set (RelC0.set hC.1 (a := 20) (k := (A 91 63).toNat) (v := x1) rfl (by first | assumption | exact inRd rfl | omega | exact ⟨by omega, by omega⟩ | (unfold WnOk; omega) | exact hW.1 | exact hW.2.1 | exact hW.2.2.1 | exact hW.2.2.2.1 | exact hW.2.2.2.2.1 | exact hW.2.2.2.2.2.2.2.2.2.1 | exact hW.2.2.2.2.2.2.2.2.2.2.1 | (constructor <;> omega))) (a := 9) (k := 13) (v := (A 91 63 + 1)) rfl (by first | assumption | exact inRd rfl | omega | exact ⟨by omega, by omega⟩ | (unfold WnOk; omega) | exact hW.1 | exact hW.2.1 | exact hW.2.2.1 | exact hW.2.2.2.1 | exact hW.2.2.2.2.1 | exact hW.2.2.2.2.2.2.2.2.2.1 | exact hW.2.2.2.2.2.2.2.2.2.2.1 | (constructor <;> omega)))
      have hr : RC R S (u2 (u2 I 20 (A 91 63).toNat (oI x1)) 9 13 (oI (A 91 63 + 1))) (u2 (u2 A 136 (A 91 63).toNat (x1)) 91 63 ((A 91 63 + 1))) := RC.st hC h0 (PKx.wr (PKx.wr (PKx.refl I) rfl) rfl) (Ko.set (Ko.set (Ko.refl _ _ _) rfl) rfl) (Ko.set (Ko.set (Ko.refl _ _ _) rfl) rfl) (Ko.set (Ko.set (Ko.refl _ _ _) rfl) rfl) (Ko.set (Ko.set (Ko.refl _ _ _) rfl) rfl)
      exact hK _ (FK.wr (FK.wr (FK.refl I) (by decide)) (by decide)) (CX.up (hX.ko (Ko.set (Ko.set (Ko.refl _ _ _) rfl) rfl) hr (MmK.wr (MmK.wr (MmK.refl I) rfl) rfl) rfl) (Nat.le_succ n))
    · have ho : o295 A x1 = ((-1), A) := by
        unfold o295
        repeat' split
        all_goals first | with_reducible rfl | (exfalso; omega) | exact Prod.ext (by dsimp only; omega) rfl | exact Prod.ext (by dsimp only) rfl
      rw [ho] at hK
      exact hK I (FK.refl I) (hX.up (Nat.le_succ n))
  · have ho : o295 A x1 = ((-1), A) := by
      unfold o295
      repeat' split
      all_goals first | with_reducible rfl | (exfalso; omega) | exact Prod.ext (by dsimp only; omega) rfl | exact Prod.ext (by dsimp only) rfl
    rw [ho] at hK
    exact hK I (FK.refl I) (hX.up (Nat.le_succ n))
set_option maxRecDepth 4000 in
theorem e60 {d L : Nat} {I : Nat → Nat → Int32} {R : Nat → Nat → Option Nat} {S : List (Nat × Nat)} {K : Int32 → mM → Prop} {A : aS} (hC : RC R S I A) {x1 : Int} (hE : inR x1 ∧ ((x1 = 0 → K (oI (A 91 0)) (bd L I R S)) ∧ (x1 = 1 → K (oI (A 91 1)) (bd L I R S)) ∧ (x1 = 2 → K (oI (A 91 2)) (bd L I R S)) ∧ (x1 = 3 → K (oI (A 91 3)) (bd L I R S)) ∧ (x1 = 4 → K (oI (A 91 4)) (bd L I R S)) ∧ (x1 = 5 → K (oI (A 91 65)) (bd L I R S)) ∧ (x1 = 6 → K (oI (A 91 40)) (bd L I R S)) ∧ (x1 = 7 → K (oI (A 91 54)) (bd L I R S)) ∧ (x1 = 8 → K (oI (A 91 63)) (bd L I R S)) ∧ (x1 = 9 → K (oI (A 91 58)) (bd L I R S)) ∧ (x1 = 10 → K (oI (A 91 59)) (bd L I R S)) ∧ (x1 = 11 → K (oI (A 91 57)) (bd L I R S)) ∧ (x1 = 12 → K (oI (A 91 67)) (bd L I R S)) ∧ (¬ x1 = 0 ∧ ¬ x1 = 1 ∧ ¬ x1 = 2 ∧ ¬ x1 = 3 ∧ ¬ x1 = 4 ∧ ¬ x1 = 5 ∧ ¬ x1 = 6 ∧ ¬ x1 = 7 ∧ ¬ x1 = 8 ∧ ¬ x1 = 9 ∧ ¬ x1 = 10 ∧ ¬ x1 = 11 ∧ ¬ x1 = 12 → K (oI (-1)) (bd L I R S)))) : CallI d 60 [.ref 8, .int (oI x1)] (bd L I R S) K := by
  refine cI_of (ls := [.ref 8, .int (oI x1)]) rfl ?_
  refine xG gb60.1 ?_
  refine s4 (x := x1) rfl ?_
  obtain ⟨g1, hE⟩ := hE
  refine s76 g1 ?_
  by_cases c2 : x1 = 0
  · replace hE := hE.1 c2
    rw [show mSel ((jSW.getD 60 []).getD 0 []) (x1 - 0) = 1 by rw [c2]; rfl]
    refine xG gb60.2.1 ?_
    refine s6 (p := 8) rfl ?_
    refine s50 (v := A 91 0) sh8 (by decide) (by decide) (rdC hC.1 rfl) ?_
    refine s80 ?_
    exact rqI_of hE
  replace hE := hE.2
  by_cases c3 : x1 = 1
  · replace hE := hE.1 c3
    rw [show mSel ((jSW.getD 60 []).getD 0 []) (x1 - 0) = 2 by rw [c3]; rfl]
    refine xG gb60.2.2.1 ?_
    refine s6 (p := 8) rfl ?_
    refine s51 sh8 (by decide) (by decide) rf8_1 ?_
    refine s50 (v := A 91 1) sh21 (by decide) (by decide) (rdC hC.1 rfl) ?_
    refine s80 ?_
    exact rqI_of hE
  replace hE := hE.2
  by_cases c4 : x1 = 2
  · replace hE := hE.1 c4
    rw [show mSel ((jSW.getD 60 []).getD 0 []) (x1 - 0) = 3 by rw [c4]; rfl]
    refine xG gb60.2.2.2.1 ?_
    refine s6 (p := 8) rfl ?_
    refine s51 sh8 (by decide) (by decide) rf8_0 ?_
    refine s50 (v := A 91 2) sh9 (by decide) (by decide) (rdC hC.1 rfl) ?_
    refine s80 ?_
    exact rqI_of hE
  replace hE := hE.2
  by_cases c5 : x1 = 3
  · replace hE := hE.1 c5
    rw [show mSel ((jSW.getD 60 []).getD 0 []) (x1 - 0) = 4 by rw [c5]; rfl]
    refine xG gb60.2.2.2.2.1 ?_
    refine s6 (p := 8) rfl ?_
    refine s51 sh8 (by decide) (by decide) rf8_2 ?_
    refine s50 (v := A 91 3) sh31 (by decide) (by decide) (rdC hC.1 rfl) ?_
    refine s80 ?_
    exact rqI_of hE
  replace hE := hE.2
  by_cases c6 : x1 = 4
  · replace hE := hE.1 c6
    rw [show mSel ((jSW.getD 60 []).getD 0 []) (x1 - 0) = 5 by rw [c6]; rfl]
    refine xG gb60.2.2.2.2.2.1 ?_
    refine s6 (p := 8) rfl ?_
    refine s51 sh8 (by decide) (by decide) rf8_2 ?_
    refine s50 (v := A 91 4) sh31 (by decide) (by decide) (rdC hC.1 rfl) ?_
    refine s80 ?_
    exact rqI_of hE
  replace hE := hE.2
  by_cases c7 : x1 = 5
  · replace hE := hE.1 c7
    rw [show mSel ((jSW.getD 60 []).getD 0 []) (x1 - 0) = 6 by rw [c7]; rfl]
    refine xG gb60.2.2.2.2.2.2.1 ?_
    refine s6 (p := 8) rfl ?_
    refine s51 sh8 (by decide) (by decide) rf8_3 ?_
    refine s50 (v := A 91 65) sh43 (by decide) (by decide) (rdC hC.1 rfl) ?_
    refine s80 ?_
    exact rqI_of hE
  replace hE := hE.2
  by_cases c8 : x1 = 6
  · replace hE := hE.1 c8
    rw [show mSel ((jSW.getD 60 []).getD 0 []) (x1 - 0) = 7 by rw [c8]; rfl]
    refine xG gb60.2.2.2.2.2.2.2.1 ?_
    refine s6 (p := 8) rfl ?_
    refine s51 sh8 (by decide) (by decide) rf8_1 ?_
    refine s50 (v := A 91 40) sh21 (by decide) (by decide) (rdC hC.1 rfl) ?_
    refine s80 ?_
    exact rqI_of hE
  replace hE := hE.2
  by_cases c9 : x1 = 7
  · replace hE := hE.1 c9
    rw [show mSel ((jSW.getD 60 []).getD 0 []) (x1 - 0) = 8 by rw [c9]; rfl]
    refine xG gb60.2.2.2.2.2.2.2.2.1 ?_
    refine s6 (p := 8) rfl ?_
    refine s51 sh8 (by decide) (by decide) rf8_0 ?_
    refine s50 (v := A 91 54) sh9 (by decide) (by decide) (rdC hC.1 rfl) ?_
    refine s80 ?_
    exact rqI_of hE
  replace hE := hE.2
  by_cases c10 : x1 = 8
  · replace hE := hE.1 c10
    rw [show mSel ((jSW.getD 60 []).getD 0 []) (x1 - 0) = 9 by rw [c10]; rfl]
    refine xG gb60.2.2.2.2.2.2.2.2.2.1 ?_
    refine s6 (p := 8) rfl ?_
    refine s51 sh8 (by decide) (by decide) rf8_0 ?_
    refine s50 (v := A 91 63) sh9 (by decide) (by decide) (rdC hC.1 rfl) ?_
    refine s80 ?_
    exact rqI_of hE
  replace hE := hE.2
  by_cases c11 : x1 = 9
  · replace hE := hE.1 c11
    rw [show mSel ((jSW.getD 60 []).getD 0 []) (x1 - 0) = 10 by rw [c11]; rfl]
    refine xG gb60.2.2.2.2.2.2.2.2.2.2.1 ?_
    refine s6 (p := 8) rfl ?_
    refine s51 sh8 (by decide) (by decide) rf8_7 ?_
    refine s50 (v := A 91 58) sh85 (by decide) (by decide) (rdC hC.1 rfl) ?_
    refine s80 ?_
    exact rqI_of hE
  replace hE := hE.2
  by_cases c12 : x1 = 10
  · replace hE := hE.1 c12
    rw [show mSel ((jSW.getD 60 []).getD 0 []) (x1 - 0) = 11 by rw [c12]; rfl]
    refine xG gb60.2.2.2.2.2.2.2.2.2.2.2.1 ?_
    refine s6 (p := 8) rfl ?_
    refine s51 sh8 (by decide) (by decide) rf8_7 ?_
    refine s50 (v := A 91 59) sh85 (by decide) (by decide) (rdC hC.1 rfl) ?_
    refine s80 ?_
    exact rqI_of hE
  replace hE := hE.2
  by_cases c13 : x1 = 11
  · replace hE := hE.1 c13
    rw [show mSel ((jSW.getD 60 []).getD 0 []) (x1 - 0) = 12 by rw [c13]; rfl]
    refine xG gb60.2.2.2.2.2.2.2.2.2.2.2.2.1 ?_
    refine s6 (p := 8) rfl ?_
    refine s51 sh8 (by decide) (by decide) rf8_7 ?_
    refine s50 (v := A 91 57) sh85 (by decide) (by decide) (rdC hC.1 rfl) ?_
    refine s80 ?_
    exact rqI_of hE
  replace hE := hE.2
  by_cases c14 : x1 = 12
  · replace hE := hE.1 c14
    rw [show mSel ((jSW.getD 60 []).getD 0 []) (x1 - 0) = 13 by rw [c14]; rfl]
    refine xG gb60.2.2.2.2.2.2.2.2.2.2.2.2.2.1 ?_
    refine s6 (p := 8) rfl ?_
    refine s51 sh8 (by decide) (by decide) rf8_3 ?_
    refine s50 (v := A 91 67) sh43 (by decide) (by decide) (rdC hC.1 rfl) ?_
    refine s80 ?_
    exact rqI_of hE
  replace hE := hE.2
  replace hE := hE ⟨c2, c3, c4, c5, c6, c7, c8, c9, c10, c11, c12, c13, c14⟩
  rw [show mSel ((jSW.getD 60 []).getD 0 []) (x1 - 0) = 14 by exact mSel_def (lo := 0) (vs := [0, 1, 2, 3, 4, 5, 6, 7, 8, 9, 10, 11, 12]) rfl (by intro v hv; simp only [List.mem_cons, List.not_mem_nil, or_false] at hv; omega)]
  refine xG gb60.2.2.2.2.2.2.2.2.2.2.2.2.2.2 ?_
  refine s0 ?_
  refine s80 ?_
  exact rqI_of hE
set_option maxRecDepth 4000 in
theorem q60 {d L n : Nat} {I : mI} {R : mR} {S : mSh} {A : aS} {K : Int32 → mM → Prop} {x1 : Int} (hX : CX R S I A n) (hW : WF A) (hn : n ≤ 100000) (rx1 : inR x1) (hK : ∀ I1, FK I I1 → CX R S I1 (o330 A x1).2 (n + 1) → K (oI (o330 A x1).1) (bd L I1 R S)) : CallI (d + 0) 60 [.ref 8, .int (oI x1)] (bd L I R S) K := by
  have hC := hX.1
  have hA := hW.1
  have w0 := hA.1
  have w1 := hA.2.1
  have w2 := hA.2.2.1
  have w3 : 0 ≤ A 91 3 ∧ A 91 3 ≤ 850 := hA.2.2.2.1
  have ty := today_year hA
  have c9 := hX.2.2.2.1
  refine e60 (d := d) hC ?_
  refine ⟨by first | assumption | exact inRd rfl | omega | exact ⟨by omega, by omega⟩ | (unfold WnOk; omega) | exact hW.1 | exact hW.2.1 | exact hW.2.2.1 | exact hW.2.2.2.1 | exact hW.2.2.2.2.1 | exact hW.2.2.2.2.2.2.2.2.2.1 | exact hW.2.2.2.2.2.2.2.2.2.2.1 | (constructor <;> omega), ?_⟩
  refine ⟨fun c1 => ?_, fun c1 => ?_, fun c1 => ?_, fun c1 => ?_, fun c1 => ?_, fun c1 => ?_, fun c1 => ?_, fun c1 => ?_, fun c1 => ?_, fun c1 => ?_, fun c1 => ?_, fun c1 => ?_, fun c1 => ?_, fun c1 => ?_⟩
  · have ho : o330 A x1 = ((A 91 0), A) := by
      unfold o330
      rw [if_pos c1]
    rw [ho] at hK
    exact hK I (FK.refl I) (hX.up (Nat.le_succ n))
  · have ho : o330 A x1 = ((A 91 1), A) := by
      unfold o330
      rw [if_neg (by omega), if_pos c1]
    rw [ho] at hK
    exact hK I (FK.refl I) (hX.up (Nat.le_succ n))
  · have ho : o330 A x1 = ((A 91 2), A) := by
      unfold o330
      rw [if_neg (by omega), if_neg (by omega), if_pos c1]
    rw [ho] at hK
    exact hK I (FK.refl I) (hX.up (Nat.le_succ n))
  · have ho : o330 A x1 = ((A 91 3), A) := by
      unfold o330
      rw [if_neg (by omega), if_neg (by omega), if_neg (by omega), if_pos c1]
    rw [ho] at hK
    exact hK I (FK.refl I) (hX.up (Nat.le_succ n))
  · have ho : o330 A x1 = ((A 91 4), A) := by
      unfold o330
      rw [if_neg (by omega), if_neg (by omega), if_neg (by omega), if_neg (by omega), if_pos c1]
    rw [ho] at hK
    exact hK I (FK.refl I) (hX.up (Nat.le_succ n))
  · have ho : o330 A x1 = ((A 91 65), A) := by
      unfold o330
      rw [if_neg (by omega), if_neg (by omega), if_neg (by omega), if_neg (by omega), if_neg (by omega), if_pos c1]
    rw [ho] at hK
    exact hK I (FK.refl I) (hX.up (Nat.le_succ n))
  · have ho : o330 A x1 = ((A 91 40), A) := by
      unfold o330
      rw [if_neg (by omega), if_neg (by omega), if_neg (by omega), if_neg (by omega), if_neg (by omega), if_neg (by omega), if_pos c1]
    rw [ho] at hK
    exact hK I (FK.refl I) (hX.up (Nat.le_succ n))
  · have ho : o330 A x1 = ((A 91 54), A) := by
      unfold o330
      rw [if_neg (by omega), if_neg (by omega), if_neg (by omega), if_neg (by omega), if_neg (by omega), if_neg (by omega), if_neg (by omega), if_pos c1]
    rw [ho] at hK
    exact hK I (FK.refl I) (hX.up (Nat.le_succ n))
  · have ho : o330 A x1 = ((A 91 63), A) := by
      unfold o330
      rw [if_neg (by omega), if_neg (by omega), if_neg (by omega), if_neg (by omega), if_neg (by omega), if_neg (by omega), if_neg (by omega), if_neg (by omega), if_pos c1]
    rw [ho] at hK
    exact hK I (FK.refl I) (hX.up (Nat.le_succ n))
  · have ho : o330 A x1 = ((A 91 58), A) := by
      unfold o330
      rw [if_neg (by omega), if_neg (by omega), if_neg (by omega), if_neg (by omega), if_neg (by omega), if_neg (by omega), if_neg (by omega), if_neg (by omega), if_neg (by omega), if_pos c1]
    rw [ho] at hK
    exact hK I (FK.refl I) (hX.up (Nat.le_succ n))
  · have ho : o330 A x1 = ((A 91 59), A) := by
      unfold o330
      rw [if_neg (by omega), if_neg (by omega), if_neg (by omega), if_neg (by omega), if_neg (by omega), if_neg (by omega), if_neg (by omega), if_neg (by omega), if_neg (by omega), if_neg (by omega), if_pos c1]
    rw [ho] at hK
    exact hK I (FK.refl I) (hX.up (Nat.le_succ n))
  · have ho : o330 A x1 = ((A 91 57), A) := by
      unfold o330
      rw [if_neg (by omega), if_neg (by omega), if_neg (by omega), if_neg (by omega), if_neg (by omega), if_neg (by omega), if_neg (by omega), if_neg (by omega), if_neg (by omega), if_neg (by omega), if_neg (by omega), if_pos c1]
    rw [ho] at hK
    exact hK I (FK.refl I) (hX.up (Nat.le_succ n))
  · have ho : o330 A x1 = ((A 91 67), A) := by
      unfold o330
      rw [if_neg (by omega), if_neg (by omega), if_neg (by omega), if_neg (by omega), if_neg (by omega), if_neg (by omega), if_neg (by omega), if_neg (by omega), if_neg (by omega), if_neg (by omega), if_neg (by omega), if_neg (by omega), if_pos c1]
    rw [ho] at hK
    exact hK I (FK.refl I) (hX.up (Nat.le_succ n))
  · have ho : o330 A x1 = ((-1), A) := by
      unfold o330
      rw [if_neg (by omega), if_neg (by omega), if_neg (by omega), if_neg (by omega), if_neg (by omega), if_neg (by omega), if_neg (by omega), if_neg (by omega), if_neg (by omega), if_neg (by omega), if_neg (by omega), if_neg (by omega), if_neg (by omega)]
    rw [ho] at hK
    exact hK I (FK.refl I) (hX.up (Nat.le_succ n))
set_option maxRecDepth 4000 in
theorem e44 {d L : Nat} {I : Nat → Nat → Int32} {R : Nat → Nat → Option Nat} {S : List (Nat × Nat)} {K : Int32 → mM → Prop} {A : aS} (hC : RC R S I A)  (hE : K (oI (A 91 71)) (bd L I R S)) : CallI d 44 [.ref 8] (bd L I R S) K := by
  refine cI_of (ls := [.ref 8]) rfl ?_
  refine xG gb44 ?_
  refine s6 (p := 8) rfl ?_
  refine s51 sh8 (by decide) (by decide) rf8_3 ?_
  refine s50 (v := A 91 71) sh43 (by decide) (by decide) (rdC hC.1 rfl) ?_
  refine s80 ?_
  exact rqI_of hE
set_option maxRecDepth 4000 in
theorem q44 {d L n : Nat} {I : mI} {R : mR} {S : mSh} {A : aS} {K : Int32 → mM → Prop} (hX : CX R S I A n) (hW : WF A) (hn : n ≤ 100000) (hK : ∀ I1, FK I I1 → CX R S I1 (o319 A).2 (n + 1) → K (oI (o319 A).1) (bd L I1 R S)) : CallI (d + 0) 44 [.ref 8] (bd L I R S) K := by
  have hC := hX.1
  have hA := hW.1
  have w0 := hA.1
  have w1 := hA.2.1
  have w2 := hA.2.2.1
  have w3 : 0 ≤ A 91 3 ∧ A 91 3 ≤ 850 := hA.2.2.2.1
  have ty := today_year hA
  have c9 := hX.2.2.2.1
  refine e44 (d := d) hC ?_
  have ho : o319 A = ((A 91 71), A) := by
    unfold o319
    repeat' split
    all_goals first | with_reducible rfl | (exfalso; omega) | exact Prod.ext (by dsimp only; omega) rfl | exact Prod.ext (by dsimp only) rfl
  rw [ho] at hK
  exact hK I (FK.refl I) (hX.up (Nat.le_succ n))
set_option maxRecDepth 4000 in
theorem e18 {d L : Nat} {I : Nat → Nat → Int32} {R : Nat → Nat → Option Nat} {S : List (Nat × Nat)} {K : Int32 → mM → Prop} {A : aS} (hC : RC R S I A) {x1 : Int} {x2 : Int} (hE : inR x1 ∧ (inR (A 91 3 - 1) ∧ (((0 ≤ x1 ∧ x1 ≤ A 91 3 - 1) → inR x2 ∧ ((x2 = 0 → (0 ≤ x1 ∧ x1 < 850) ∧ (K (oI (A 103 x1.toNat)) (bd L I R S))) ∧ (x2 = 1 → (0 ≤ x1 ∧ x1 < 850) ∧ (K (oI (A 104 x1.toNat)) (bd L I R S))) ∧ (x2 = 2 → (0 ≤ x1 ∧ x1 < 850) ∧ (K (oI (A 108 x1.toNat)) (bd L I R S))) ∧ (x2 = 3 → (0 ≤ x1 ∧ x1 < 850) ∧ (K (oI (ld I 38 x1.toNat)) (bd L I R S))) ∧ (¬ x2 = 0 ∧ ¬ x2 = 1 ∧ ¬ x2 = 2 ∧ ¬ x2 = 3 → K (oI (-1)) (bd L I R S)))) ∧ (¬ (0 ≤ x1 ∧ x1 ≤ A 91 3 - 1) → K (oI (-1)) (bd L I R S))))) : CallI (d + 2) 18 [.ref 8, .int (oI x1), .int (oI x2)] (bd L I R S) K := by
  refine cI_of (ls := [.ref 8, .int (oI x1), .int (oI x2)]) rfl ?_
  refine xG gb18 ?_
  refine s6 (p := 8) rfl ?_
  refine s51 sh8 (by decide) (by decide) rf8_2 ?_
  refine s4 (x := x1) rfl ?_
  refine s4 (x := x2) rfl ?_
  refine sI rc94 rfl (Nat.le_of_ble_eq_true rfl) ?_
  refine cI_of (ls := [.ref 31, .int (oI x1), .int (oI x2)]) rfl ?_
  refine xG gb94.1 ?_
  refine s4 (x := x1) rfl ?_
  refine s0 ?_
  refine s6 (p := 31) rfl ?_
  refine s50 (v := A 91 3) sh31 (by decide) (by decide) (rdC hC.1 rfl) ?_
  refine s0 ?_
  refine s17 ?_
  obtain ⟨g1, hE⟩ := hE
  obtain ⟨g2, hE⟩ := hE
  refine sI rc3 rfl (Nat.le_of_ble_eq_true rfl) ?_
  refine k3 g1 (inRd rfl) g2 (fun c3 => ?_) (fun c3 => ?_)
  · replace hE := hE.1 c3
    refine s68 (inRd rfl) (fun c4 => absurd c4 (by decide)) (fun _ => ?_)
    refine xG gb94.2.1 ?_
    refine s4 (x := x2) rfl ?_
    obtain ⟨g5, hE⟩ := hE
    refine s76 g5 ?_
    by_cases c6 : x2 = 0
    · replace hE := hE.1 c6
      rw [show mSel ((jSW.getD 94 []).getD 0 []) (x2 - 0) = 2 by rw [c6]; rfl]
      refine xG gb94.2.2.1 ?_
      refine s6 (p := 31) rfl ?_
      refine s51 sh31 (by decide) (by decide) rf31_0 ?_
      refine s4 (x := x1) rfl ?_
      obtain ⟨g7, hE⟩ := hE
      refine s40 (v := A 103 x1.toNat) sh32 g7 rfl (rdC hC.1 rfl) ?_
      refine s80 ?_
      refine rqI_of ?_
      refine s80 ?_
      exact rqI_of hE
    replace hE := hE.2
    by_cases c8 : x2 = 1
    · replace hE := hE.1 c8
      rw [show mSel ((jSW.getD 94 []).getD 0 []) (x2 - 0) = 3 by rw [c8]; rfl]
      refine xG gb94.2.2.2.1 ?_
      refine s6 (p := 31) rfl ?_
      refine s51 sh31 (by decide) (by decide) rf31_4 ?_
      refine s4 (x := x1) rfl ?_
      obtain ⟨g9, hE⟩ := hE
      refine s40 (v := A 104 x1.toNat) sh36 g9 rfl (rdC hC.1 rfl) ?_
      refine s80 ?_
      refine rqI_of ?_
      refine s80 ?_
      exact rqI_of hE
    replace hE := hE.2
    by_cases c10 : x2 = 2
    · replace hE := hE.1 c10
      rw [show mSel ((jSW.getD 94 []).getD 0 []) (x2 - 0) = 4 by rw [c10]; rfl]
      refine xG gb94.2.2.2.2.1 ?_
      refine s6 (p := 31) rfl ?_
      refine s51 sh31 (by decide) (by decide) rf31_5 ?_
      refine s4 (x := x1) rfl ?_
      obtain ⟨g11, hE⟩ := hE
      refine s40 (v := A 108 x1.toNat) sh37 g11 rfl (rdC hC.1 rfl) ?_
      refine s80 ?_
      refine rqI_of ?_
      refine s80 ?_
      exact rqI_of hE
    replace hE := hE.2
    by_cases c12 : x2 = 3
    · replace hE := hE.1 c12
      rw [show mSel ((jSW.getD 94 []).getD 0 []) (x2 - 0) = 5 by rw [c12]; rfl]
      refine xG gb94.2.2.2.2.2.1 ?_
      refine s6 (p := 31) rfl ?_
      refine s51 sh31 (by decide) (by decide) rf31_6 ?_
      refine s4 (x := x1) rfl ?_
      obtain ⟨g13, hE⟩ := hE
      refine s40 (v := ld I 38 x1.toNat) sh38 g13 rfl (oI_ld _ _ _) ?_
      refine s80 ?_
      refine rqI_of ?_
      refine s80 ?_
      exact rqI_of hE
    replace hE := hE.2
    replace hE := hE ⟨c6, c8, c10, c12⟩
    rw [show mSel ((jSW.getD 94 []).getD 0 []) (x2 - 0) = 6 by exact mSel_def (lo := 0) (vs := [0, 1, 2, 3]) rfl (by intro v hv; simp only [List.mem_cons, List.not_mem_nil, or_false] at hv; omega)]
    refine xG gb94.2.2.2.2.2.2 ?_
    refine s0 ?_
    refine s80 ?_
    refine rqI_of ?_
    refine s80 ?_
    exact rqI_of hE
  · replace hE := hE.2 c3
    refine s68 (inRd rfl) (fun _ => ?_) (fun c14 => absurd (by decide) c14)
    refine s0 ?_
    refine s80 ?_
    refine rqI_of ?_
    refine s80 ?_
    exact rqI_of hE
set_option maxRecDepth 4000 in
theorem q18 {d L n : Nat} {I : mI} {R : mR} {S : mSh} {A : aS} {K : Int32 → mM → Prop} {x1 : Int} {x2 : Int} (hX : CX R S I A n) (hW : WF A) (hn : n ≤ 100000) (rx1 : inR x1) (rx2 : inR x2) (hK : ∀ I1, FK I I1 → CX R S I1 (o244 A x1 x2).2 (n + 1) → K (oI (o244 A x1 x2).1) (bd L I1 R S)) : CallI (d + 2) 18 [.ref 8, .int (oI x1), .int (oI x2)] (bd L I R S) K := by
  have hC := hX.1
  have hA := hW.1
  have w0 := hA.1
  have w1 := hA.2.1
  have w2 := hA.2.2.1
  have w3 : 0 ≤ A 91 3 ∧ A 91 3 ≤ 850 := hA.2.2.2.1
  have ty := today_year hA
  have c9 := hX.2.2.2.1
  have b38 : 0 ≤ x1 ∧ x1 ≤ A 91 3 - 1 → ld I 38 x1.toNat = unN (A 109 x1.toNat) := fun h => (hC.2.2.1.1 x1.toNat (by unfold nN; omega)).2.2.2.1
  have b1 : A 109 x1.toNat = 5000 → unN (A 109 x1.toNat) = -1 := fun h => if_pos h
  have b2 : ¬ A 109 x1.toNat = 5000 → unN (A 109 x1.toNat) = A 109 x1.toNat := fun h => if_neg h
  refine e18 (d := d) hC ?_
  refine ⟨by first | assumption | exact inRd rfl | omega | exact ⟨by omega, by omega⟩ | (unfold WnOk; omega) | exact hW.1 | exact hW.2.1 | exact hW.2.2.1 | exact hW.2.2.2.1 | exact hW.2.2.2.2.1 | exact hW.2.2.2.2.2.2.2.2.2.1 | exact hW.2.2.2.2.2.2.2.2.2.2.1 | (constructor <;> omega), ?_⟩
  refine ⟨by first | assumption | exact inRd rfl | omega | exact ⟨by omega, by omega⟩ | (unfold WnOk; omega) | exact hW.1 | exact hW.2.1 | exact hW.2.2.1 | exact hW.2.2.2.1 | exact hW.2.2.2.2.1 | exact hW.2.2.2.2.2.2.2.2.2.1 | exact hW.2.2.2.2.2.2.2.2.2.2.1 | (constructor <;> omega), ?_⟩
  refine ⟨fun c1 => ?_, fun c1 => ?_⟩
  · refine ⟨by first | assumption | exact inRd rfl | omega | exact ⟨by omega, by omega⟩ | (unfold WnOk; omega) | exact hW.1 | exact hW.2.1 | exact hW.2.2.1 | exact hW.2.2.2.1 | exact hW.2.2.2.2.1 | exact hW.2.2.2.2.2.2.2.2.2.1 | exact hW.2.2.2.2.2.2.2.2.2.2.1 | (constructor <;> omega), ?_⟩
    refine ⟨fun c2 => ?_, fun c2 => ?_, fun c2 => ?_, fun c2 => ?_, fun c2 => ?_⟩
    · refine ⟨by first | assumption | exact inRd rfl | omega | exact ⟨by omega, by omega⟩ | (unfold WnOk; omega) | exact hW.1 | exact hW.2.1 | exact hW.2.2.1 | exact hW.2.2.2.1 | exact hW.2.2.2.2.1 | exact hW.2.2.2.2.2.2.2.2.2.1 | exact hW.2.2.2.2.2.2.2.2.2.2.1 | (constructor <;> omega), ?_⟩
      have ho : o244 A x1 x2 = ((A 103 x1.toNat), A) := by
        unfold o244
        repeat' split
        all_goals first | with_reducible rfl | (exfalso; omega) | exact Prod.ext (by dsimp only; omega) rfl | exact Prod.ext (by dsimp only) rfl
      rw [ho] at hK
      exact hK I (FK.refl I) (hX.up (Nat.le_succ n))
    · refine ⟨by first | assumption | exact inRd rfl | omega | exact ⟨by omega, by omega⟩ | (unfold WnOk; omega) | exact hW.1 | exact hW.2.1 | exact hW.2.2.1 | exact hW.2.2.2.1 | exact hW.2.2.2.2.1 | exact hW.2.2.2.2.2.2.2.2.2.1 | exact hW.2.2.2.2.2.2.2.2.2.2.1 | (constructor <;> omega), ?_⟩
      have ho : o244 A x1 x2 = ((A 104 x1.toNat), A) := by
        unfold o244
        repeat' split
        all_goals first | with_reducible rfl | (exfalso; omega) | exact Prod.ext (by dsimp only; omega) rfl | exact Prod.ext (by dsimp only) rfl
      rw [ho] at hK
      exact hK I (FK.refl I) (hX.up (Nat.le_succ n))
    · refine ⟨by first | assumption | exact inRd rfl | omega | exact ⟨by omega, by omega⟩ | (unfold WnOk; omega) | exact hW.1 | exact hW.2.1 | exact hW.2.2.1 | exact hW.2.2.2.1 | exact hW.2.2.2.2.1 | exact hW.2.2.2.2.2.2.2.2.2.1 | exact hW.2.2.2.2.2.2.2.2.2.2.1 | (constructor <;> omega), ?_⟩
      have ho : o244 A x1 x2 = ((A 108 x1.toNat), A) := by
        unfold o244
        repeat' split
        all_goals first | with_reducible rfl | (exfalso; omega) | exact Prod.ext (by dsimp only; omega) rfl | exact Prod.ext (by dsimp only) rfl
      rw [ho] at hK
      exact hK I (FK.refl I) (hX.up (Nat.le_succ n))
    · refine ⟨by first | assumption | exact inRd rfl | omega | exact ⟨by omega, by omega⟩ | (unfold WnOk; omega) | exact hW.1 | exact hW.2.1 | exact hW.2.2.1 | exact hW.2.2.2.1 | exact hW.2.2.2.2.1 | exact hW.2.2.2.2.2.2.2.2.2.1 | exact hW.2.2.2.2.2.2.2.2.2.2.1 | (constructor <;> omega), ?_⟩
      have ho : o244 A x1 x2 = ((ld I 38 x1.toNat), A) := by
        unfold o244
        repeat' split
        all_goals first | with_reducible rfl | (exfalso; omega) | exact Prod.ext (by dsimp only; omega) rfl | exact Prod.ext (by dsimp only) rfl
      rw [ho] at hK
      exact hK I (FK.refl I) (hX.up (Nat.le_succ n))
    · have ho : o244 A x1 x2 = ((-1), A) := by
        unfold o244
        repeat' split
        all_goals first | with_reducible rfl | (exfalso; omega) | exact Prod.ext (by dsimp only; omega) rfl | exact Prod.ext (by dsimp only) rfl
      rw [ho] at hK
      exact hK I (FK.refl I) (hX.up (Nat.le_succ n))
  · have ho : o244 A x1 x2 = ((-1), A) := by
      unfold o244
      repeat' split
      all_goals first | with_reducible rfl | (exfalso; omega) | exact Prod.ext (by dsimp only; omega) rfl | exact Prod.ext (by dsimp only) rfl
    rw [ho] at hK
    exact hK I (FK.refl I) (hX.up (Nat.le_succ n))
set_option maxRecDepth 4000 in
theorem e31 {d L : Nat} {I : Nat → Nat → Int32} {R : Nat → Nat → Option Nat} {S : List (Nat × Nat)} {K : Int32 → mM → Prop} {A : aS} (hC : RC R S I A) {x1 : Int} {x2 : Int} (hE : inR x1 ∧ (inR (A 91 2 - 1) ∧ (((0 ≤ x1 ∧ x1 ≤ A 91 2 - 1) → inR x2 ∧ (((0 ≤ x2 ∧ x2 ≤ 7) → WfC A ∧ ((0 ≤ x2 ∧ x2 ≤ 7) ∧ (inR (tlS A zE x2 138 1 0) ∧ (((tlS A zE x2 138 1 0 = 0) → K (oI (-1)) (bd L I R S)) ∧ (¬ (tlS A zE x2 138 1 0 = 0) → (0 ≤ x1 ∧ x1 < 6) ∧ (0 < tlS A zE x2 138 1 0 ∧ (K (oI (Int.tdiv (A 100 x1.toNat) (tlS A zE x2 138 1 0))) (bd L I R S)))))))) ∧ (¬ (0 ≤ x2 ∧ x2 ≤ 7) → K (oI (-2)) (bd L I R S)))) ∧ (¬ (0 ≤ x1 ∧ x1 ≤ A 91 2 - 1) → K (oI (-2)) (bd L I R S))))) : CallI (d + 26) 31 [.ref 8, .int (oI x1), .int (oI x2)] (bd L I R S) K := by
  refine cI_of (ls := [.ref 8, .int (oI x1), .int (oI x2)]) rfl ?_
  refine xG gb31.1 ?_
  refine s6 (p := 8) rfl ?_
  refine s4 (x := x1) rfl ?_
  refine sI rc9 rfl (Nat.le_of_ble_eq_true rfl) ?_
  refine cI_of (ls := [.ref 8, .int (oI x1)]) rfl ?_
  refine xG gb9 ?_
  refine s4 (x := x1) rfl ?_
  refine s0 ?_
  refine s6 (p := 8) rfl ?_
  refine s51 sh8 (by decide) (by decide) rf8_0 ?_
  refine s50 (v := A 91 2) sh9 (by decide) (by decide) (rdC hC.1 rfl) ?_
  refine s0 ?_
  refine s17 ?_
  obtain ⟨g1, hE⟩ := hE
  obtain ⟨g2, hE⟩ := hE
  refine sI rc3 rfl (Nat.le_of_ble_eq_true rfl) ?_
  refine k3 g1 (inRd rfl) g2 (fun c3 => ?_) (fun c3 => ?_)
  · replace hE := hE.1 c3
    refine s84 (by decide) ?_
    refine rqI_of ?_
    refine s67 (inRd rfl) (fun c4 => absurd c4 (by decide)) (fun _ => ?_)
    refine s4 (x := x2) rfl ?_
    refine sI rc22 rfl (Nat.le_of_ble_eq_true rfl) ?_
    refine cI_of (ls := [.int (oI x2)]) rfl ?_
    refine xG gb22 ?_
    refine s4 (x := x2) rfl ?_
    refine s0 ?_
    refine s0 ?_
    obtain ⟨g5, hE⟩ := hE
    refine sI rc3 rfl (Nat.le_of_ble_eq_true rfl) ?_
    refine k3 g5 (inRd rfl) (inRd rfl) (fun c6 => ?_) (fun c6 => ?_)
    · replace hE := hE.1 c6
      refine s84 (by decide) ?_
      refine rqI_of ?_
      refine s68 (inRd rfl) (fun c7 => absurd c7 (by decide)) (fun _ => ?_)
      refine xG gb31.2.2 ?_
      refine s6 (p := 8) rfl ?_
      refine s51 sh8 (by decide) (by decide) rf8_0 ?_
      refine s4 (x := x1) rfl ?_
      refine s6 (p := 8) rfl ?_
      refine s51 sh8 (by decide) (by decide) rf8_3 ?_
      refine s4 (x := x2) rfl ?_
      refine s0 ?_
      refine s0 ?_
      refine s0 ?_
      refine sI rc96 rfl (Nat.le_of_ble_eq_true rfl) ?_
      refine cI_of (ls := [.ref 43, .int (oI x2), .int (oI 138), .int (oI 1), .int (oI 0)]) rfl ?_
      refine xG gb96 ?_
      refine s6 (p := 43) rfl ?_
      refine s4 (x := x2) rfl ?_
      refine s4 (x := 138) rfl ?_
      refine s4 (x := 1) rfl ?_
      refine s6 (p := 43) rfl ?_
      refine s51 sh43 (by decide) (by decide) rf43_13 ?_
      refine s4 (x := 0) rfl ?_
      obtain ⟨g8, hE⟩ := hE
      obtain ⟨g9, hE⟩ := hE
      refine sI rc97 rfl (Nat.le_of_ble_eq_true rfl) ?_
      refine k97a58 hC g8 (RC.zE hC) g9 (⟨by decide, by decide⟩ : (130 : Int) ≤ 138 ∧ (138 : Int) ≤ 144) (inRd rfl) ?_
      refine s80 ?_
      refine rqI_of ?_
      refine sI rc65 rfl (Nat.le_of_ble_eq_true rfl) ?_
      refine cI_of (ls := [.ref 9, .int (oI x1), .int (oI (tlS A zE x2 138 1 0))]) rfl ?_
      refine xG gb65.1 ?_
      refine s4 (x := tlS A zE x2 138 1 0) rfl ?_
      obtain ⟨g10, hE⟩ := hE
      refine s68 g10 (fun c11 => ?_) (fun c11 => ?_)
      · replace hE := hE.1 c11
        refine s0 ?_
        refine s60 ?_
        refine xG gb65.2.2 ?_
        refine s80 ?_
        refine rqI_of ?_
        refine s80 ?_
        exact rqI_of hE
      · replace hE := hE.2 c11
        refine xG gb65.2.1 ?_
        refine s6 (p := 9) rfl ?_
        refine s51 sh9 (by decide) (by decide) rf9_6 ?_
        refine s4 (x := x1) rfl ?_
        obtain ⟨g12, hE⟩ := hE
        refine s40 (v := A 100 x1.toNat) sh16 g12 rfl (rdC hC.1 rfl) ?_
        refine s4 (x := tlS A zE x2 138 1 0) rfl ?_
        obtain ⟨g13, hE⟩ := hE
        refine s19 (inC hC.1 (a := 16) (k := x1.toNat) rfl) ⟨g10, g13⟩ ?_
        refine s79 ?_
        refine xG gb65.2.2 ?_
        refine s80 ?_
        refine rqI_of ?_
        refine s80 ?_
        exact rqI_of hE
    · replace hE := hE.2 c6
      refine s84 (by decide) ?_
      refine rqI_of ?_
      refine s68 (inRd rfl) (fun _ => ?_) (fun c14 => absurd (by decide) c14)
      refine s79 ?_
      refine xG gb31.2.1 ?_
      refine s0 ?_
      refine s80 ?_
      exact rqI_of hE
  · replace hE := hE.2 c3
    refine s84 (by decide) ?_
    refine rqI_of ?_
    refine s67 (inRd rfl) (fun _ => ?_) (fun c15 => absurd (by decide) c15)
    refine xG gb31.2.1 ?_
    refine s0 ?_
    refine s80 ?_
    exact rqI_of hE
set_option maxRecDepth 4000 in
theorem q31 {d L n : Nat} {I : mI} {R : mR} {S : mSh} {A : aS} {K : Int32 → mM → Prop} {x1 : Int} {x2 : Int} (hX : CX R S I A n) (hW : WF A) (hn : n ≤ 100000) (rx1 : inR x1) (rx2 : inR x2) (hK : ∀ I1, FK I I1 → CX R S I1 (o270 A x1 x2).2 (n + 1) → K (oI (o270 A x1 x2).1) (bd L I1 R S)) : CallI (d + 26) 31 [.ref 8, .int (oI x1), .int (oI x2)] (bd L I R S) K := by
  have hC := hX.1
  have hA := hW.1
  have w0 := hA.1
  have w1 := hA.2.1
  have w2 := hA.2.2.1
  have w3 : 0 ≤ A 91 3 ∧ A 91 3 ≤ 850 := hA.2.2.2.1
  have ty := today_year hA
  have c9 := hX.2.2.2.1
  have t10 : tlS A zE x2 138 1 0 = lnS A x2 10 0 := tlS_ln (b := 10) hW.2.2.2.2.2.2.2.2.2.2.1 (by omega)
  have t10i := tlS_in (A := A) (ow := 0) (h := zE) (y := x2) (kd := 138) (mask := 1) hW.2.2.2.2.2.2.2.2.2.2.1
  refine e31 (d := d) hC ?_
  refine ⟨by first | assumption | exact inRd rfl | omega | exact ⟨by omega, by omega⟩ | (unfold WnOk; omega) | exact hW.1 | exact hW.2.1 | exact hW.2.2.1 | exact hW.2.2.2.1 | exact hW.2.2.2.2.1 | exact hW.2.2.2.2.2.2.2.2.2.1 | exact hW.2.2.2.2.2.2.2.2.2.2.1 | (constructor <;> omega), ?_⟩
  refine ⟨by first | assumption | exact inRd rfl | omega | exact ⟨by omega, by omega⟩ | (unfold WnOk; omega) | exact hW.1 | exact hW.2.1 | exact hW.2.2.1 | exact hW.2.2.2.1 | exact hW.2.2.2.2.1 | exact hW.2.2.2.2.2.2.2.2.2.1 | exact hW.2.2.2.2.2.2.2.2.2.2.1 | (constructor <;> omega), ?_⟩
  refine ⟨fun c1 => ?_, fun c1 => ?_⟩
  · refine ⟨by first | assumption | exact inRd rfl | omega | exact ⟨by omega, by omega⟩ | (unfold WnOk; omega) | exact hW.1 | exact hW.2.1 | exact hW.2.2.1 | exact hW.2.2.2.1 | exact hW.2.2.2.2.1 | exact hW.2.2.2.2.2.2.2.2.2.1 | exact hW.2.2.2.2.2.2.2.2.2.2.1 | (constructor <;> omega), ?_⟩
    refine ⟨fun c2 => ?_, fun c2 => ?_⟩
    · refine ⟨by first | assumption | exact inRd rfl | omega | exact ⟨by omega, by omega⟩ | (unfold WnOk; omega) | exact hW.1 | exact hW.2.1 | exact hW.2.2.1 | exact hW.2.2.2.1 | exact hW.2.2.2.2.1 | exact hW.2.2.2.2.2.2.2.2.2.1 | exact hW.2.2.2.2.2.2.2.2.2.2.1 | (constructor <;> omega), ?_⟩
      refine ⟨by first | assumption | exact inRd rfl | omega | exact ⟨by omega, by omega⟩ | (unfold WnOk; omega) | exact hW.1 | exact hW.2.1 | exact hW.2.2.1 | exact hW.2.2.2.1 | exact hW.2.2.2.2.1 | exact hW.2.2.2.2.2.2.2.2.2.1 | exact hW.2.2.2.2.2.2.2.2.2.2.1 | (constructor <;> omega), ?_⟩
      refine ⟨by first | assumption | exact inRd rfl | omega | exact ⟨by omega, by omega⟩ | (unfold WnOk; omega) | exact hW.1 | exact hW.2.1 | exact hW.2.2.1 | exact hW.2.2.2.1 | exact hW.2.2.2.2.1 | exact hW.2.2.2.2.2.2.2.2.2.1 | exact hW.2.2.2.2.2.2.2.2.2.2.1 | (constructor <;> omega), ?_⟩
      refine ⟨fun c3 => ?_, fun c3 => ?_⟩
      · have ho : o270 A x1 x2 = ((-1), A) := by
          unfold o270
          repeat' split
          all_goals first | (exfalso; omega) | exact Prod.ext (by dsimp only; unfold hoS; rw [← t10, if_pos (by assumption)]) rfl | exact Prod.ext (by dsimp only; unfold hoS; rw [← t10, if_neg (by assumption)]) rfl | with_reducible rfl
        rw [ho] at hK
        exact hK I (FK.refl I) (hX.up (Nat.le_succ n))
      · refine ⟨by first | assumption | exact inRd rfl | omega | exact ⟨by omega, by omega⟩ | (unfold WnOk; omega) | exact hW.1 | exact hW.2.1 | exact hW.2.2.1 | exact hW.2.2.2.1 | exact hW.2.2.2.2.1 | exact hW.2.2.2.2.2.2.2.2.2.1 | exact hW.2.2.2.2.2.2.2.2.2.2.1 | (constructor <;> omega), ?_⟩
        refine ⟨by first | assumption | exact inRd rfl | omega | exact ⟨by omega, by omega⟩ | (unfold WnOk; omega) | exact hW.1 | exact hW.2.1 | exact hW.2.2.1 | exact hW.2.2.2.1 | exact hW.2.2.2.2.1 | exact hW.2.2.2.2.2.2.2.2.2.1 | exact hW.2.2.2.2.2.2.2.2.2.2.1 | (constructor <;> omega), ?_⟩
        have ho : o270 A x1 x2 = ((Int.tdiv (A 100 x1.toNat) (tlS A zE x2 138 1 0)), A) := by
          unfold o270
          repeat' split
          all_goals first | (exfalso; omega) | exact Prod.ext (by dsimp only; unfold hoS; rw [← t10, if_pos (by assumption)]) rfl | exact Prod.ext (by dsimp only; unfold hoS; rw [← t10, if_neg (by assumption)]) rfl | with_reducible rfl
        rw [ho] at hK
        exact hK I (FK.refl I) (hX.up (Nat.le_succ n))
    · have ho : o270 A x1 x2 = ((-2), A) := by
        unfold o270
        repeat' split
        all_goals first | (exfalso; omega) | exact Prod.ext (by dsimp only; unfold hoS; rw [← t10, if_pos (by assumption)]) rfl | exact Prod.ext (by dsimp only; unfold hoS; rw [← t10, if_neg (by assumption)]) rfl | with_reducible rfl
      rw [ho] at hK
      exact hK I (FK.refl I) (hX.up (Nat.le_succ n))
  · have ho : o270 A x1 x2 = ((-2), A) := by
      unfold o270
      repeat' split
      all_goals first | (exfalso; omega) | exact Prod.ext (by dsimp only; unfold hoS; rw [← t10, if_pos (by assumption)]) rfl | exact Prod.ext (by dsimp only; unfold hoS; rw [← t10, if_neg (by assumption)]) rfl | with_reducible rfl
    rw [ho] at hK
    exact hK I (FK.refl I) (hX.up (Nat.le_succ n))
set_option maxRecDepth 4000 in
theorem e35 {d L : Nat} {I : Nat → Nat → Int32} {R : Nat → Nat → Option Nat} {S : List (Nat × Nat)} {K : Int32 → mM → Prop} {A : aS} (hC : RC R S I A) {x1 : Int} {x2 : Int} {x3 : Int} (hE : inR x1 ∧ (inR (A 91 40 - 1) ∧ (((0 ≤ x1 ∧ x1 ≤ A 91 40 - 1) → inR x2 ∧ (((0 ≤ x2 ∧ x2 ≤ 7) → (0 ≤ x1 ∧ x1 < 20) ∧ (((x2 < A 122 x1.toNat) → K (oI (-1)) (bd L I R S)) ∧ (¬ (x2 < A 122 x1.toNat) → inR x3 ∧ (((0 ≤ x3 ∧ x3 ≤ 1) → WfT A ∧ (WfC A ∧ ((0 ≤ x1 ∧ x1 < A 91 40) ∧ ((A 122 x1.toNat ≤ x2 ∧ x2 ≤ 7) ∧ (((x3 = 0) → K (oI (sttS A x1 x2)) (bd L I R S)) ∧ (¬ (x3 = 0) → (0 ≤ x2 ∧ x2 ≤ 7) ∧ (K (oI (tlS A zE x2 141 (iShl 1 (sttS A x1 x2)) 0)) (bd L I R S)))))))) ∧ (¬ (0 ≤ x3 ∧ x3 ≤ 1) → K (oI (-1)) (bd L I R S)))))) ∧ (¬ (0 ≤ x2 ∧ x2 ≤ 7) → K (oI (-1)) (bd L I R S)))) ∧ (¬ (0 ≤ x1 ∧ x1 ≤ A 91 40 - 1) → K (oI (-1)) (bd L I R S))))) : CallI (d + 27) 35 [.ref 8, .int (oI x1), .int (oI x2), .int (oI x3)] (bd L I R S) K := by
  refine cI_of (ls := [.ref 8, .int (oI x1), .int (oI x2), .int (oI x3), mUn, mUn]) rfl ?_
  refine xG gb35.1 ?_
  refine s6 (p := 8) rfl ?_
  refine s4 (x := x1) rfl ?_
  refine sI rc34 rfl (Nat.le_of_ble_eq_true rfl) ?_
  refine cI_of (ls := [.ref 8, .int (oI x1)]) rfl ?_
  refine xG gb34 ?_
  refine s4 (x := x1) rfl ?_
  refine s0 ?_
  refine s6 (p := 8) rfl ?_
  refine s51 sh8 (by decide) (by decide) rf8_1 ?_
  refine s50 (v := A 91 40) sh21 (by decide) (by decide) (rdC hC.1 rfl) ?_
  refine s0 ?_
  refine s17 ?_
  obtain ⟨g1, hE⟩ := hE
  obtain ⟨g2, hE⟩ := hE
  refine sI rc3 rfl (Nat.le_of_ble_eq_true rfl) ?_
  refine k3 g1 (inRd rfl) g2 (fun c3 => ?_) (fun c3 => ?_)
  · replace hE := hE.1 c3
    refine s84 (by decide) ?_
    refine rqI_of ?_
    refine s67 (inRd rfl) (fun c4 => absurd c4 (by decide)) (fun _ => ?_)
    refine s4 (x := x2) rfl ?_
    refine sI rc22 rfl (Nat.le_of_ble_eq_true rfl) ?_
    refine cI_of (ls := [.int (oI x2)]) rfl ?_
    refine xG gb22 ?_
    refine s4 (x := x2) rfl ?_
    refine s0 ?_
    refine s0 ?_
    obtain ⟨g5, hE⟩ := hE
    refine sI rc3 rfl (Nat.le_of_ble_eq_true rfl) ?_
    refine k3 g5 (inRd rfl) (inRd rfl) (fun c6 => ?_) (fun c6 => ?_)
    · replace hE := hE.1 c6
      refine s84 (by decide) ?_
      refine rqI_of ?_
      refine s67 (inRd rfl) (fun c7 => absurd c7 (by decide)) (fun _ => ?_)
      refine s4 (x := x2) rfl ?_
      refine s6 (p := 8) rfl ?_
      refine s51 sh8 (by decide) (by decide) rf8_1 ?_
      refine s51 sh21 (by decide) (by decide) rf21_6 ?_
      refine s4 (x := x1) rfl ?_
      obtain ⟨g8, hE⟩ := hE
      refine s40 (v := A 122 x1.toNat) sh28 g8 rfl (rdC hC.1 rfl) ?_
      refine s63 g5 (inC hC.1 (a := 28) (k := x1.toNat) rfl) (fun c9 => ?_) (fun c9 => ?_)
      · replace hE := hE.1 c9
        refine xG gb35.2.1 ?_
        refine s0 ?_
        refine s79 ?_
        refine xG gb35.2.2.1 ?_
        refine s7 (ls' := [.ref 8, .int (oI x1), .int (oI x2), .int (oI x3), .int (oI 0), mUn]) (Nat.le_of_ble_eq_true rfl) rfl ?_
        refine s4 (x := 0) rfl ?_
        refine s67 (inRd rfl) (fun _ => ?_) (fun c10 => absurd (by decide) c10)
        refine xG gb35.2.2.2.1 ?_
        refine s0 ?_
        refine s80 ?_
        exact rqI_of hE
      · replace hE := hE.2 c9
        refine s0 ?_
        refine s60 ?_
        refine xG gb35.2.2.1 ?_
        refine s7 (ls' := [.ref 8, .int (oI x1), .int (oI x2), .int (oI x3), .int (oI 1), mUn]) (Nat.le_of_ble_eq_true rfl) rfl ?_
        refine s4 (x := 1) rfl ?_
        refine s67 (inRd rfl) (fun c11 => absurd c11 (by decide)) (fun _ => ?_)
        refine s4 (x := x3) rfl ?_
        refine s0 ?_
        refine s0 ?_
        obtain ⟨g12, hE⟩ := hE
        refine sI rc3 rfl (Nat.le_of_ble_eq_true rfl) ?_
        refine k3 g12 (inRd rfl) (inRd rfl) (fun c13 => ?_) (fun c13 => ?_)
        · replace hE := hE.1 c13
          refine s68 (inRd rfl) (fun c14 => absurd c14 (by decide)) (fun _ => ?_)
          refine xG gb35.2.2.2.2.1 ?_
          refine s6 (p := 8) rfl ?_
          refine s4 (x := x1) rfl ?_
          refine s4 (x := x2) rfl ?_
          obtain ⟨g15, hE⟩ := hE
          obtain ⟨g16, hE⟩ := hE
          obtain ⟨g17, hE⟩ := hE
          obtain ⟨g18, hE⟩ := hE
          refine sI rc36 rfl (Nat.le_of_ble_eq_true rfl) ?_
          refine k36 hC g15 g16 g17 g18 ?_
          refine s7 (ls' := [.ref 8, .int (oI x1), .int (oI x2), .int (oI x3), .int (oI 1), .int (oI (sttS A x1 x2))]) (Nat.le_of_ble_eq_true rfl) rfl ?_
          refine s4 (x := x3) rfl ?_
          refine s68 g12 (fun c19 => ?_) (fun c19 => ?_)
          · replace hE := hE.1 c19
            refine s4 (x := sttS A x1 x2) rfl ?_
            refine s60 ?_
            refine xG gb35.2.2.2.2.2.2 ?_
            refine s80 ?_
            exact rqI_of hE
          · replace hE := hE.2 c19
            refine xG gb35.2.2.2.2.2.1 ?_
            refine s6 (p := 8) rfl ?_
            refine s51 sh8 (by decide) (by decide) rf8_3 ?_
            refine s4 (x := x2) rfl ?_
            refine s0 ?_
            refine s0 ?_
            refine s4 (x := sttS A x1 x2) rfl ?_
            refine s22 ?_
            refine s0 ?_
            refine sI rc96 rfl (Nat.le_of_ble_eq_true rfl) ?_
            refine cI_of (ls := [.ref 43, .int (oI x2), .int (oI 141), .int (oI (iShl 1 (sttS A x1 x2))), .int (oI 0)]) rfl ?_
            refine xG gb96 ?_
            refine s6 (p := 43) rfl ?_
            refine s4 (x := x2) rfl ?_
            refine s4 (x := 141) rfl ?_
            refine s4 (x := iShl 1 (sttS A x1 x2)) rfl ?_
            refine s6 (p := 43) rfl ?_
            refine s51 sh43 (by decide) (by decide) rf43_13 ?_
            refine s4 (x := 0) rfl ?_
            obtain ⟨g20, hE⟩ := hE
            refine sI rc97 rfl (Nat.le_of_ble_eq_true rfl) ?_
            refine k97a58 hC g16 (RC.zE hC) g20 (⟨by decide, by decide⟩ : (130 : Int) ≤ 141 ∧ (141 : Int) ≤ 144) (inRd rfl) ?_
            refine s80 ?_
            refine rqI_of ?_
            refine s79 ?_
            refine xG gb35.2.2.2.2.2.2 ?_
            refine s80 ?_
            exact rqI_of hE
        · replace hE := hE.2 c13
          refine s68 (inRd rfl) (fun _ => ?_) (fun c21 => absurd (by decide) c21)
          refine s79 ?_
          refine xG gb35.2.2.2.1 ?_
          refine s0 ?_
          refine s80 ?_
          exact rqI_of hE
    · replace hE := hE.2 c6
      refine s84 (by decide) ?_
      refine rqI_of ?_
      refine s67 (inRd rfl) (fun _ => ?_) (fun c22 => absurd (by decide) c22)
      refine xG gb35.2.1 ?_
      refine s0 ?_
      refine s79 ?_
      refine xG gb35.2.2.1 ?_
      refine s7 (ls' := [.ref 8, .int (oI x1), .int (oI x2), .int (oI x3), .int (oI 0), mUn]) (Nat.le_of_ble_eq_true rfl) rfl ?_
      refine s4 (x := 0) rfl ?_
      refine s67 (inRd rfl) (fun _ => ?_) (fun c23 => absurd (by decide) c23)
      refine xG gb35.2.2.2.1 ?_
      refine s0 ?_
      refine s80 ?_
      exact rqI_of hE
  · replace hE := hE.2 c3
    refine s84 (by decide) ?_
    refine rqI_of ?_
    refine s67 (inRd rfl) (fun _ => ?_) (fun c24 => absurd (by decide) c24)
    refine xG gb35.2.1 ?_
    refine s0 ?_
    refine s79 ?_
    refine xG gb35.2.2.1 ?_
    refine s7 (ls' := [.ref 8, .int (oI x1), .int (oI x2), .int (oI x3), .int (oI 0), mUn]) (Nat.le_of_ble_eq_true rfl) rfl ?_
    refine s4 (x := 0) rfl ?_
    refine s67 (inRd rfl) (fun _ => ?_) (fun c25 => absurd (by decide) c25)
    refine xG gb35.2.2.2.1 ?_
    refine s0 ?_
    refine s80 ?_
    exact rqI_of hE
set_option maxRecDepth 4000 in
theorem q35 {d L n : Nat} {I : mI} {R : mR} {S : mSh} {A : aS} {K : Int32 → mM → Prop} {x1 : Int} {x2 : Int} {x3 : Int} (hX : CX R S I A n) (hW : WF A) (hn : n ≤ 100000) (rx1 : inR x1) (rx2 : inR x2) (rx3 : inR x3) (hK : ∀ I1, FK I I1 → CX R S I1 (o273 A x1 x2 x3).2 (n + 1) → K (oI (o273 A x1 x2 x3).1) (bd L I1 R S)) : CallI (d + 27) 35 [.ref 8, .int (oI x1), .int (oI x2), .int (oI x3)] (bd L I R S) K := by
  have hC := hX.1
  have hA := hW.1
  have w0 := hA.1
  have w1 := hA.2.1
  have w2 := hA.2.2.1
  have w3 : 0 ≤ A 91 3 ∧ A 91 3 ≤ 850 := hA.2.2.2.1
  have ty := today_year hA
  have c9 := hX.2.2.2.1
  have hT := hW.2.2.1
  have t0 := hT.1
  have t1 := hT.2.2.1
  have ts := spL_in (A := A) (t := x1) (x2 - A 122 x1.toNat).toNat
  have tk : tlS A zE x2 141 (iShl 1 (sttS A x1 x2)) 0 = if fsS A zE x2 13 (sttS A x1 x2) = -1 then 0 else A 142 (cdS A x2 (fsS A zE x2 13 (sttS A x1 x2))).toNat := tlS_key (b := 13) hW.2.2.2.2.2.2.2.2.2.2.1 (by omega) (by unfold sttS; omega)
  refine e35 (d := d) hC ?_
  refine ⟨by first | assumption | exact inRd rfl | omega | exact ⟨by omega, by omega⟩ | (unfold WnOk; omega) | exact hW.1 | exact hW.2.1 | exact hW.2.2.1 | exact hW.2.2.2.1 | exact hW.2.2.2.2.1 | exact hW.2.2.2.2.2.2.2.2.2.1 | exact hW.2.2.2.2.2.2.2.2.2.2.1 | (constructor <;> omega), ?_⟩
  refine ⟨by first | assumption | exact inRd rfl | omega | exact ⟨by omega, by omega⟩ | (unfold WnOk; omega) | exact hW.1 | exact hW.2.1 | exact hW.2.2.1 | exact hW.2.2.2.1 | exact hW.2.2.2.2.1 | exact hW.2.2.2.2.2.2.2.2.2.1 | exact hW.2.2.2.2.2.2.2.2.2.2.1 | (constructor <;> omega), ?_⟩
  refine ⟨fun c1 => ?_, fun c1 => ?_⟩
  · refine ⟨by first | assumption | exact inRd rfl | omega | exact ⟨by omega, by omega⟩ | (unfold WnOk; omega) | exact hW.1 | exact hW.2.1 | exact hW.2.2.1 | exact hW.2.2.2.1 | exact hW.2.2.2.2.1 | exact hW.2.2.2.2.2.2.2.2.2.1 | exact hW.2.2.2.2.2.2.2.2.2.2.1 | (constructor <;> omega), ?_⟩
    refine ⟨fun c2 => ?_, fun c2 => ?_⟩
    · refine ⟨by first | assumption | exact inRd rfl | omega | exact ⟨by omega, by omega⟩ | (unfold WnOk; omega) | exact hW.1 | exact hW.2.1 | exact hW.2.2.1 | exact hW.2.2.2.1 | exact hW.2.2.2.2.1 | exact hW.2.2.2.2.2.2.2.2.2.1 | exact hW.2.2.2.2.2.2.2.2.2.2.1 | (constructor <;> omega), ?_⟩
      refine ⟨fun c3 => ?_, fun c3 => ?_⟩
      · have ho : o273 A x1 x2 x3 = ((-1), A) := by
          unfold o273
          repeat' split
          all_goals first | with_reducible rfl | (exfalso; omega) | exact Prod.ext (by dsimp only; omega) rfl | exact Prod.ext (by dsimp only) rfl | exact Prod.ext (by dsimp only; rw [tk, if_pos (by assumption)]) rfl | exact Prod.ext (by dsimp only; rw [tk, if_neg (by assumption)]) rfl
        rw [ho] at hK
        exact hK I (FK.refl I) (hX.up (Nat.le_succ n))
      · refine ⟨by first | assumption | exact inRd rfl | omega | exact ⟨by omega, by omega⟩ | (unfold WnOk; omega) | exact hW.1 | exact hW.2.1 | exact hW.2.2.1 | exact hW.2.2.2.1 | exact hW.2.2.2.2.1 | exact hW.2.2.2.2.2.2.2.2.2.1 | exact hW.2.2.2.2.2.2.2.2.2.2.1 | (constructor <;> omega), ?_⟩
        refine ⟨fun c4 => ?_, fun c4 => ?_⟩
        · refine ⟨by first | assumption | exact inRd rfl | omega | exact ⟨by omega, by omega⟩ | (unfold WnOk; omega) | exact hW.1 | exact hW.2.1 | exact hW.2.2.1 | exact hW.2.2.2.1 | exact hW.2.2.2.2.1 | exact hW.2.2.2.2.2.2.2.2.2.1 | exact hW.2.2.2.2.2.2.2.2.2.2.1 | (constructor <;> omega), ?_⟩
          refine ⟨by first | assumption | exact inRd rfl | omega | exact ⟨by omega, by omega⟩ | (unfold WnOk; omega) | exact hW.1 | exact hW.2.1 | exact hW.2.2.1 | exact hW.2.2.2.1 | exact hW.2.2.2.2.1 | exact hW.2.2.2.2.2.2.2.2.2.1 | exact hW.2.2.2.2.2.2.2.2.2.2.1 | (constructor <;> omega), ?_⟩
          refine ⟨by first | assumption | exact inRd rfl | omega | exact ⟨by omega, by omega⟩ | (unfold WnOk; omega) | exact hW.1 | exact hW.2.1 | exact hW.2.2.1 | exact hW.2.2.2.1 | exact hW.2.2.2.2.1 | exact hW.2.2.2.2.2.2.2.2.2.1 | exact hW.2.2.2.2.2.2.2.2.2.2.1 | (constructor <;> omega), ?_⟩
          refine ⟨by first | assumption | exact inRd rfl | omega | exact ⟨by omega, by omega⟩ | (unfold WnOk; omega) | exact hW.1 | exact hW.2.1 | exact hW.2.2.1 | exact hW.2.2.2.1 | exact hW.2.2.2.2.1 | exact hW.2.2.2.2.2.2.2.2.2.1 | exact hW.2.2.2.2.2.2.2.2.2.2.1 | (constructor <;> omega), ?_⟩
          refine ⟨fun c5 => ?_, fun c5 => ?_⟩
          · have ho : o273 A x1 x2 x3 = ((sttS A x1 x2), A) := by
              unfold o273
              repeat' split
              all_goals first | with_reducible rfl | (exfalso; omega) | exact Prod.ext (by dsimp only; omega) rfl | exact Prod.ext (by dsimp only) rfl | exact Prod.ext (by dsimp only; rw [tk, if_pos (by assumption)]) rfl | exact Prod.ext (by dsimp only; rw [tk, if_neg (by assumption)]) rfl
            rw [ho] at hK
            exact hK I (FK.refl I) (hX.up (Nat.le_succ n))
          · refine ⟨by first | assumption | exact inRd rfl | omega | exact ⟨by omega, by omega⟩ | (unfold WnOk; omega) | exact hW.1 | exact hW.2.1 | exact hW.2.2.1 | exact hW.2.2.2.1 | exact hW.2.2.2.2.1 | exact hW.2.2.2.2.2.2.2.2.2.1 | exact hW.2.2.2.2.2.2.2.2.2.2.1 | (constructor <;> omega), ?_⟩
            have ho : o273 A x1 x2 x3 = ((tlS A zE x2 141 (iShl 1 (sttS A x1 x2)) 0), A) := by
              unfold o273
              repeat' split
              all_goals first | with_reducible rfl | (exfalso; omega) | exact Prod.ext (by dsimp only; omega) rfl | exact Prod.ext (by dsimp only) rfl | exact Prod.ext (by dsimp only; rw [tk, if_pos (by assumption)]) rfl | exact Prod.ext (by dsimp only; rw [tk, if_neg (by assumption)]) rfl
            rw [ho] at hK
            exact hK I (FK.refl I) (hX.up (Nat.le_succ n))
        · have ho : o273 A x1 x2 x3 = ((-1), A) := by
            unfold o273
            repeat' split
            all_goals first | with_reducible rfl | (exfalso; omega) | exact Prod.ext (by dsimp only; omega) rfl | exact Prod.ext (by dsimp only) rfl | exact Prod.ext (by dsimp only; rw [tk, if_pos (by assumption)]) rfl | exact Prod.ext (by dsimp only; rw [tk, if_neg (by assumption)]) rfl
          rw [ho] at hK
          exact hK I (FK.refl I) (hX.up (Nat.le_succ n))
    · have ho : o273 A x1 x2 x3 = ((-1), A) := by
        unfold o273
        repeat' split
        all_goals first | with_reducible rfl | (exfalso; omega) | exact Prod.ext (by dsimp only; omega) rfl | exact Prod.ext (by dsimp only) rfl | exact Prod.ext (by dsimp only; rw [tk, if_pos (by assumption)]) rfl | exact Prod.ext (by dsimp only; rw [tk, if_neg (by assumption)]) rfl
      rw [ho] at hK
      exact hK I (FK.refl I) (hX.up (Nat.le_succ n))
  · have ho : o273 A x1 x2 x3 = ((-1), A) := by
      unfold o273
      repeat' split
      all_goals first | with_reducible rfl | (exfalso; omega) | exact Prod.ext (by dsimp only; omega) rfl | exact Prod.ext (by dsimp only) rfl | exact Prod.ext (by dsimp only; rw [tk, if_pos (by assumption)]) rfl | exact Prod.ext (by dsimp only; rw [tk, if_neg (by assumption)]) rfl
    rw [ho] at hK
    exact hK I (FK.refl I) (hX.up (Nat.le_succ n))
set_option maxRecDepth 4000 in
theorem e57 {d L : Nat} {I : Nat → Nat → Int32} {R : Nat → Nat → Option Nat} {S : List (Nat × Nat)} {K : Int32 → mM → Prop} {A : aS} (hC : RC R S I A) {x1 : Int} (hE : inR x1 ∧ (((0 ≤ x1 ∧ x1 ≤ 3) → ((A 91 57 = 0) → K (oI (-1)) (bd L I R S)) ∧ (¬ (A 91 57 = 0) → WfV A ∧ (∀ (I6 : mI), (Fr [88] [] I I6) → K (oI (suD A x1 (min (nkL A x1 (A 91 58).toNat) (A 91 57)).toNat)) (bd L I6 R S)))) ∧ (¬ (0 ≤ x1 ∧ x1 ≤ 3) → K (oI (-1)) (bd L I R S)))) : CallI (d + 3) 57 [.ref 8, .int (oI x1)] (bd L I R S) K := by
  refine cI_of (ls := [.ref 8, .int (oI x1)]) rfl ?_
  refine xG gb57.1 ?_
  refine s4 (x := x1) rfl ?_
  refine s0 ?_
  refine s0 ?_
  obtain ⟨g1, hE⟩ := hE
  refine sI rc3 rfl (Nat.le_of_ble_eq_true rfl) ?_
  refine k3 g1 (inRd rfl) (inRd rfl) (fun c2 => ?_) (fun c2 => ?_)
  · replace hE := hE.1 c2
    refine s67 (inRd rfl) (fun c3 => absurd c3 (by decide)) (fun _ => ?_)
    refine s6 (p := 8) rfl ?_
    refine s51 sh8 (by decide) (by decide) rf8_7 ?_
    refine s50 (v := A 91 57) sh85 (by decide) (by decide) (rdC hC.1 rfl) ?_
    refine s68 (inC hC.1 (a := 85) (k := 0) rfl) (fun c4 => ?_) (fun c4 => ?_)
    · replace hE := hE.1 c4
      refine s79 ?_
      refine xG gb57.2.1 ?_
      refine s0 ?_
      refine s80 ?_
      exact rqI_of hE
    · replace hE := hE.2 c4
      refine xG gb57.2.2 ?_
      refine s6 (p := 8) rfl ?_
      refine s51 sh8 (by decide) (by decide) rf8_7 ?_
      refine s4 (x := x1) rfl ?_
      obtain ⟨g5, hE⟩ := hE
      refine sI rc187 rfl (Nat.le_of_ble_eq_true rfl) ?_
      refine k187 hC g5 g1 (fun I6 q7 => ?_)
      replace hE := hE I6 q7
      refine s80 ?_
      exact rqI_of hE
  · replace hE := hE.2 c2
    refine s67 (inRd rfl) (fun _ => ?_) (fun c8 => absurd (by decide) c8)
    refine xG gb57.2.1 ?_
    refine s0 ?_
    refine s80 ?_
    exact rqI_of hE
set_option maxRecDepth 4000 in
theorem q57 {d L n : Nat} {I : mI} {R : mR} {S : mSh} {A : aS} {K : Int32 → mM → Prop} {x1 : Int} (hX : CX R S I A n) (hW : WF A) (hn : n ≤ 100000) (rx1 : inR x1) (hK : ∀ I1, FK I I1 → CX R S I1 A (n + 1) → K (oI (sureA A x1)) (bd L I1 R S)) : CallI (d + 3) 57 [.ref 8, .int (oI x1)] (bd L I R S) K := by
  have hC := hX.1
  have hA := hW.1
  have w0 := hA.1
  have w1 := hA.2.1
  have w2 := hA.2.2.1
  have w3 : 0 ≤ A 91 3 ∧ A 91 3 ≤ 850 := hA.2.2.2.1
  have ty := today_year hA
  have c9 := hX.2.2.2.1
  have hV := hW.2.2.2.1
  have v0 := hV.1
  have v1 := hV.2.1
  have v2 := hV.2.2.1
  refine e57 (d := d) hC ?_
  refine ⟨by first | assumption | exact inRd rfl | omega | exact ⟨by omega, by omega⟩ | (unfold WnOk; omega) | exact hW.1 | exact hW.2.1 | exact hW.2.2.1 | exact hW.2.2.2.1 | exact hW.2.2.2.2.1 | exact hW.2.2.2.2.2.2.2.2.2.1 | exact hW.2.2.2.2.2.2.2.2.2.2.1 | (constructor <;> omega), ?_⟩
  refine ⟨fun c1 => ?_, fun c1 => ?_⟩
  · refine ⟨fun c2 => ?_, fun c2 => ?_⟩
    · have ho : sureA A x1 = (-1) := by
        unfold sureA
        repeat' split
        all_goals first | rfl | (exfalso; omega) | omega
      rw [ho] at hK
      exact hK I (FK.refl I) (hX.up (Nat.le_succ n))
    · refine ⟨by first | assumption | exact inRd rfl | omega | exact ⟨by omega, by omega⟩ | (unfold WnOk; omega) | exact hW.1 | exact hW.2.1 | exact hW.2.2.1 | exact hW.2.2.2.1 | exact hW.2.2.2.2.1 | exact hW.2.2.2.2.2.2.2.2.2.1 | exact hW.2.2.2.2.2.2.2.2.2.2.1 | (constructor <;> omega), ?_⟩
      intro I6 q6
      have ho : sureA A x1 = suD A x1 (min (nkL A x1 (A 91 58).toNat) (A 91 57)).toNat := by
        unfold sureA
        rw [if_neg (by omega)]
      rw [ho] at hK
      exact hK I6 (Fr.FK q6 rfl) (CX.up (hX.fr q6 rfl rfl) (Nat.le_succ n))
  · have ho : sureA A x1 = (-1) := by
      unfold sureA
      repeat' split
      all_goals first | rfl | (exfalso; omega) | omega
    rw [ho] at hK
    exact hK I (FK.refl I) (hX.up (Nat.le_succ n))
