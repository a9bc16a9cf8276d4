set_option maxRecDepth 4000 in
theorem e1 {d L : Nat} {I : Nat → Nat → Int32} {R : Nat → Nat → Option Nat} {S : List (Nat × Nat)} {K : Int32 → mM → Prop} {A : aS} (hC : RC R S I A) {x1 : Int} (hE : inR x1 ∧ (((A 91 0 < x1) → ((799 < x1) → K (oI 0) (bd L I R S)) ∧ (¬ (799 < x1) → K (oI 1) (bd L (u2 (u2 I 8 8 (oI x1)) 8 9 (oI (ld I 8 9 + 1))) R S))) ∧ (¬ (A 91 0 < x1) → K (oI 0) (bd L I R S)))) : CallI d 1 [.ref 8, .int (oI x1)] (bd L I R S) K := by
  refine cI_of (ls := [.ref 8, .int (oI x1)]) rfl ?_
  refine xG gb1.1 ?_
  refine s4 (x := x1) rfl ?_
  refine s6 (p := 8) rfl ?_
  refine s50 (v := A 91 0) sh8 (by decide) (by decide) (rdC hC.1 rfl) ?_
  obtain ⟨g1, hE⟩ := hE
  refine s66 g1 (inC hC.1 (a := 8) (k := 8) rfl) (fun c2 => ?_) (fun c2 => ?_)
  · replace hE := hE.1 c2
    refine s4 (x := x1) rfl ?_
    refine s0 ?_
    refine s66 g1 (inRd rfl) (fun c3 => ?_) (fun c3 => ?_)
    · replace hE := hE.1 c3
      refine s79 ?_
      refine xG gb1.2.1 ?_
      refine s0 ?_
      refine s84 (by decide) ?_
      exact rqI_of hE
    · replace hE := hE.2 c3
      refine xG gb1.2.2 ?_
      refine s6 (p := 8) rfl ?_
      refine s4 (x := x1) rfl ?_
      refine s52 sh8 (by decide) (by decide) ?_
      refine s6 (p := 8) rfl ?_
      refine s13r ?_
      refine s50 (v := ld I 8 9) sh8 (by decide) (by decide) ((v2_nk (by decide)).trans (oI_ld _ _ _)) ?_
      refine s0 ?_
      refine s16 ?_
      refine s52 sh8 (by decide) (by decide) ?_
      refine s0 ?_
      refine s84 (by decide) ?_
      exact rqI_of hE
  · replace hE := hE.2 c2
    refine xG gb1.2.1 ?_
    refine s0 ?_
    refine s84 (by decide) ?_
    exact rqI_of hE
set_option maxRecDepth 4000 in
theorem q1 {d L n : Nat} {I : mI} {R : mR} {S : mSh} {A : aS} {K : Int32 → mM → Prop} {x1 : Int} (hX : CX R S I A n) (hW : WF A) (hn : n ≤ 100000) (rx1 : inR x1) (hK : ∀ I1, FK I I1 → CX R S I1 (o208 A x1).2 (n + 1) → K (oI (o208 A x1).1) (bd L I1 R S)) : CallI (d + 0) 1 [.ref 8, .int (oI x1)] (bd L I R S) K := by
  have hC := hX.1
  have hA := hW.1
  have w0 := hA.1
  have w1 := hA.2.1
  have w2 := hA.2.2.1
  have w3 : 0 ≤ A 91 3 ∧ A 91 3 ≤ 850 := hA.2.2.2.1
  have ty := today_year hA
  have c9 := hX.2.2.2.1
  refine e1 (d := d) hC ?_
  refine ⟨by first | assumption | exact inRd rfl | omega | exact ⟨by omega, by omega⟩ | (unfold WnOk; omega) | exact hW.1 | exact hW.2.1 | exact hW.2.2.1 | exact hW.2.2.2.1 | exact hW.2.2.2.2.1 | exact hW.2.2.2.2.2.2.2.2.2.1 | exact hW.2.2.2.2.2.2.2.2.2.2.1 | (constructor <;> omega), ?_⟩
  refine ⟨fun c1 => ?_, fun c1 => ?_⟩
  · refine ⟨fun c2 => ?_, fun c2 => ?_⟩
    · have ho : o208 A x1 = (0, A) := by
        unfold o208
        repeat' split
        all_goals first | rfl | (exfalso; omega) | exact Prod.ext (by dsimp only; omega) rfl | exact Prod.ext (by dsimp only) rfl
      rw [ho] at hK
      exact hK I (FK.refl I) (hX.up (Nat.le_succ n))
    · have ho : o208 A x1 = (1, (u2 A 91 0 (x1))) := by
        unfold o208
        repeat' split
        all_goals first | rfl | (exfalso; omega) | exact Prod.ext (by dsimp only; omega) rfl | exact Prod.ext (by dsimp only) rfl
      rw [ho] at hK
      have h0 : RelC0 (u2 (u2 I 8 8 (oI x1)) 8 9 (oI (ld I 8 9 + 1))) (u2 A 91 0 (x1)) := (RelC0.scr (RelC0.set hC.1 (a := 8) (k := 8) (v := x1) rfl (by first | assumption | exact inRd rfl | omega | exact ⟨by omega, by omega⟩ | (unfold WnOk; omega) | exact hW.1 | exact hW.2.1 | exact hW.2.2.1 | exact hW.2.2.2.1 | exact hW.2.2.2.2.1 | exact hW.2.2.2.2.2.2.2.2.2.1 | exact hW.2.2.2.2.2.2.2.2.2.2.1 | (constructor <;> omega))) (a := 8) (k := 9) rfl)
      have hr : RC R S (u2 (u2 I 8 8 (oI x1)) 8 9 (oI (ld I 8 9 + 1))) (u2 A 91 0 (x1)) := RC.st hC h0 (PKx.wr (PKx.wr (PKx.refl I) rfl) rfl) (Ko.set (Ko.refl _ _ _) rfl) (Ko.set (Ko.refl _ _ _) rfl) (Ko.set (Ko.refl _ _ _) rfl) (Ko.set (Ko.refl _ _ _) rfl)
      have h9 : ld (u2 (u2 I 8 8 (oI x1)) 8 9 (oI (ld I 8 9 + 1))) 8 9 = ld I 8 9 + 1 := by
        rw [ld_u2x, if_pos ⟨rfl, rfl⟩, toInt_oI (by first | assumption | exact inRd rfl | omega | exact ⟨by omega, by omega⟩ | (unfold WnOk; omega) | exact hW.1 | exact hW.2.1 | exact hW.2.2.1 | exact hW.2.2.2.1 | exact hW.2.2.2.2.1 | exact hW.2.2.2.2.2.2.2.2.2.1 | exact hW.2.2.2.2.2.2.2.2.2.2.1 | (constructor <;> omega))]
      exact hK _ (FK.wr (FK.wr (FK.refl I) (by decide)) (by decide)) (hX.bump hr (MmK.wr (MmK.wr (MmK.refl I) rfl) rfl) h9)
  · have ho : o208 A x1 = (0, A) := by
      unfold o208
      repeat' split
      all_goals first | rfl | (exfalso; omega) | exact Prod.ext (by dsimp only; omega) rfl | exact Prod.ext (by dsimp only) rfl
    rw [ho] at hK
    exact hK I (FK.refl I) (hX.up (Nat.le_succ n))
set_option maxRecDepth 4000 in
theorem e2 {d L : Nat} {I : Nat → Nat → Int32} {R : Nat → Nat → Option Nat} {S : List (Nat × Nat)} {K : Int32 → mM → Prop} {A : aS} (hC : RC R S I A) {x1 : Int} {x2 : Int} {x3 : Int} (hE : inR x1 ∧ ((((-1500) ≤ x1 ∧ x1 ≤ A 91 0) → inR x2 ∧ (((0 ≤ x2 ∧ x2 ≤ 9) → inR x3 ∧ (((0 ≤ x3 ∧ x3 ≤ 6) → ((A 91 1 < 40) → (0 ≤ A 91 1 ∧ A 91 1 < 40) ∧ (K (oI (A 91 1)) (bd L (u2 (u2 (u2 (u2 (u2 (u2 I 8 9 (oI (ld I 8 9 + 1))) 22 (A 91 1).toNat (oI x1)) 23 (A 91 1).toNat (oI x2)) 24 (A 91 1).toNat (oI x3)) 25 (A 91 1).toNat (oI (Int.tdiv (A 91 0) 100))) 21 9 (oI (A 91 1 + 1))) R S))) ∧ (¬ (A 91 1 < 40) → K (oI (-1)) (bd L I R S))) ∧ (¬ (0 ≤ x3 ∧ x3 ≤ 6) → K (oI (-1)) (bd L I R S)))) ∧ (¬ (0 ≤ x2 ∧ x2 ≤ 9) → K (oI (-1)) (bd L I R S)))) ∧ (¬ ((-1500) ≤ x1 ∧ x1 ≤ A 91 0) → K (oI (-1)) (bd L I R S)))) : CallI (d + 1) 2 [.ref 8, .int (oI x1), .int (oI x2), .int (oI x3)] (bd L I R S) K := by
  refine cI_of (ls := [.ref 8, .int (oI x1), .int (oI x2), .int (oI x3), mUn]) rfl ?_
  refine xG gb2.1 ?_
  refine s4 (x := x1) rfl ?_
  refine s0 ?_
  refine s6 (p := 8) rfl ?_
  refine s50 (v := A 91 0) sh8 (by decide) (by decide) (rdC hC.1 rfl) ?_
  obtain ⟨g1, hE⟩ := hE
  refine sI rc3 rfl (Nat.le_of_ble_eq_true rfl) ?_
  refine k3 g1 (inRd rfl) (inC hC.1 (a := 8) (k := 8) rfl) (fun c2 => ?_) (fun c2 => ?_)
  · replace hE := hE.1 c2
    refine s67 (inRd rfl) (fun c3 => absurd c3 (by decide)) (fun _ => ?_)
    refine s4 (x := x2) rfl ?_
    refine s0 ?_
    refine s0 ?_
    obtain ⟨g4, hE⟩ := hE
    refine sI rc3 rfl (Nat.le_of_ble_eq_true rfl) ?_
    refine k3 g4 (inRd rfl) (inRd rfl) (fun c5 => ?_) (fun c5 => ?_)
    · replace hE := hE.1 c5
      refine s67 (inRd rfl) (fun c6 => absurd c6 (by decide)) (fun _ => ?_)
      refine s4 (x := x3) rfl ?_
      refine s0 ?_
      refine s0 ?_
      obtain ⟨g7, hE⟩ := hE
      refine sI rc3 rfl (Nat.le_of_ble_eq_true rfl) ?_
      refine k3 g7 (inRd rfl) (inRd rfl) (fun c8 => ?_) (fun c8 => ?_)
      · replace hE := hE.1 c8
        refine s67 (inRd rfl) (fun c9 => absurd c9 (by decide)) (fun _ => ?_)
        refine s0 ?_
        refine s60 ?_
        refine xG gb2.2.2.1 ?_
        refine s7 (ls' := [.ref 8, .int (oI x1), .int (oI x2), .int (oI x3), .int (oI 1)]) (Nat.le_of_ble_eq_true rfl) rfl ?_
        refine s4 (x := 1) rfl ?_
        refine s67 (inRd rfl) (fun c10 => absurd c10 (by decide)) (fun _ => ?_)
        refine s6 (p := 8) rfl ?_
        refine s51 sh8 (by decide) (by decide) rf8_1 ?_
        refine s50 (v := A 91 1) sh21 (by decide) (by decide) (rdC hC.1 rfl) ?_
        refine s0 ?_
        refine s63 (inC hC.1 (a := 21) (k := 9) rfl) (inRd rfl) (fun c11 => ?_) (fun c11 => ?_)
        · replace hE := hE.1 c11
          refine xG gb2.2.2.2.2 ?_
          refine s6 (p := 8) rfl ?_
          refine s13r ?_
          refine s50 (v := ld I 8 9) sh8 (by decide) (by decide) (oI_ld _ _ _) ?_
          refine s0 ?_
          refine s16 ?_
          refine s52 sh8 (by decide) (by decide) ?_
          refine s6 (p := 8) rfl ?_
          refine s51 sh8 (by decide) (by decide) rf8_1 ?_
          refine s4 (x := x1) rfl ?_
          refine s4 (x := x2) rfl ?_
          refine s4 (x := x3) rfl ?_
          refine s6 (p := 8) rfl ?_
          refine s50 (v := A 91 0) sh8 (by decide) (by decide) ((v2_nk (by decide)).trans (rdC hC.1 rfl)) ?_
          refine s0 ?_
          refine s19 (inC hC.1 (a := 8) (k := 8) rfl) ⟨(inRd rfl), by decide⟩ ?_
          refine sI rc80 rfl (Nat.le_of_ble_eq_true rfl) ?_
          refine cI_of (ls := [.ref 21, .int (oI x1), .int (oI x2), .int (oI x3), .int (oI (Int.tdiv (A 91 0) 100))]) rfl ?_
          refine xG gb80 ?_
          refine s6 (p := 21) rfl ?_
          refine s51 sh21 (by decide) (by decide) rf21_0 ?_
          refine s6 (p := 21) rfl ?_
          refine s50 (v := A 91 1) sh21 (by decide) (by decide) ((v2_ne (by decide)).trans (rdC hC.1 rfl)) ?_
          refine s4 (x := x1) rfl ?_
          obtain ⟨g12, hE⟩ := hE
          refine s44 sh22 (by decide) g12 rfl ?_
          refine s6 (p := 21) rfl ?_
          refine s51 sh21 (by decide) (by decide) rf21_1 ?_
          refine s6 (p := 21) rfl ?_
          refine s50 (v := A 91 1) sh21 (by decide) (by decide) ((v2_ne (by decide)).trans ((v2_ne (by decide)).trans (rdC hC.1 rfl))) ?_
          refine s4 (x := x2) rfl ?_
          refine s44 sh23 (by decide) g12 rfl ?_
          refine s6 (p := 21) rfl ?_
          refine s51 sh21 (by decide) (by decide) rf21_2 ?_
          refine s6 (p := 21) rfl ?_
          refine s50 (v := A 91 1) sh21 (by decide) (by decide) ((v2_ne (by decide)).trans ((v2_ne (by decide)).trans ((v2_ne (by decide)).trans (rdC hC.1 rfl)))) ?_
          refine s4 (x := x3) rfl ?_
          refine s44 sh24 (by decide) g12 rfl ?_
          refine s6 (p := 21) rfl ?_
          refine s51 sh21 (by decide) (by decide) rf21_3 ?_
          refine s6 (p := 21) rfl ?_
          refine s50 (v := A 91 1) sh21 (by decide) (by decide) ((v2_ne (by decide)).trans ((v2_ne (by decide)).trans ((v2_ne (by decide)).trans ((v2_ne (by decide)).trans (rdC hC.1 rfl))))) ?_
          refine s4 (x := Int.tdiv (A 91 0) 100) rfl ?_
          refine s44 sh25 (by decide) g12 rfl ?_
          refine s6 (p := 21) rfl ?_
          refine s13r ?_
          refine s50 (v := A 91 1) sh21 (by decide) (by decide) ((v2_ne (by decide)).trans ((v2_ne (by decide)).trans ((v2_ne (by decide)).trans ((v2_ne (by decide)).trans ((v2_ne (by decide)).trans (rdC hC.1 rfl)))))) ?_
          refine s15 ?_
          refine s0 ?_
          refine s16 ?_
          refine s52 sh21 (by decide) (by decide) ?_
          refine s80 ?_
          refine rqI_of ?_
          refine s80 ?_
          exact rqI_of hE
        · replace hE := hE.2 c11
          refine s79 ?_
          refine xG gb2.2.2.2.1 ?_
          refine s0 ?_
          refine s80 ?_
          exact rqI_of hE
      · replace hE := hE.2 c8
        refine s67 (inRd rfl) (fun _ => ?_) (fun c13 => absurd (by decide) c13)
        refine xG gb2.2.1 ?_
        refine s0 ?_
        refine s79 ?_
        refine xG gb2.2.2.1 ?_
        refine s7 (ls' := [.ref 8, .int (oI x1), .int (oI x2), .int (oI x3), .int (oI 0)]) (Nat.le_of_ble_eq_true rfl) rfl ?_
        refine s4 (x := 0) rfl ?_
        refine s67 (inRd rfl) (fun _ => ?_) (fun c14 => absurd (by decide) c14)
        refine xG gb2.2.2.2.1 ?_
        refine s0 ?_
        refine s80 ?_
        exact rqI_of hE
    · replace hE := hE.2 c5
      refine s67 (inRd rfl) (fun _ => ?_) (fun c15 => absurd (by decide) c15)
      refine xG gb2.2.1 ?_
      refine s0 ?_
      refine s79 ?_
      refine xG gb2.2.2.1 ?_
      refine s7 (ls' := [.ref 8, .int (oI x1), .int (oI x2), .int (oI x3), .int (oI 0)]) (Nat.le_of_ble_eq_true rfl) rfl ?_
      refine s4 (x := 0) rfl ?_
      refine s67 (inRd rfl) (fun _ => ?_) (fun c16 => absurd (by decide) c16)
      refine xG gb2.2.2.2.1 ?_
      refine s0 ?_
      refine s80 ?_
      exact rqI_of hE
  · replace hE := hE.2 c2
    refine s67 (inRd rfl) (fun _ => ?_) (fun c17 => absurd (by decide) c17)
    refine xG gb2.2.1 ?_
    refine s0 ?_
    refine s79 ?_
    refine xG gb2.2.2.1 ?_
    refine s7 (ls' := [.ref 8, .int (oI x1), .int (oI x2), .int (oI x3), .int (oI 0)]) (Nat.le_of_ble_eq_true rfl) rfl ?_
    refine s4 (x := 0) rfl ?_
    refine s67 (inRd rfl) (fun _ => ?_) (fun c18 => absurd (by decide) c18)
    refine xG gb2.2.2.2.1 ?_
    refine s0 ?_
    refine s80 ?_
    exact rqI_of hE
set_option maxRecDepth 4000 in
theorem q2 {d L n : Nat} {I : mI} {R : mR} {S : mSh} {A : aS} {K : Int32 → mM → Prop} {x1 : Int} {x2 : Int} {x3 : Int} (hX : CX R S I A n) (hW : WF A) (hn : n ≤ 100000) (rx1 : inR x1) (rx2 : inR x2) (rx3 : inR x3) (hK : ∀ I1, FK I I1 → CX R S I1 (o209 A x1 x2 x3).2 (n + 1) → K (oI (o209 A x1 x2 x3).1) (bd L I1 R S)) : CallI (d + 1) 2 [.ref 8, .int (oI x1), .int (oI x2), .int (oI x3)] (bd L I R S) K := by
  have hC := hX.1
  have hA := hW.1
  have w0 := hA.1
  have w1 := hA.2.1
  have w2 := hA.2.2.1
  have w3 : 0 ≤ A 91 3 ∧ A 91 3 ≤ 850 := hA.2.2.2.1
  have ty := today_year hA
  have c9 := hX.2.2.2.1
  refine e2 (d := d) hC ?_
  refine ⟨by first | assumption | exact inRd rfl | omega | exact ⟨by omega, by omega⟩ | (unfold WnOk; omega) | exact hW.1 | exact hW.2.1 | exact hW.2.2.1 | exact hW.2.2.2.1 | exact hW.2.2.2.2.1 | exact hW.2.2.2.2.2.2.2.2.2.1 | exact hW.2.2.2.2.2.2.2.2.2.2.1 | (constructor <;> omega), ?_⟩
  refine ⟨fun c1 => ?_, fun c1 => ?_⟩
  · refine ⟨by first | assumption | exact inRd rfl | omega | exact ⟨by omega, by omega⟩ | (unfold WnOk; omega) | exact hW.1 | exact hW.2.1 | exact hW.2.2.1 | exact hW.2.2.2.1 | exact hW.2.2.2.2.1 | exact hW.2.2.2.2.2.2.2.2.2.1 | exact hW.2.2.2.2.2.2.2.2.2.2.1 | (constructor <;> omega), ?_⟩
    refine ⟨fun c2 => ?_, fun c2 => ?_⟩
    · refine ⟨by first | assumption | exact inRd rfl | omega | exact ⟨by omega, by omega⟩ | (unfold WnOk; omega) | exact hW.1 | exact hW.2.1 | exact hW.2.2.1 | exact hW.2.2.2.1 | exact hW.2.2.2.2.1 | exact hW.2.2.2.2.2.2.2.2.2.1 | exact hW.2.2.2.2.2.2.2.2.2.2.1 | (constructor <;> omega), ?_⟩
      refine ⟨fun c3 => ?_, fun c3 => ?_⟩
      · refine ⟨fun c4 => ?_, fun c4 => ?_⟩
        · refine ⟨by first | assumption | exact inRd rfl | omega | exact ⟨by omega, by omega⟩ | (unfold WnOk; omega) | exact hW.1 | exact hW.2.1 | exact hW.2.2.1 | exact hW.2.2.2.1 | exact hW.2.2.2.2.1 | exact hW.2.2.2.2.2.2.2.2.2.1 | exact hW.2.2.2.2.2.2.2.2.2.2.1 | (constructor <;> omega), ?_⟩
          have ho : o209 A x1 x2 x3 = ((A 91 1), (u2 (u2 (u2 (u2 (u2 A 92 (A 91 1).toNat (x1)) 93 (A 91 1).toNat (x2)) 95 (A 91 1).toNat (x3)) 94 (A 91 1).toNat ((Int.tdiv (A 91 0) 100))) 91 1 ((A 91 1 + 1)))) := by
            unfold o209
            repeat' split
            all_goals first | rfl | (exfalso; omega) | exact Prod.ext (by dsimp only; omega) rfl | exact Prod.ext (by dsimp only) rfl
          rw [ho] at hK
          have h0 : RelC0 (u2 (u2 (u2 (u2 (u2 (u2 I 8 9 (oI (ld I 8 9 + 1))) 22 (A 91 1).toNat (oI x1)) 23 (A 91 1).toNat (oI x2)) 24 (A 91 1).toNat (oI x3)) 25 (A 91 1).toNat (oI (Int.tdiv (A 91 0) 100))) 21 9 (oI (A 91 1 + 1))) (u2 (u2 (u2 (u2 (u2 A 92 (A 91 1).toNat (x1)) 93 (A 91 1).toNat (x2)) 95 (A 91 1).toNat (x3)) 94 (A 91 1).toNat ((Int.tdiv (A 91 0) 100))) 91 1 ((A 91 1 + 1))) := (RelC0.set (RelC0.set (RelC0.set (RelC0.set (RelC0.set (RelC0.scr hC.1 (a := 8) (k := 9) rfl) (a := 22) (k := (A 91 1).toNat) (v := x1) rfl (by first | assumption | exact inRd rfl | omega | exact ⟨by omega, by omega⟩ | (unfold WnOk; omega) | exact hW.1 | exact hW.2.1 | exact hW.2.2.1 | exact hW.2.2.2.1 | exact hW.2.2.2.2.1 | exact hW.2.2.2.2.2.2.2.2.2.1 | exact hW.2.2.2.2.2.2.2.2.2.2.1 | (constructor <;> omega))) (a := 23) (k := (A 91 1).toNat) (v := x2) rfl (by first | assumption | exact inRd rfl | omega | exact ⟨by omega, by omega⟩ | (unfold WnOk; omega) | exact hW.1 | exact hW.2.1 | exact hW.2.2.1 | exact hW.2.2.2.1 | exact hW.2.2.2.2.1 | exact hW.2.2.2.2.2.2.2.2.2.1 | exact hW.2.2.2.2.2.2.2.2.2.2.1 | (constructor <;> omega))) (a := 24) (k := (A 91 1).toNat) (v := x3) rfl (by first | assumption | exact inRd rfl | omega | exact ⟨by omega, by omega⟩ | (unfold WnOk; omega) | exact hW.1 | exact hW.2.1 | exact hW.2.2.1 | exact hW.2.2.2.1 | exact hW.2.2.2.2.1 | exact hW.2.2.2.2.2.2.2.2.2.1 | exact hW.2.2.2.2.2.2.2.2.2.2.1 | (constructor <;> omega))) (a := 25) (k := (A 91 1).toNat) (v := (Int.tdiv (A 91 0) 100)) rfl (by first | assumption | exact inRd rfl | omega | exact ⟨by omega, by omega⟩ | (unfold WnOk; omega) | exact hW.1 | exact hW.2.1 | exact hW.2.2.1 | exact hW.2.2.2.1 | exact hW.2.2.2.2.1 | exact hW.2.2.2.2.2.2.2.2.2.1 | exact hW.2.2.2.2.2.2.2.2.2.2.1 | (constructor <;> omega))) (a := 21) (k := 9) (v := (A 91 1 + 1)) rfl (by first | assumption | exact inRd rfl | omega | exact ⟨by omega, by omega⟩ | (unfold WnOk; omega) | exact hW.1 | exact hW.2.1 | exact hW.2.2.1 | exact hW.2.2.2.1 | exact hW.2.2.2.2.1 | exact hW.2.2.2.2.2.2.2.2.2.1 | exact hW.2.2.2.2.2.2.2.2.2.2.1 | (constructor <;> omega)))
          have hr : RC R S (u2 (u2 (u2 (u2 (u2 (u2 I 8 9 (oI (ld I 8 9 + 1))) 22 (A 91 1).toNat (oI x1)) 23 (A 91 1).toNat (oI x2)) 24 (A 91 1).toNat (oI x3)) 25 (A 91 1).toNat (oI (Int.tdiv (A 91 0) 100))) 21 9 (oI (A 91 1 + 1))) (u2 (u2 (u2 (u2 (u2 A 92 (A 91 1).toNat (x1)) 93 (A 91 1).toNat (x2)) 95 (A 91 1).toNat (x3)) 94 (A 91 1).toNat ((Int.tdiv (A 91 0) 100))) 91 1 ((A 91 1 + 1))) := RC.st hC h0 (PKx.wr (PKx.wr (PKx.wr (PKx.wr (PKx.wr (PKx.wr (PKx.refl I) rfl) rfl) rfl) rfl) rfl) rfl) (Ko.set (Ko.set (Ko.set (Ko.set (Ko.set (Ko.refl _ _ _) rfl) rfl) rfl) rfl) rfl) (Ko.set (Ko.set (Ko.set (Ko.set (Ko.set (Ko.refl _ _ _) rfl) rfl) rfl) rfl) rfl) (Ko.set (Ko.set (Ko.set (Ko.set (Ko.set (Ko.refl _ _ _) rfl) rfl) rfl) rfl) rfl) (Ko.set (Ko.set (Ko.set (Ko.set (Ko.set (Ko.refl _ _ _) rfl) rfl) rfl) rfl) rfl)
          have h9 : ld (u2 (u2 (u2 (u2 (u2 (u2 I 8 9 (oI (ld I 8 9 + 1))) 22 (A 91 1).toNat (oI x1)) 23 (A 91 1).toNat (oI x2)) 24 (A 91 1).toNat (oI x3)) 25 (A 91 1).toNat (oI (Int.tdiv (A 91 0) 100))) 21 9 (oI (A 91 1 + 1))) 8 9 = ld I 8 9 + 1 := by
            rw [ld_u2x, if_neg (by decide), ld_u2x, if_neg (fun q => absurd q.1 (by decide)), ld_u2x, if_neg (fun q => absurd q.1 (by decide)), ld_u2x, if_neg (fun q => absurd q.1 (by decide)), ld_u2x, if_neg (fun q => absurd q.1 (by decide)), ld_u2x, if_pos ⟨rfl, rfl⟩, toInt_oI (by first | assumption | exact inRd rfl | omega | exact ⟨by omega, by omega⟩ | (unfold WnOk; omega) | exact hW.1 | exact hW.2.1 | exact hW.2.2.1 | exact hW.2.2.2.1 | exact hW.2.2.2.2.1 | exact hW.2.2.2.2.2.2.2.2.2.1 | exact hW.2.2.2.2.2.2.2.2.2.2.1 | (constructor <;> omega))]
          exact hK _ (FK.wr (FK.wr (FK.wr (FK.wr (FK.wr (FK.wr (FK.refl I) (by decide)) (by decide)) (by decide)) (by decide)) (by decide)) (by decide)) (hX.bump hr (MmK.wr (MmK.wr (MmK.wr (MmK.wr (MmK.wr (MmK.wr (MmK.refl I) rfl) rfl) rfl) rfl) rfl) rfl) h9)
        · have ho : o209 A x1 x2 x3 = ((-1), A) := by
            unfold o209
            repeat' split
            all_goals first | rfl | (exfalso; omega) | exact Prod.ext (by dsimp only; omega) rfl | exact Prod.ext (by dsimp only) rfl
          rw [ho] at hK
          exact hK I (FK.refl I) (hX.up (Nat.le_succ n))
      · have ho : o209 A x1 x2 x3 = ((-1), A) := by
          unfold o209
          repeat' split
          all_goals first | rfl | (exfalso; omega) | exact Prod.ext (by dsimp only; omega) rfl | exact Prod.ext (by dsimp only) rfl
        rw [ho] at hK
        exact hK I (FK.refl I) (hX.up (Nat.le_succ n))
    · have ho : o209 A x1 x2 x3 = ((-1), A) := by
        unfold o209
        repeat' split
        all_goals first | rfl | (exfalso; omega) | exact Prod.ext (by dsimp only; omega) rfl | exact Prod.ext (by dsimp only) rfl
      rw [ho] at hK
      exact hK I (FK.refl I) (hX.up (Nat.le_succ n))
  · have ho : o209 A x1 x2 x3 = ((-1), A) := by
      unfold o209
      repeat' split
      all_goals first | rfl | (exfalso; omega) | exact Prod.ext (by dsimp only; omega) rfl | exact Prod.ext (by dsimp only) rfl
    rw [ho] at hK
    exact hK I (FK.refl I) (hX.up (Nat.le_succ n))
set_option maxRecDepth 4000 in
theorem e4 {d L : Nat} {I : Nat → Nat → Int32} {R : Nat → Nat → Option Nat} {S : List (Nat × Nat)} {K : Int32 → mM → Prop} {A : aS} (hC : RC R S I A) {x1 : Int} {x2 : Int} {x3 : Int} (hE : inR x1 ∧ (((0 ≤ x1 ∧ x1 ≤ 60) → inR x2 ∧ (((0 ≤ x2 ∧ x2 ≤ 60) → inR x3 ∧ (((0 ≤ x3 ∧ x3 ≤ 9999) → ((A 91 2 < 6) → (0 ≤ A 91 2 ∧ A 91 2 < 6) ∧ (K (oI (A 91 2)) (bd L (u2 (u2 (u2 (u2 (u2 I 8 9 (oI (ld I 8 9 + 1))) 14 (A 91 2).toNat (oI x1)) 15 (A 91 2).toNat (oI x2)) 16 (A 91 2).toNat (oI x3)) 9 11 (oI (A 91 2 + 1))) R S))) ∧ (¬ (A 91 2 < 6) → K (oI (-1)) (bd L I R S))) ∧ (¬ (0 ≤ x3 ∧ x3 ≤ 9999) → K (oI (-1)) (bd L I R S)))) ∧ (¬ (0 ≤ x2 ∧ x2 ≤ 60) → K (oI (-1)) (bd L I R S)))) ∧ (¬ (0 ≤ x1 ∧ x1 ≤ 60) → K (oI (-1)) (bd L I R S)))) : CallI (d + 2) 4 [.ref 8, .int (oI x1), .int (oI x2), .int (oI x3)] (bd L I R S) K := by
  refine cI_of (ls := [.ref 8, .int (oI x1), .int (oI x2), .int (oI x3), mUn]) rfl ?_
  refine xG gb4.1 ?_
  refine s6 (p := 8) rfl ?_
  refine s51 sh8 (by decide) (by decide) rf8_0 ?_
  refine s4 (x := x1) rfl ?_
  refine s4 (x := x2) rfl ?_
  refine sI rc62 rfl (Nat.le_of_ble_eq_true rfl) ?_
  refine cI_of (ls := [.ref 9, .int (oI x1), .int (oI x2)]) rfl ?_
  refine xG gb62.1 ?_
  refine s4 (x := x1) rfl ?_
  refine s0 ?_
  refine s0 ?_
  obtain ⟨g1, hE⟩ := hE
  refine sI rc3 rfl (Nat.le_of_ble_eq_true rfl) ?_
  refine k3 g1 (inRd rfl) (inRd rfl) (fun c2 => ?_) (fun c2 => ?_)
  · replace hE := hE.1 c2
    refine s67 (inRd rfl) (fun c3 => absurd c3 (by decide)) (fun _ => ?_)
    refine s4 (x := x2) rfl ?_
    refine s0 ?_
    refine s0 ?_
    obtain ⟨g4, hE⟩ := hE
    refine sI rc3 rfl (Nat.le_of_ble_eq_true rfl) ?_
    refine k3 g4 (inRd rfl) (inRd rfl) (fun c5 => ?_) (fun c5 => ?_)
    · replace hE := hE.1 c5
      refine s67 (inRd rfl) (fun c6 => absurd c6 (by decide)) (fun _ => ?_)
      refine s0 ?_
      refine s60 ?_
      refine xG gb62.2.2 ?_
      refine s84 (by decide) ?_
      refine rqI_of ?_
      refine s67 (inRd rfl) (fun c7 => absurd c7 (by decide)) (fun _ => ?_)
      refine s4 (x := x3) rfl ?_
      refine s0 ?_
      refine s0 ?_
      obtain ⟨g8, hE⟩ := hE
      refine sI rc3 rfl (Nat.le_of_ble_eq_true rfl) ?_
      refine k3 g8 (inRd rfl) (inRd rfl) (fun c9 => ?_) (fun c9 => ?_)
      · replace hE := hE.1 c9
        refine s67 (inRd rfl) (fun c10 => absurd c10 (by decide)) (fun _ => ?_)
        refine s0 ?_
        refine s60 ?_
        refine xG gb4.2.2.1 ?_
        refine s7 (ls' := [.ref 8, .int (oI x1), .int (oI x2), .int (oI x3), .int (oI 1)]) (Nat.le_of_ble_eq_true rfl) rfl ?_
        refine s4 (x := 1) rfl ?_
        refine s67 (inRd rfl) (fun c11 => absurd c11 (by decide)) (fun _ => ?_)
        refine s6 (p := 8) rfl ?_
        refine s51 sh8 (by decide) (by decide) rf8_0 ?_
        refine s50 (v := A 91 2) sh9 (by decide) (by decide) (rdC hC.1 rfl) ?_
        refine s0 ?_
        refine s63 (inC hC.1 (a := 9) (k := 11) rfl) (inRd rfl) (fun c12 => ?_) (fun c12 => ?_)
        · replace hE := hE.1 c12
          refine xG gb4.2.2.2.2 ?_
          refine s6 (p := 8) rfl ?_
          refine s13r ?_
          refine s50 (v := ld I 8 9) sh8 (by decide) (by decide) (oI_ld _ _ _) ?_
          refine s0 ?_
          refine s16 ?_
          refine s52 sh8 (by decide) (by decide) ?_
          refine s6 (p := 8) rfl ?_
          refine s51 sh8 (by decide) (by decide) rf8_0 ?_
          refine s4 (x := x1) rfl ?_
          refine s4 (x := x2) rfl ?_
          refine s4 (x := x3) rfl ?_
          refine sI rc63 rfl (Nat.le_of_ble_eq_true rfl) ?_
          refine cI_of (ls := [.ref 9, .int (oI x1), .int (oI x2), .int (oI x3)]) rfl ?_
          refine xG gb63 ?_
          refine s6 (p := 9) rfl ?_
          refine s51 sh9 (by decide) (by decide) rf9_4 ?_
          refine s6 (p := 9) rfl ?_
          refine s50 (v := A 91 2) sh9 (by decide) (by decide) ((v2_ne (by decide)).trans (rdC hC.1 rfl)) ?_
          refine s4 (x := x1) rfl ?_
          obtain ⟨g13, hE⟩ := hE
          refine s44 sh14 (by decide) g13 rfl ?_
          refine s6 (p := 9) rfl ?_
          refine s51 sh9 (by decide) (by decide) rf9_5 ?_
          refine s6 (p := 9) rfl ?_
          refine s50 (v := A 91 2) sh9 (by decide) (by decide) ((v2_ne (by decide)).trans ((v2_ne (by decide)).trans (rdC hC.1 rfl))) ?_
          refine s4 (x := x2) rfl ?_
          refine s44 sh15 (by decide) g13 rfl ?_
          refine s6 (p := 9) rfl ?_
          refine s51 sh9 (by decide) (by decide) rf9_6 ?_
          refine s6 (p := 9) rfl ?_
          refine s50 (v := A 91 2) sh9 (by decide) (by decide) ((v2_ne (by decide)).trans ((v2_ne (by decide)).trans ((v2_ne (by decide)).trans (rdC hC.1 rfl)))) ?_
          refine s4 (x := x3) rfl ?_
          refine s44 sh16 (by decide) g13 rfl ?_
          refine s6 (p := 9) rfl ?_
          refine s13r ?_
          refine s50 (v := A 91 2) sh9 (by decide) (by decide) ((v2_ne (by decide)).trans ((v2_ne (by decide)).trans ((v2_ne (by decide)).trans ((v2_ne (by decide)).trans (rdC hC.1 rfl))))) ?_
          refine s15 ?_
          refine s0 ?_
          refine s16 ?_
          refine s52 sh9 (by decide) (by decide) ?_
          refine s80 ?_
          refine rqI_of ?_
          refine s80 ?_
          exact rqI_of hE
        · replace hE := hE.2 c12
          refine s79 ?_
          refine xG gb4.2.2.2.1 ?_
          refine s0 ?_
          refine s80 ?_
          exact rqI_of hE
      · replace hE := hE.2 c9
        refine s67 (inRd rfl) (fun _ => ?_) (fun c14 => absurd (by decide) c14)
        refine xG gb4.2.1 ?_
        refine s0 ?_
        refine s79 ?_
        refine xG gb4.2.2.1 ?_
        refine s7 (ls' := [.ref 8, .int (oI x1), .int (oI x2), .int (oI x3), .int (oI 0)]) (Nat.le_of_ble_eq_true rfl) rfl ?_
        refine s4 (x := 0) rfl ?_
        refine s67 (inRd rfl) (fun _ => ?_) (fun c15 => absurd (by decide) c15)
        refine xG gb4.2.2.2.1 ?_
        refine s0 ?_
        refine s80 ?_
        exact rqI_of hE
    · replace hE := hE.2 c5
      refine s67 (inRd rfl) (fun _ => ?_) (fun c16 => absurd (by decide) c16)
      refine xG gb62.2.1 ?_
      refine s0 ?_
      refine s79 ?_
      refine xG gb62.2.2 ?_
      refine s84 (by decide) ?_
      refine rqI_of ?_
      refine s67 (inRd rfl) (fun _ => ?_) (fun c17 => absurd (by decide) c17)
      refine xG gb4.2.1 ?_
      refine s0 ?_
      refine s79 ?_
      refine xG gb4.2.2.1 ?_
      refine s7 (ls' := [.ref 8, .int (oI x1), .int (oI x2), .int (oI x3), .int (oI 0)]) (Nat.le_of_ble_eq_true rfl) rfl ?_
      refine s4 (x := 0) rfl ?_
      refine s67 (inRd rfl) (fun _ => ?_) (fun c18 => absurd (by decide) c18)
      refine xG gb4.2.2.2.1 ?_
      refine s0 ?_
      refine s80 ?_
      exact rqI_of hE
  · replace hE := hE.2 c2
    refine s67 (inRd rfl) (fun _ => ?_) (fun c19 => absurd (by decide) c19)
    refine xG gb62.2.1 ?_
    refine s0 ?_
    refine s79 ?_
    refine xG gb62.2.2 ?_
    refine s84 (by decide) ?_
    refine rqI_of ?_
    refine s67 (inRd rfl) (fun _ => ?_) (fun c20 => absurd (by decide) c20)
    refine xG gb4.2.1 ?_
    refine s0 ?_
    refine s79 ?_
    refine xG gb4.2.2.1 ?_
    refine s7 (ls' := [.ref 8, .int (oI x1), .int (oI x2), .int (oI x3), .int (oI 0)]) (Nat.le_of_ble_eq_true rfl) rfl ?_
    refine s4 (x := 0) rfl ?_
    refine s67 (inRd rfl) (fun _ => ?_) (fun c21 => absurd (by decide) c21)
    refine xG gb4.2.2.2.1 ?_
    refine s0 ?_
    refine s80 ?_
    exact rqI_of hE
set_option maxRecDepth 4000 in
theorem q4 {d L n : Nat} {I : mI} {R : mR} {S : mSh} {A : aS} {K : Int32 → mM → Prop} {x1 : Int} {x2 : Int} {x3 : Int} (hX : CX R S I A n) (hW : WF A) (hn : n ≤ 100000) (rx1 : inR x1) (rx2 : inR x2) (rx3 : inR x3) (hK : ∀ I1, FK I I1 → CX R S I1 (o211 A x1 x2 x3).2 (n + 1) → K (oI (o211 A x1 x2 x3).1) (bd L I1 R S)) : CallI (d + 2) 4 [.ref 8, .int (oI x1), .int (oI x2), .int (oI x3)] (bd L I R S) K := by
  have hC := hX.1
  have hA := hW.1
  have w0 := hA.1
  have w1 := hA.2.1
  have w2 := hA.2.2.1
  have w3 : 0 ≤ A 91 3 ∧ A 91 3 ≤ 850 := hA.2.2.2.1
  have ty := today_year hA
  have c9 := hX.2.2.2.1
  refine e4 (d := d) hC ?_
  refine ⟨by first | assumption | exact inRd rfl | omega | exact ⟨by omega, by omega⟩ | (unfold WnOk; omega) | exact hW.1 | exact hW.2.1 | exact hW.2.2.1 | exact hW.2.2.2.1 | exact hW.2.2.2.2.1 | exact hW.2.2.2.2.2.2.2.2.2.1 | exact hW.2.2.2.2.2.2.2.2.2.2.1 | (constructor <;> omega), ?_⟩
  refine ⟨fun c1 => ?_, fun c1 => ?_⟩
  · refine ⟨by first | assumption | exact inRd rfl | omega | exact ⟨by omega, by omega⟩ | (unfold WnOk; omega) | exact hW.1 | exact hW.2.1 | exact hW.2.2.1 | exact hW.2.2.2.1 | exact hW.2.2.2.2.1 | exact hW.2.2.2.2.2.2.2.2.2.1 | exact hW.2.2.2.2.2.2.2.2.2.2.1 | (constructor <;> omega), ?_⟩
    refine ⟨fun c2 => ?_, fun c2 => ?_⟩
    · refine ⟨by first | assumption | exact inRd rfl | omega | exact ⟨by omega, by omega⟩ | (unfold WnOk; omega) | exact hW.1 | exact hW.2.1 | exact hW.2.2.1 | exact hW.2.2.2.1 | exact hW.2.2.2.2.1 | exact hW.2.2.2.2.2.2.2.2.2.1 | exact hW.2.2.2.2.2.2.2.2.2.2.1 | (constructor <;> omega), ?_⟩
      refine ⟨fun c3 => ?_, fun c3 => ?_⟩
      · refine ⟨fun c4 => ?_, fun c4 => ?_⟩
        · refine ⟨by first | assumption | exact inRd rfl | omega | exact ⟨by omega, by omega⟩ | (unfold WnOk; omega) | exact hW.1 | exact hW.2.1 | exact hW.2.2.1 | exact hW.2.2.2.1 | exact hW.2.2.2.2.1 | exact hW.2.2.2.2.2.2.2.2.2.1 | exact hW.2.2.2.2.2.2.2.2.2.2.1 | (constructor <;> omega), ?_⟩
          have ho : o211 A x1 x2 x3 = ((A 91 2), (u2 (u2 (u2 (u2 A 98 (A 91 2).toNat (x1)) 99 (A 91 2).toNat (x2)) 100 (A 91 2).toNat (x3)) 91 2 ((A 91 2 + 1)))) := by
            unfold o211
            repeat' split
            all_goals first | rfl | (exfalso; omega) | exact Prod.ext (by dsimp only; omega) rfl | exact Prod.ext (by dsimp only) rfl
          rw [ho] at hK
          have h0 : RelC0 (u2 (u2 (u2 (u2 (u2 I 8 9 (oI (ld I 8 9 + 1))) 14 (A 91 2).toNat (oI x1)) 15 (A 91 2).toNat (oI x2)) 16 (A 91 2).toNat (oI x3)) 9 11 (oI (A 91 2 + 1))) (u2 (u2 (u2 (u2 A 98 (A 91 2).toNat (x1)) 99 (A 91 2).toNat (x2)) 100 (A 91 2).toNat (x3)) 91 2 ((A 91 2 + 1))) := (RelC0.set (RelC0.set (RelC0.set (RelC0.set (RelC0.scr hC.1 (a := 8) (k := 9) rfl) (a := 14) (k := (A 91 2).toNat) (v := x1) rfl (by first | assumption | exact inRd rfl | omega | exact ⟨by omega, by omega⟩ | (unfold WnOk; omega) | exact hW.1 | exact hW.2.1 | exact hW.2.2.1 | exact hW.2.2.2.1 | exact hW.2.2.2.2.1 | exact hW.2.2.2.2.2.2.2.2.2.1 | exact hW.2.2.2.2.2.2.2.2.2.2.1 | (constructor <;> omega))) (a := 15) (k := (A 91 2).toNat) (v := x2) rfl (by first | assumption | exact inRd rfl | omega | exact ⟨by omega, by omega⟩ | (unfold WnOk; omega) | exact hW.1 | exact hW.2.1 | exact hW.2.2.1 | exact hW.2.2.2.1 | exact hW.2.2.2.2.1 | exact hW.2.2.2.2.2.2.2.2.2.1 | exact hW.2.2.2.2.2.2.2.2.2.2.1 | (constructor <;> omega))) (a := 16) (k := (A 91 2).toNat) (v := x3) rfl (by first | assumption | exact inRd rfl | omega | exact ⟨by omega, by omega⟩ | (unfold WnOk; omega) | exact hW.1 | exact hW.2.1 | exact hW.2.2.1 | exact hW.2.2.2.1 | exact hW.2.2.2.2.1 | exact hW.2.2.2.2.2.2.2.2.2.1 | exact hW.2.2.2.2.2.2.2.2.2.2.1 | (constructor <;> omega))) (a := 9) (k := 11) (v := (A 91 2 + 1)) rfl (by first | assumption | exact inRd rfl | omega | exact ⟨by omega, by omega⟩ | (unfold WnOk; omega) | exact hW.1 | exact hW.2.1 | exact hW.2.2.1 | exact hW.2.2.2.1 | exact hW.2.2.2.2.1 | exact hW.2.2.2.2.2.2.2.2.2.1 | exact hW.2.2.2.2.2.2.2.2.2.2.1 | (constructor <;> omega)))
          have hr : RC R S (u2 (u2 (u2 (u2 (u2 I 8 9 (oI (ld I 8 9 + 1))) 14 (A 91 2).toNat (oI x1)) 15 (A 91 2).toNat (oI x2)) 16 (A 91 2).toNat (oI x3)) 9 11 (oI (A 91 2 + 1))) (u2 (u2 (u2 (u2 A 98 (A 91 2).toNat (x1)) 99 (A 91 2).toNat (x2)) 100 (A 91 2).toNat (x3)) 91 2 ((A 91 2 + 1))) := RC.st hC h0 (PKx.wr (PKx.wr (PKx.wr (PKx.wr (PKx.wr (PKx.refl I) rfl) rfl) rfl) rfl) rfl) (Ko.set (Ko.set (Ko.set (Ko.set (Ko.refl _ _ _) rfl) rfl) rfl) rfl) (Ko.set (Ko.set (Ko.set (Ko.set (Ko.refl _ _ _) rfl) rfl) rfl) rfl) (Ko.set (Ko.set (Ko.set (Ko.set (Ko.refl _ _ _) rfl) rfl) rfl) rfl) (Ko.set (Ko.set (Ko.set (Ko.set (Ko.refl _ _ _) rfl) rfl) rfl) rfl)
          have h9 : ld (u2 (u2 (u2 (u2 (u2 I 8 9 (oI (ld I 8 9 + 1))) 14 (A 91 2).toNat (oI x1)) 15 (A 91 2).toNat (oI x2)) 16 (A 91 2).toNat (oI x3)) 9 11 (oI (A 91 2 + 1))) 8 9 = ld I 8 9 + 1 := by
            rw [ld_u2x, if_neg (by decide), ld_u2x, if_neg (fun q => absurd q.1 (by decide)), ld_u2x, if_neg (fun q => absurd q.1 (by decide)), ld_u2x, if_neg (fun q => absurd q.1 (by decide)), ld_u2x, if_pos ⟨rfl, rfl⟩, toInt_oI (by first | assumption | exact inRd rfl | omega | exact ⟨by omega, by omega⟩ | (unfold WnOk; omega) | exact hW.1 | exact hW.2.1 | exact hW.2.2.1 | exact hW.2.2.2.1 | exact hW.2.2.2.2.1 | exact hW.2.2.2.2.2.2.2.2.2.1 | exact hW.2.2.2.2.2.2.2.2.2.2.1 | (constructor <;> omega))]
          exact hK _ (FK.wr (FK.wr (FK.wr (FK.wr (FK.wr (FK.refl I) (by decide)) (by decide)) (by decide)) (by decide)) (by decide)) (hX.bump hr (MmK.wr (MmK.wr (MmK.wr (MmK.wr (MmK.wr (MmK.refl I) rfl) rfl) rfl) rfl) rfl) h9)
        · have ho : o211 A x1 x2 x3 = ((-1), A) := by
            unfold o211
            repeat' split
            all_goals first | rfl | (exfalso; omega) | exact Prod.ext (by dsimp only; omega) rfl | exact Prod.ext (by dsimp only) rfl
          rw [ho] at hK
          exact hK I (FK.refl I) (hX.up (Nat.le_succ n))
      · have ho : o211 A x1 x2 x3 = ((-1), A) := by
          unfold o211
          repeat' split
          all_goals first | rfl | (exfalso; omega) | exact Prod.ext (by dsimp only; omega) rfl | exact Prod.ext (by dsimp only) rfl
        rw [ho] at hK
        exact hK I (FK.refl I) (hX.up (Nat.le_succ n))
    · have ho : o211 A x1 x2 x3 = ((-1), A) := by
        unfold o211
        repeat' split
        all_goals first | rfl | (exfalso; omega) | exact Prod.ext (by dsimp only; omega) rfl | exact Prod.ext (by dsimp only) rfl
      rw [ho] at hK
      exact hK I (FK.refl I) (hX.up (Nat.le_succ n))
  · have ho : o211 A x1 x2 x3 = ((-1), A) := by
      unfold o211
      repeat' split
      all_goals first | rfl | (exfalso; omega) | exact Prod.ext (by dsimp only; omega) rfl | exact Prod.ext (by dsimp only) rfl
    rw [ho] at hK
    exact hK I (FK.refl I) (hX.up (Nat.le_succ n))
set_option maxRecDepth 4000 in
theorem e5 {d L : Nat} {I : Nat → Nat → Int32} {R : Nat → Nat → Option Nat} {S : List (Nat × Nat)} {K : Int32 → mM → Prop} {A : aS} (hC : RC R S I A) {x1 : Int} {x2 : Int} {x3 : Int} (hE : inR x1 ∧ (((0 ≤ x1 ∧ x1 ≤ 9) → inR x2 ∧ (((0 ≤ x2 ∧ x2 ≤ 60) → inR x3 ∧ (((0 ≤ x3 ∧ x3 ≤ 60) → (0 ≤ x1 ∧ x1 < 10) ∧ (K (oI 1) (bd L (u2 (u2 I 12 x1.toNat (oI x2)) 13 x1.toNat (oI x3)) R S))) ∧ (¬ (0 ≤ x3 ∧ x3 ≤ 60) → K (oI 0) (bd L I R S)))) ∧ (¬ (0 ≤ x2 ∧ x2 ≤ 60) → K (oI 0) (bd L I R S)))) ∧ (¬ (0 ≤ x1 ∧ x1 ≤ 9) → K (oI 0) (bd L I R S)))) : CallI (d + 2) 5 [.ref 8, .int (oI x1), .int (oI x2), .int (oI x3)] (bd L I R S) K := by
  refine cI_of (ls := [.ref 8, .int (oI x1), .int (oI x2), .int (oI x3)]) rfl ?_
  refine xG gb5.1 ?_
  refine s4 (x := x1) rfl ?_
  refine s0 ?_
  refine s0 ?_
  obtain ⟨g1, hE⟩ := hE
  refine sI rc3 rfl (Nat.le_of_ble_eq_true rfl) ?_
  refine k3 g1 (inRd rfl) (inRd rfl) (fun c2 => ?_) (fun c2 => ?_)
  · replace hE := hE.1 c2
    refine s67 (inRd rfl) (fun c3 => absurd c3 (by decide)) (fun _ => ?_)
    refine s6 (p := 8) rfl ?_
    refine s51 sh8 (by decide) (by decide) rf8_0 ?_
    refine s4 (x := x2) rfl ?_
    refine s4 (x := x3) rfl ?_
    refine sI rc62 rfl (Nat.le_of_ble_eq_true rfl) ?_
    refine cI_of (ls := [.ref 9, .int (oI x2), .int (oI x3)]) rfl ?_
    refine xG gb62.1 ?_
    refine s4 (x := x2) rfl ?_
    refine s0 ?_
    refine s0 ?_
    obtain ⟨g4, hE⟩ := hE
    refine sI rc3 rfl (Nat.le_of_ble_eq_true rfl) ?_
    refine k3 g4 (inRd rfl) (inRd rfl) (fun c5 => ?_) (fun c5 => ?_)
    · replace hE := hE.1 c5
      refine s67 (inRd rfl) (fun c6 => absurd c6 (by decide)) (fun _ => ?_)
      refine s4 (x := x3) rfl ?_
      refine s0 ?_
      refine s0 ?_
      obtain ⟨g7, hE⟩ := hE
      refine sI rc3 rfl (Nat.le_of_ble_eq_true rfl) ?_
      refine k3 g7 (inRd rfl) (inRd rfl) (fun c8 => ?_) (fun c8 => ?_)
      · replace hE := hE.1 c8
        refine s67 (inRd rfl) (fun c9 => absurd c9 (by decide)) (fun _ => ?_)
        refine s0 ?_
        refine s60 ?_
        refine xG gb62.2.2 ?_
        refine s84 (by decide) ?_
        refine rqI_of ?_
        refine s68 (inRd rfl) (fun c10 => absurd c10 (by decide)) (fun _ => ?_)
        refine xG gb5.2.2 ?_
        refine s6 (p := 8) rfl ?_
        refine s51 sh8 (by decide) (by decide) rf8_0 ?_
        refine s4 (x := x1) rfl ?_
        refine s4 (x := x2) rfl ?_
        refine s4 (x := x3) rfl ?_
        refine sV rc64 rfl (Nat.le_of_ble_eq_true rfl) ?_
        refine cV_of (ls := [.ref 9, .int (oI x1), .int (oI x2), .int (oI x3)]) rfl ?_
        refine xG gb64 ?_
        refine s6 (p := 9) rfl ?_
        refine s51 sh9 (by decide) (by decide) rf9_2 ?_
        refine s4 (x := x1) rfl ?_
        refine s4 (x := x2) rfl ?_
        obtain ⟨g11, hE⟩ := hE
        refine s44 sh12 (by decide) g11 rfl ?_
        refine s6 (p := 9) rfl ?_
        refine s51 sh9 (by decide) (by decide) rf9_3 ?_
        refine s4 (x := x1) rfl ?_
        refine s4 (x := x3) rfl ?_
        refine s44 sh13 (by decide) g11 rfl ?_
        refine s83 ?_
        refine rqV_of ?_
        refine s0 ?_
        refine s84 (by decide) ?_
        exact rqI_of hE
      · replace hE := hE.2 c8
        refine s67 (inRd rfl) (fun _ => ?_) (fun c12 => absurd (by decide) c12)
        refine xG gb62.2.1 ?_
        refine s0 ?_
        refine s79 ?_
        refine xG gb62.2.2 ?_
        refine s84 (by decide) ?_
        refine rqI_of ?_
        refine s68 (inRd rfl) (fun _ => ?_) (fun c13 => absurd (by decide) c13)
        refine s79 ?_
        refine xG gb5.2.1 ?_
        refine s0 ?_
        refine s84 (by decide) ?_
        exact rqI_of hE
    · replace hE := hE.2 c5
      refine s67 (inRd rfl) (fun _ => ?_) (fun c14 => absurd (by decide) c14)
      refine xG gb62.2.1 ?_
      refine s0 ?_
      refine s79 ?_
      refine xG gb62.2.2 ?_
      refine s84 (by decide) ?_
      refine rqI_of ?_
      refine s68 (inRd rfl) (fun _ => ?_) (fun c15 => absurd (by decide) c15)
      refine s79 ?_
      refine xG gb5.2.1 ?_
      refine s0 ?_
      refine s84 (by decide) ?_
      exact rqI_of hE
  · replace hE := hE.2 c2
    refine s67 (inRd rfl) (fun _ => ?_) (fun c16 => absurd (by decide) c16)
    refine xG gb5.2.1 ?_
    refine s0 ?_
    refine s84 (by decide) ?_
    exact rqI_of hE
set_option maxRecDepth 4000 in
theorem q5 {d L n : Nat} {I : mI} {R : mR} {S : mSh} {A : aS} {K : Int32 → mM → Prop} {x1 : Int} {x2 : Int} {x3 : Int} (hX : CX R S I A n) (hW : WF A) (hn : n ≤ 100000) (rx1 : inR x1) (rx2 : inR x2) (rx3 : inR x3) (hK : ∀ I1, FK I I1 → CX R S I1 (o213 A x1 x2 x3).2 (n + 1) → K (oI (o213 A x1 x2 x3).1) (bd L I1 R S)) : CallI (d + 2) 5 [.ref 8, .int (oI x1), .int (oI x2), .int (oI x3)] (bd L I R S) K := by
  have hC := hX.1
  have hA := hW.1
  have w0 := hA.1
  have w1 := hA.2.1
  have w2 := hA.2.2.1
  have w3 : 0 ≤ A 91 3 ∧ A 91 3 ≤ 850 := hA.2.2.2.1
  have ty := today_year hA
  have c9 := hX.2.2.2.1
  refine e5 (d := d) hC ?_
  refine ⟨by first | assumption | exact inRd rfl | omega | exact ⟨by omega, by omega⟩ | (unfold WnOk; omega) | exact hW.1 | exact hW.2.1 | exact hW.2.2.1 | exact hW.2.2.2.1 | exact hW.2.2.2.2.1 | exact hW.2.2.2.2.2.2.2.2.2.1 | exact hW.2.2.2.2.2.2.2.2.2.2.1 | (constructor <;> omega), ?_⟩
  refine ⟨fun c1 => ?_, fun c1 => ?_⟩
  · refine ⟨by first | assumption | exact inRd rfl | omega | exact ⟨by omega, by omega⟩ | (unfold WnOk; omega) | exact hW.1 | exact hW.2.1 | exact hW.2.2.1 | exact hW.2.2.2.1 | exact hW.2.2.2.2.1 | exact hW.2.2.2.2.2.2.2.2.2.1 | exact hW.2.2.2.2.2.2.2.2.2.2.1 | (constructor <;> omega), ?_⟩
    refine ⟨fun c2 => ?_, fun c2 => ?_⟩
    · refine ⟨by first | assumption | exact inRd rfl | omega | exact ⟨by omega, by omega⟩ | (unfold WnOk; omega) | exact hW.1 | exact hW.2.1 | exact hW.2.2.1 | exact hW.2.2.2.1 | exact hW.2.2.2.2.1 | exact hW.2.2.2.2.2.2.2.2.2.1 | exact hW.2.2.2.2.2.2.2.2.2.2.1 | (constructor <;> omega), ?_⟩
      refine ⟨fun c3 => ?_, fun c3 => ?_⟩
      · refine ⟨by first | assumption | exact inRd rfl | omega | exact ⟨by omega, by omega⟩ | (unfold WnOk; omega) | exact hW.1 | exact hW.2.1 | exact hW.2.2.1 | exact hW.2.2.2.1 | exact hW.2.2.2.2.1 | exact hW.2.2.2.2.2.2.2.2.2.1 | exact hW.2.2.2.2.2.2.2.2.2.2.1 | (constructor <;> omega), ?_⟩
        have ho : o213 A x1 x2 x3 = (1, (u2 (u2 A 101 x1.toNat (x2)) 102 x1.toNat (x3))) := by
          unfold o213
          repeat' split
          all_goals first | rfl | (exfalso; omega) | exact Prod.ext (by dsimp only; omega) rfl | exact Prod.ext (by dsimp only) rfl
        rw [ho] at hK
        have h0 : RelC0 (u2 (u2 I 12 x1.toNat (oI x2)) 13 x1.toNat (oI x3)) (u2 (u2 A 101 x1.toNat (x2)) 102 x1.toNat (x3)) := (RelC0.set (RelC0.set hC.1 (a := 12) (k := x1.toNat) (v := x2) rfl (by first | assumption | exact inRd rfl | omega | exact ⟨by omega, by omega⟩ | (unfold WnOk; omega) | exact hW.1 | exact hW.2.1 | exact hW.2.2.1 | exact hW.2.2.2.1 | exact hW.2.2.2.2.1 | exact hW.2.2.2.2.2.2.2.2.2.1 | exact hW.2.2.2.2.2.2.2.2.2.2.1 | (constructor <;> omega))) (a := 13) (k := x1.toNat) (v := x3) rfl (by first | assumption | exact inRd rfl | omega | exact ⟨by omega, by omega⟩ | (unfold WnOk; omega) | exact hW.1 | exact hW.2.1 | exact hW.2.2.1 | exact hW.2.2.2.1 | exact hW.2.2.2.2.1 | exact hW.2.2.2.2.2.2.2.2.2.1 | exact hW.2.2.2.2.2.2.2.2.2.2.1 | (constructor <;> omega)))
        have hr : RC R S (u2 (u2 I 12 x1.toNat (oI x2)) 13 x1.toNat (oI x3)) (u2 (u2 A 101 x1.toNat (x2)) 102 x1.toNat (x3)) := RC.st hC h0 (PKx.wr (PKx.wr (PKx.refl I) rfl) rfl) (Ko.set (Ko.set (Ko.refl _ _ _) rfl) rfl) (Ko.set (Ko.set (Ko.refl _ _ _) rfl) rfl) (Ko.set (Ko.set (Ko.refl _ _ _) rfl) rfl) (Ko.set (Ko.set (Ko.refl _ _ _) rfl) rfl)
        exact hK _ (FK.wr (FK.wr (FK.refl I) (by decide)) (by decide)) (CX.up (hX.ko (Ko.set (Ko.set (Ko.refl _ _ _) rfl) rfl) hr (MmK.wr (MmK.wr (MmK.refl I) rfl) rfl) rfl) (Nat.le_succ n))
      · have ho : o213 A x1 x2 x3 = (0, A) := by
          unfold o213
          repeat' split
          all_goals first | rfl | (exfalso; omega) | exact Prod.ext (by dsimp only; omega) rfl | exact Prod.ext (by dsimp only) rfl
        rw [ho] at hK
        exact hK I (FK.refl I) (hX.up (Nat.le_succ n))
    · have ho : o213 A x1 x2 x3 = (0, A) := by
        unfold o213
        repeat' split
        all_goals first | rfl | (exfalso; omega) | exact Prod.ext (by dsimp only; omega) rfl | exact Prod.ext (by dsimp only) rfl
      rw [ho] at hK
      exact hK I (FK.refl I) (hX.up (Nat.le_succ n))
  · have ho : o213 A x1 x2 x3 = (0, A) := by
      unfold o213
      repeat' split
      all_goals first | rfl | (exfalso; omega) | exact Prod.ext (by dsimp only; omega) rfl | exact Prod.ext (by dsimp only) rfl
    rw [ho] at hK
    exact hK I (FK.refl I) (hX.up (Nat.le_succ n))
set_option maxRecDepth 4000 in
theorem e6 {d L : Nat} {I : Nat → Nat → Int32} {R : Nat → Nat → Option Nat} {S : List (Nat × Nat)} {K : Int32 → mM → Prop} {A : aS} (hC : RC R S I A) {x1 : Int} {x2 : Int} (hE : inR x1 ∧ (inR (A 91 1 - 1) ∧ (((0 ≤ x1 ∧ x1 ≤ A 91 1 - 1) → inR x2 ∧ (((0 ≤ x2 ∧ x2 ≤ 9) → (0 ≤ x1 ∧ x1 < 40) ∧ (K (oI 1) (bd L (u2 I 23 x1.toNat (oI x2)) R S))) ∧ (¬ (0 ≤ x2 ∧ x2 ≤ 9) → K (oI 0) (bd L I R S)))) ∧ (¬ (0 ≤ x1 ∧ x1 ≤ A 91 1 - 1) → K (oI 0) (bd L I R S))))) : CallI (d + 2) 6 [.ref 8, .int (oI x1), .int (oI x2)] (bd L I R S) K := by
  refine cI_of (ls := [.ref 8, .int (oI x1), .int (oI x2)]) rfl ?_
  refine xG gb6.1 ?_
  refine s6 (p := 8) rfl ?_
  refine s4 (x := x1) rfl ?_
  refine sI rc7 rfl (Nat.le_of_ble_eq_true rfl) ?_
  refine cI_of (ls := [.ref 8, .int (oI x1)]) rfl ?_
  refine xG gb7 ?_
  refine s4 (x := x1) rfl ?_
  refine s0 ?_
  refine s6 (p := 8) rfl ?_
  refine s51 sh8 (by decide) (by decide) rf8_1 ?_
  refine s50 (v := A 91 1) sh21 (by decide) (by decide) (rdC hC.1 rfl) ?_
  refine s0 ?_
  refine s17 ?_
  obtain ⟨g1, hE⟩ := hE
  obtain ⟨g2, hE⟩ := hE
  refine sI rc3 rfl (Nat.le_of_ble_eq_true rfl) ?_
  refine k3 g1 (inRd rfl) g2 (fun c3 => ?_) (fun c3 => ?_)
  · replace hE := hE.1 c3
    refine s84 (by decide) ?_
    refine rqI_of ?_
    refine s67 (inRd rfl) (fun c4 => absurd c4 (by decide)) (fun _ => ?_)
    refine s4 (x := x2) rfl ?_
    refine s0 ?_
    refine s0 ?_
    obtain ⟨g5, hE⟩ := hE
    refine sI rc3 rfl (Nat.le_of_ble_eq_true rfl) ?_
    refine k3 g5 (inRd rfl) (inRd rfl) (fun c6 => ?_) (fun c6 => ?_)
    · replace hE := hE.1 c6
      refine s68 (inRd rfl) (fun c7 => absurd c7 (by decide)) (fun _ => ?_)
      refine xG gb6.2.2 ?_
      refine s6 (p := 8) rfl ?_
      refine s51 sh8 (by decide) (by decide) rf8_1 ?_
      refine s51 sh21 (by decide) (by decide) rf21_1 ?_
      refine s4 (x := x1) rfl ?_
      refine s4 (x := x2) rfl ?_
      obtain ⟨g8, hE⟩ := hE
      refine s44 sh23 (by decide) g8 rfl ?_
      refine s0 ?_
      refine s84 (by decide) ?_
      exact rqI_of hE
    · replace hE := hE.2 c6
      refine s68 (inRd rfl) (fun _ => ?_) (fun c9 => absurd (by decide) c9)
      refine s79 ?_
      refine xG gb6.2.1 ?_
      refine s0 ?_
      refine s84 (by decide) ?_
      exact rqI_of hE
  · replace hE := hE.2 c3
    refine s84 (by decide) ?_
    refine rqI_of ?_
    refine s67 (inRd rfl) (fun _ => ?_) (fun c10 => absurd (by decide) c10)
    refine xG gb6.2.1 ?_
    refine s0 ?_
    refine s84 (by decide) ?_
    exact rqI_of hE
set_option maxRecDepth 4000 in
theorem q6 {d L n : Nat} {I : mI} {R : mR} {S : mSh} {A : aS} {K : Int32 → mM → Prop} {x1 : Int} {x2 : Int} (hX : CX R S I A n) (hW : WF A) (hn : n ≤ 100000) (rx1 : inR x1) (rx2 : inR x2) (hK : ∀ I1, FK I I1 → CX R S I1 (o214 A x1 x2).2 (n + 1) → K (oI (o214 A x1 x2).1) (bd L I1 R S)) : CallI (d + 2) 6 [.ref 8, .int (oI x1), .int (oI x2)] (bd L I R S) K := by
  have hC := hX.1
  have hA := hW.1
  have w0 := hA.1
  have w1 := hA.2.1
  have w2 := hA.2.2.1
  have w3 : 0 ≤ A 91 3 ∧ A 91 3 ≤ 850 := hA.2.2.2.1
  have ty := today_year hA
  have c9 := hX.2.2.2.1
  refine e6 (d := d) hC ?_
  refine ⟨by first | assumption | exact inRd rfl | omega | exact ⟨by omega, by omega⟩ | (unfold WnOk; omega) | exact hW.1 | exact hW.2.1 | exact hW.2.2.1 | exact hW.2.2.2.1 | exact hW.2.2.2.2.1 | exact hW.2.2.2.2.2.2.2.2.2.1 | exact hW.2.2.2.2.2.2.2.2.2.2.1 | (constructor <;> omega), ?_⟩
  refine ⟨by first | assumption | exact inRd rfl | omega | exact ⟨by omega, by omega⟩ | (unfold WnOk; omega) | exact hW.1 | exact hW.2.1 | exact hW.2.2.1 | exact hW.2.2.2.1 | exact hW.2.2.2.2.1 | exact hW.2.2.2.2.2.2.2.2.2.1 | exact hW.2.2.2.2.2.2.2.2.2.2.1 | (constructor <;> omega), ?_⟩
  refine ⟨fun c1 => ?_, fun c1 => ?_⟩
  · refine ⟨by first | assumption | exact inRd rfl | omega | exact ⟨by omega, by omega⟩ | (unfold WnOk; omega) | exact hW.1 | exact hW.2.1 | exact hW.2.2.1 | exact hW.2.2.2.1 | exact hW.2.2.2.2.1 | exact hW.2.2.2.2.2.2.2.2.2.1 | exact hW.2.2.2.2.2.2.2.2.2.2.1 | (constructor <;> omega), ?_⟩
    refine ⟨fun c2 => ?_, fun c2 => ?_⟩
    · refine ⟨by first | assumption | exact inRd rfl | omega | exact ⟨by omega, by omega⟩ | (unfold WnOk; omega) | exact hW.1 | exact hW.2.1 | exact hW.2.2.1 | exact hW.2.2.2.1 | exact hW.2.2.2.2.1 | exact hW.2.2.2.2.2.2.2.2.2.1 | exact hW.2.2.2.2.2.2.2.2.2.2.1 | (constructor <;> omega), ?_⟩
      have ho : o214 A x1 x2 = (1, (u2 A 93 x1.toNat (x2))) := by
        unfold o214
        repeat' split
        all_goals first | rfl | (exfalso; omega) | exact Prod.ext (by dsimp only; omega) rfl | exact Prod.ext (by dsimp only) rfl
      rw [ho] at hK
      have h0 : RelC0 (u2 I 23 x1.toNat (oI x2)) (u2 A 93 x1.toNat (x2)) := (RelC0.set hC.1 (a := 23) (k := x1.toNat) (v := x2) rfl (by first | assumption | exact inRd rfl | omega | exact ⟨by omega, by omega⟩ | (unfold WnOk; omega) | exact hW.1 | exact hW.2.1 | exact hW.2.2.1 | exact hW.2.2.2.1 | exact hW.2.2.2.2.1 | exact hW.2.2.2.2.2.2.2.2.2.1 | exact hW.2.2.2.2.2.2.2.2.2.2.1 | (constructor <;> omega)))
      have hr : RC R S (u2 I 23 x1.toNat (oI x2)) (u2 A 93 x1.toNat (x2)) := RC.st hC h0 (PKx.wr (PKx.refl I) rfl) (Ko.set (Ko.refl _ _ _) rfl) (Ko.set (Ko.refl _ _ _) rfl) (Ko.set (Ko.refl _ _ _) rfl) (Ko.set (Ko.refl _ _ _) rfl)
      exact hK _ (FK.wr (FK.refl I) (by decide)) (CX.up (hX.ko (Ko.set (Ko.refl _ _ _) rfl) hr (MmK.wr (MmK.refl I) rfl) rfl) (Nat.le_succ n))
    · have ho : o214 A x1 x2 = (0, A) := by
        unfold o214
        repeat' split
        all_goals first | rfl | (exfalso; omega) | exact Prod.ext (by dsimp only; omega) rfl | exact Prod.ext (by dsimp only) rfl
      rw [ho] at hK
      exact hK I (FK.refl I) (hX.up (Nat.le_succ n))
  · have ho : o214 A x1 x2 = (0, A) := by
      unfold o214
      repeat' split
      all_goals first | rfl | (exfalso; omega) | exact Prod.ext (by dsimp only; omega) rfl | exact Prod.ext (by dsimp only) rfl
    rw [ho] at hK
    exact hK I (FK.refl I) (hX.up (Nat.le_succ n))
