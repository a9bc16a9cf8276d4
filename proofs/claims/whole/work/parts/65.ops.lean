/-! the reference: the calls without loops of their own -/
/-- how many notes of each kind -/
def WfB (A : aS) : Prop := A 110 0 + A 110 1 + A 110 2 + A 110 3 + A 110 4 + A 110 5 + A 110 6 = A 91 3 ∧ (0 ≤ A 110 0 ∧ A 110 0 ≤ 150) ∧ (0 ≤ A 110 1 ∧ A 110 1 ≤ 30) ∧ (0 ≤ A 110 2 ∧ A 110 2 ≤ 300) ∧ (0 ≤ A 110 3 ∧ A 110 3 ≤ 60) ∧ (0 ≤ A 110 4 ∧ A 110 4 ≤ 30) ∧ (0 ≤ A 110 5 ∧ A 110 5 ≤ 30) ∧ (0 ≤ A 110 6 ∧ A 110 6 ≤ 250)
set_option maxRecDepth 4000 in
theorem e208 {d L : Nat} {I : Nat → Nat → Int32} {R : Nat → Nat → Option Nat} {S : List (Nat × Nat)} {K : Int32 → mM → Prop} {A : aS} (hR : RM I A) {x1 : Int} (hE : inR x1 ∧ (((A 91 0 < x1) → ((799 < x1) → K (oI 0) (bd L I R S)) ∧ (¬ (799 < x1) → K (oI 1) (bd L (u2 I 91 0 (oI x1)) R S))) ∧ (¬ (A 91 0 < x1) → K (oI 0) (bd L I R S)))) : CallI d 208 [.ref 91, .int (oI x1)] (bd L I R S) K := by
  refine cI_of (ls := [.ref 91, .int (oI x1)]) rfl ?_
  refine xG gb208.1 ?_
  refine s4 (x := x1) rfl ?_
  refine s6 (p := 91) rfl ?_
  refine s50 (v := A 91 0) sh91 (by decide) (by decide) (rdM hR.1 rfl) ?_
  obtain ⟨g1, hE⟩ := hE
  refine s66 g1 (inA hR.1 (a := 91) (k := 0) rfl) (fun c2 => ?_) (fun c2 => ?_)
  · replace hE := hE.1 c2
    refine s4 (x := x1) rfl ?_
    refine s0 ?_
    refine s66 g1 (inRd rfl) (fun c3 => ?_) (fun c3 => ?_)
    · replace hE := hE.1 c3
      refine s79 ?_
      refine xG gb208.2.1 ?_
      refine s0 ?_
      refine s84 (by decide) ?_
      exact rqI_of hE
    · replace hE := hE.2 c3
      refine xG gb208.2.2 ?_
      refine s6 (p := 91) rfl ?_
      refine s4 (x := x1) rfl ?_
      refine s52 sh91 (by decide) (by decide) ?_
      refine s0 ?_
      refine s84 (by decide) ?_
      exact rqI_of hE
  · replace hE := hE.2 c2
    refine xG gb208.2.1 ?_
    refine s0 ?_
    refine s84 (by decide) ?_
    exact rqI_of hE
noncomputable def o208 (A : aS) (x1 : Int) : Int × aS := (if A 91 0 < x1 then (if 799 < x1 then (0, A) else (1, (u2 A 91 0 (x1)))) else (0, A))
theorem k208 {d L : Nat} {I : mI} {R : Nat → Nat → Option Nat} {S : List (Nat × Nat)} {A : aS} {K : Int32 → mM → Prop} {x1 : Int} (hR : RM I A) (hWfA : WfA A) (rx1 : inR x1) (hK : ∀ I1, FM I I1 → RM I1 (o208 A x1).2 → K (oI (o208 A x1).1) (bd L I1 R S)) : CallI (d + 0) 208 [.ref 91, .int (oI x1)] (bd L I R S) K := by
  have ho : o208 A x1 = (if A 91 0 < x1 then (if 799 < x1 then (0, A) else (1, (u2 A 91 0 (x1)))) else (0, A)) := rfl
  have w0 := hWfA.1
  have w1 := hWfA.2.1
  have w2 := hWfA.2.2.1
  have w3 : 0 ≤ A 91 3 ∧ A 91 3 ≤ 850 := hWfA.2.2.2.1
  have wN := hWfA.2.2.2.1
  have ty := today_year hWfA
  refine e208 (d := d) hR ?_
  refine ⟨by first | assumption | exact inRd rfl | omega | exact ⟨by omega, by omega⟩, ?_⟩
  refine ⟨fun c1 => ?_, fun c1 => ?_⟩
  · rw [if_pos c1] at ho
    refine ⟨fun c2 => ?_, fun c2 => ?_⟩
    · rw [if_pos c2] at ho
      rw [ho] at hK
      exact hK _ (FM.refl _) (hR)
    · rw [if_neg c2] at ho
      rw [ho] at hK
      exact hK _ (FM.wr (FM.refl _) (by decide)) (RM.set (hR) 91 0 (by first | assumption | exact inRd rfl | omega | exact ⟨by omega, by omega⟩) rfl)
  · rw [if_neg c1] at ho
    rw [ho] at hK
    exact hK _ (FM.refl _) (hR)
set_option maxRecDepth 4000 in
theorem e209 {d L : Nat} {I : Nat → Nat → Int32} {R : Nat → Nat → Option Nat} {S : List (Nat × Nat)} {K : Int32 → mM → Prop} {A : aS} (hR : RM I A) {x1 : Int} {x2 : Int} {x3 : Int} (hE : inR x1 ∧ ((((-1500) ≤ x1 ∧ x1 ≤ A 91 0) → inR x2 ∧ (((0 ≤ x2 ∧ x2 ≤ 9) → inR x3 ∧ (((0 ≤ x3 ∧ x3 ≤ 6) → ((A 91 1 = 40) → K (oI (-1)) (bd L I R S)) ∧ (¬ (A 91 1 = 40) → (0 ≤ A 91 1 ∧ A 91 1 < 40) ∧ (K (oI (A 91 1 + 1 - 1)) (bd L (u2 (u2 (u2 (u2 (u2 I 92 (A 91 1).toNat (oI x1)) 93 (A 91 1).toNat (oI x2)) 95 (A 91 1).toNat (oI x3)) 94 (A 91 1).toNat (oI (Int.tdiv (A 91 0) 100))) 91 1 (oI (A 91 1 + 1))) R S)))) ∧ (¬ (0 ≤ x3 ∧ x3 ≤ 6) → K (oI (-1)) (bd L I R S)))) ∧ (¬ (0 ≤ x2 ∧ x2 ≤ 9) → K (oI (-1)) (bd L I R S)))) ∧ (¬ ((-1500) ≤ x1 ∧ x1 ≤ A 91 0) → K (oI (-1)) (bd L I R S)))) : CallI (d + 1) 209 [.ref 91, .int (oI x1), .int (oI x2), .int (oI x3)] (bd L I R S) K := by
  refine cI_of (ls := [.ref 91, .int (oI x1), .int (oI x2), .int (oI x3)]) rfl ?_
  refine xG gb209.1 ?_
  refine s4 (x := x1) rfl ?_
  refine s0 ?_
  refine s6 (p := 91) rfl ?_
  refine s50 (v := A 91 0) sh91 (by decide) (by decide) (rdM hR.1 rfl) ?_
  obtain ⟨g1, hE⟩ := hE
  refine sI rc210 rfl (Nat.le_of_ble_eq_true rfl) ?_
  refine k210 g1 (inRd rfl) (inA hR.1 (a := 91) (k := 0) rfl) (fun c2 => ?_) (fun c2 => ?_)
  · replace hE := hE.1 c2
    refine s67 (inRd rfl) (fun c3 => absurd c3 (by decide)) (fun _ => ?_)
    refine s4 (x := x2) rfl ?_
    refine s0 ?_
    refine s0 ?_
    obtain ⟨g4, hE⟩ := hE
    refine sI rc210 rfl (Nat.le_of_ble_eq_true rfl) ?_
    refine k210 g4 (inRd rfl) (inRd rfl) (fun c5 => ?_) (fun c5 => ?_)
    · replace hE := hE.1 c5
      refine s67 (inRd rfl) (fun c6 => absurd c6 (by decide)) (fun _ => ?_)
      refine s4 (x := x3) rfl ?_
      refine s0 ?_
      refine s0 ?_
      obtain ⟨g7, hE⟩ := hE
      refine sI rc210 rfl (Nat.le_of_ble_eq_true rfl) ?_
      refine k210 g7 (inRd rfl) (inRd rfl) (fun c8 => ?_) (fun c8 => ?_)
      · replace hE := hE.1 c8
        refine s67 (inRd rfl) (fun c9 => absurd c9 (by decide)) (fun _ => ?_)
        refine s6 (p := 91) rfl ?_
        refine s50 (v := A 91 1) sh91 (by decide) (by decide) (rdM hR.1 rfl) ?_
        refine s0 ?_
        refine s62 (inA hR.1 (a := 91) (k := 1) rfl) (inRd rfl) (fun c10 => ?_) (fun c10 => ?_)
        · replace hE := hE.1 c10
          refine s79 ?_
          refine xG gb209.2.1 ?_
          refine s0 ?_
          refine s80 ?_
          exact rqI_of hE
        · replace hE := hE.2 c10
          refine xG gb209.2.2 ?_
          refine s6 (p := 91) rfl ?_
          refine s51 sh91 (by decide) (by decide) rf91_5 ?_
          refine s6 (p := 91) rfl ?_
          refine s50 (v := A 91 1) sh91 (by decide) (by decide) (rdM hR.1 rfl) ?_
          refine s4 (x := x1) rfl ?_
          obtain ⟨g11, hE⟩ := hE
          refine s44 sh92 (by decide) g11 rfl ?_
          refine s6 (p := 91) rfl ?_
          refine s51 sh91 (by decide) (by decide) rf91_6 ?_
          refine s6 (p := 91) rfl ?_
          refine s50 (v := A 91 1) sh91 (by decide) (by decide) ((v2_ne (by decide)).trans (rdM hR.1 rfl)) ?_
          refine s4 (x := x2) rfl ?_
          refine s44 sh93 (by decide) g11 rfl ?_
          refine s6 (p := 91) rfl ?_
          refine s51 sh91 (by decide) (by decide) rf91_8 ?_
          refine s6 (p := 91) rfl ?_
          refine s50 (v := A 91 1) sh91 (by decide) (by decide) ((v2_ne (by decide)).trans ((v2_ne (by decide)).trans (rdM hR.1 rfl))) ?_
          refine s4 (x := x3) rfl ?_
          refine s44 sh95 (by decide) g11 rfl ?_
          refine s6 (p := 91) rfl ?_
          refine s51 sh91 (by decide) (by decide) rf91_7 ?_
          refine s6 (p := 91) rfl ?_
          refine s50 (v := A 91 1) sh91 (by decide) (by decide) ((v2_ne (by decide)).trans ((v2_ne (by decide)).trans ((v2_ne (by decide)).trans (rdM hR.1 rfl)))) ?_
          refine s6 (p := 91) rfl ?_
          refine s50 (v := A 91 0) sh91 (by decide) (by decide) ((v2_ne (by decide)).trans ((v2_ne (by decide)).trans ((v2_ne (by decide)).trans (rdM hR.1 rfl)))) ?_
          refine s0 ?_
          refine s19 (inA hR.1 (a := 91) (k := 0) rfl) ⟨(inRd rfl), by decide⟩ ?_
          refine s44 sh94 (by decide) g11 rfl ?_
          refine s6 (p := 91) rfl ?_
          refine s13r ?_
          refine s50 (v := A 91 1) sh91 (by decide) (by decide) ((v2_ne (by decide)).trans ((v2_ne (by decide)).trans ((v2_ne (by decide)).trans ((v2_ne (by decide)).trans (rdM hR.1 rfl))))) ?_
          refine s0 ?_
          refine s16 ?_
          refine s52 sh91 (by decide) (by decide) ?_
          refine s6 (p := 91) rfl ?_
          refine s50 (v := A 91 1 + 1) sh91 (by decide) (by decide) (v2_eq) ?_
          refine s0 ?_
          refine s17 ?_
          refine s80 ?_
          exact rqI_of hE
      · replace hE := hE.2 c8
        refine s67 (inRd rfl) (fun _ => ?_) (fun c12 => absurd (by decide) c12)
        refine xG gb209.2.1 ?_
        refine s0 ?_
        refine s80 ?_
        exact rqI_of hE
    · replace hE := hE.2 c5
      refine s67 (inRd rfl) (fun _ => ?_) (fun c13 => absurd (by decide) c13)
      refine xG gb209.2.1 ?_
      refine s0 ?_
      refine s80 ?_
      exact rqI_of hE
  · replace hE := hE.2 c2
    refine s67 (inRd rfl) (fun _ => ?_) (fun c14 => absurd (by decide) c14)
    refine xG gb209.2.1 ?_
    refine s0 ?_
    refine s80 ?_
    exact rqI_of hE
noncomputable def o209 (A : aS) (x1 : Int) (x2 : Int) (x3 : Int) : Int × aS := (if (-1500) ≤ x1 ∧ x1 ≤ A 91 0 then (if 0 ≤ x2 ∧ x2 ≤ 9 then (if 0 ≤ x3 ∧ x3 ≤ 6 then (if A 91 1 = 40 then ((-1), A) else ((A 91 1 + 1 - 1), (u2 (u2 (u2 (u2 (u2 A 92 (A 91 1).toNat (x1)) 93 (A 91 1).toNat (x2)) 95 (A 91 1).toNat (x3)) 94 (A 91 1).toNat ((Int.tdiv (A 91 0) 100))) 91 1 ((A 91 1 + 1))))) else ((-1), A)) else ((-1), A)) else ((-1), A))
theorem k209 {d L : Nat} {I : mI} {R : Nat → Nat → Option Nat} {S : List (Nat × Nat)} {A : aS} {K : Int32 → mM → Prop} {x1 : Int} {x2 : Int} {x3 : Int} (hR : RM I A) (hWfA : WfA A) (rx1 : inR x1) (rx2 : inR x2) (rx3 : inR x3) (hK : ∀ I1, FM I I1 → RM I1 (o209 A x1 x2 x3).2 → K (oI (o209 A x1 x2 x3).1) (bd L I1 R S)) : CallI (d + 1) 209 [.ref 91, .int (oI x1), .int (oI x2), .int (oI x3)] (bd L I R S) K := by
  have ho : o209 A x1 x2 x3 = (if (-1500) ≤ x1 ∧ x1 ≤ A 91 0 then (if 0 ≤ x2 ∧ x2 ≤ 9 then (if 0 ≤ x3 ∧ x3 ≤ 6 then (if A 91 1 = 40 then ((-1), A) else ((A 91 1 + 1 - 1), (u2 (u2 (u2 (u2 (u2 A 92 (A 91 1).toNat (x1)) 93 (A 91 1).toNat (x2)) 95 (A 91 1).toNat (x3)) 94 (A 91 1).toNat ((Int.tdiv (A 91 0) 100))) 91 1 ((A 91 1 + 1))))) else ((-1), A)) else ((-1), A)) else ((-1), A)) := rfl
  have w0 := hWfA.1
  have w1 := hWfA.2.1
  have w2 := hWfA.2.2.1
  have w3 : 0 ≤ A 91 3 ∧ A 91 3 ≤ 850 := hWfA.2.2.2.1
  have wN := hWfA.2.2.2.1
  have ty := today_year hWfA
  refine e209 (d := d) hR ?_
  refine ⟨by first | assumption | exact inRd rfl | omega | exact ⟨by omega, by omega⟩, ?_⟩
  refine ⟨fun c3 => ?_, fun c3 => ?_⟩
  · rw [if_pos c3] at ho
    refine ⟨by first | assumption | exact inRd rfl | omega | exact ⟨by omega, by omega⟩, ?_⟩
    refine ⟨fun c4 => ?_, fun c4 => ?_⟩
    · rw [if_pos c4] at ho
      refine ⟨by first | assumption | exact inRd rfl | omega | exact ⟨by omega, by omega⟩, ?_⟩
      refine ⟨fun c5 => ?_, fun c5 => ?_⟩
      · rw [if_pos c5] at ho
        refine ⟨fun c6 => ?_, fun c6 => ?_⟩
        · rw [if_pos c6] at ho
          rw [ho] at hK
          exact hK _ (FM.refl _) (hR)
        · rw [if_neg c6] at ho
          refine ⟨by first | assumption | exact inRd rfl | omega | exact ⟨by omega, by omega⟩, ?_⟩
          rw [ho] at hK
          exact hK _ (FM.wr (FM.wr (FM.wr (FM.wr (FM.wr (FM.refl _) (by decide)) (by decide)) (by decide)) (by decide)) (by decide)) (RM.set (RM.set (RM.set (RM.set (RM.set (hR) 92 (A 91 1).toNat (by first | assumption | exact inRd rfl | omega | exact ⟨by omega, by omega⟩) rfl) 93 (A 91 1).toNat (by first | assumption | exact inRd rfl | omega | exact ⟨by omega, by omega⟩) rfl) 95 (A 91 1).toNat (by first | assumption | exact inRd rfl | omega | exact ⟨by omega, by omega⟩) rfl) 94 (A 91 1).toNat (by first | assumption | exact inRd rfl | omega | exact ⟨by omega, by omega⟩) rfl) 91 1 (by first | assumption | exact inRd rfl | omega | exact ⟨by omega, by omega⟩) rfl)
      · rw [if_neg c5] at ho
        rw [ho] at hK
        exact hK _ (FM.refl _) (hR)
    · rw [if_neg c4] at ho
      rw [ho] at hK
      exact hK _ (FM.refl _) (hR)
  · rw [if_neg c3] at ho
    rw [ho] at hK
    exact hK _ (FM.refl _) (hR)
set_option maxRecDepth 4000 in
theorem e211 {d L : Nat} {I : Nat → Nat → Int32} {R : Nat → Nat → Option Nat} {S : List (Nat × Nat)} {K : Int32 → mM → Prop} {A : aS} (hR : RM I A) {x1 : Int} {x2 : Int} {x3 : Int} (hE : inR x1 ∧ (((0 ≤ x1 ∧ x1 ≤ 60) → inR x2 ∧ (((0 ≤ x2 ∧ x2 ≤ 60) → inR x3 ∧ (((0 ≤ x3 ∧ x3 ≤ 9999) → ((A 91 2 = 6) → K (oI (-1)) (bd L I R S)) ∧ (¬ (A 91 2 = 6) → (0 ≤ A 91 2 ∧ A 91 2 < 6) ∧ (K (oI (A 91 2 + 1 - 1)) (bd L (u2 (u2 (u2 (u2 I 98 (A 91 2).toNat (oI x1)) 99 (A 91 2).toNat (oI x2)) 100 (A 91 2).toNat (oI x3)) 91 2 (oI (A 91 2 + 1))) R S)))) ∧ (¬ (0 ≤ x3 ∧ x3 ≤ 9999) → K (oI (-1)) (bd L I R S)))) ∧ (¬ (0 ≤ x2 ∧ x2 ≤ 60) → K (oI (-1)) (bd L I R S)))) ∧ (¬ (0 ≤ x1 ∧ x1 ≤ 60) → K (oI (-1)) (bd L I R S)))) : CallI (d + 2) 211 [.ref 91, .int (oI x1), .int (oI x2), .int (oI x3)] (bd L I R S) K := by
  refine cI_of (ls := [.ref 91, .int (oI x1), .int (oI x2), .int (oI x3)]) rfl ?_
  refine xG gb211.1 ?_
  refine s4 (x := x1) rfl ?_
  refine s4 (x := x2) rfl ?_
  refine sI rc212 rfl (Nat.le_of_ble_eq_true rfl) ?_
  refine cI_of (ls := [.int (oI x1), .int (oI x2)]) rfl ?_
  refine xG gb212.1 ?_
  refine s4 (x := x1) rfl ?_
  refine s0 ?_
  refine s0 ?_
  obtain ⟨g1, hE⟩ := hE
  refine sI rc210 rfl (Nat.le_of_ble_eq_true rfl) ?_
  refine k210 g1 (inRd rfl) (inRd rfl) (fun c2 => ?_) (fun c2 => ?_)
  · replace hE := hE.1 c2
    refine s67 (inRd rfl) (fun c3 => absurd c3 (by decide)) (fun _ => ?_)
    refine s4 (x := x2) rfl ?_
    refine s0 ?_
    refine s0 ?_
    obtain ⟨g4, hE⟩ := hE
    refine sI rc210 rfl (Nat.le_of_ble_eq_true rfl) ?_
    refine k210 g4 (inRd rfl) (inRd rfl) (fun c5 => ?_) (fun c5 => ?_)
    · replace hE := hE.1 c5
      refine s67 (inRd rfl) (fun c6 => absurd c6 (by decide)) (fun _ => ?_)
      refine s0 ?_
      refine s60 ?_
      refine xG gb212.2.2 ?_
      refine s84 (by decide) ?_
      refine rqI_of ?_
      refine s67 (inRd rfl) (fun c7 => absurd c7 (by decide)) (fun _ => ?_)
      refine s4 (x := x3) rfl ?_
      refine s0 ?_
      refine s0 ?_
      obtain ⟨g8, hE⟩ := hE
      refine sI rc210 rfl (Nat.le_of_ble_eq_true rfl) ?_
      refine k210 g8 (inRd rfl) (inRd rfl) (fun c9 => ?_) (fun c9 => ?_)
      · replace hE := hE.1 c9
        refine s67 (inRd rfl) (fun c10 => absurd c10 (by decide)) (fun _ => ?_)
        refine s6 (p := 91) rfl ?_
        refine s50 (v := A 91 2) sh91 (by decide) (by decide) (rdM hR.1 rfl) ?_
        refine s0 ?_
        refine s62 (inA hR.1 (a := 91) (k := 2) rfl) (inRd rfl) (fun c11 => ?_) (fun c11 => ?_)
        · replace hE := hE.1 c11
          refine s79 ?_
          refine xG gb211.2.1 ?_
          refine s0 ?_
          refine s80 ?_
          exact rqI_of hE
        · replace hE := hE.2 c11
          refine xG gb211.2.2 ?_
          refine s6 (p := 91) rfl ?_
          refine s51 sh91 (by decide) (by decide) rf91_11 ?_
          refine s6 (p := 91) rfl ?_
          refine s50 (v := A 91 2) sh91 (by decide) (by decide) (rdM hR.1 rfl) ?_
          refine s4 (x := x1) rfl ?_
          obtain ⟨g12, hE⟩ := hE
          refine s44 sh98 (by decide) g12 rfl ?_
          refine s6 (p := 91) rfl ?_
          refine s51 sh91 (by decide) (by decide) rf91_12 ?_
          refine s6 (p := 91) rfl ?_
          refine s50 (v := A 91 2) sh91 (by decide) (by decide) ((v2_ne (by decide)).trans (rdM hR.1 rfl)) ?_
          refine s4 (x := x2) rfl ?_
          refine s44 sh99 (by decide) g12 rfl ?_
          refine s6 (p := 91) rfl ?_
          refine s51 sh91 (by decide) (by decide) rf91_13 ?_
          refine s6 (p := 91) rfl ?_
          refine s50 (v := A 91 2) sh91 (by decide) (by decide) ((v2_ne (by decide)).trans ((v2_ne (by decide)).trans (rdM hR.1 rfl))) ?_
          refine s4 (x := x3) rfl ?_
          refine s44 sh100 (by decide) g12 rfl ?_
          refine s6 (p := 91) rfl ?_
          refine s13r ?_
          refine s50 (v := A 91 2) sh91 (by decide) (by decide) ((v2_ne (by decide)).trans ((v2_ne (by decide)).trans ((v2_ne (by decide)).trans (rdM hR.1 rfl)))) ?_
          refine s0 ?_
          refine s16 ?_
          refine s52 sh91 (by decide) (by decide) ?_
          refine s6 (p := 91) rfl ?_
          refine s50 (v := A 91 2 + 1) sh91 (by decide) (by decide) (v2_eq) ?_
          refine s0 ?_
          refine s17 ?_
          refine s80 ?_
          exact rqI_of hE
      · replace hE := hE.2 c9
        refine s67 (inRd rfl) (fun _ => ?_) (fun c13 => absurd (by decide) c13)
        refine xG gb211.2.1 ?_
        refine s0 ?_
        refine s80 ?_
        exact rqI_of hE
    · replace hE := hE.2 c5
      refine s67 (inRd rfl) (fun _ => ?_) (fun c14 => absurd (by decide) c14)
      refine xG gb212.2.1 ?_
      refine s0 ?_
      refine s79 ?_
      refine xG gb212.2.2 ?_
      refine s84 (by decide) ?_
      refine rqI_of ?_
      refine s67 (inRd rfl) (fun _ => ?_) (fun c15 => absurd (by decide) c15)
      refine xG gb211.2.1 ?_
      refine s0 ?_
      refine s80 ?_
      exact rqI_of hE
  · replace hE := hE.2 c2
    refine s67 (inRd rfl) (fun _ => ?_) (fun c16 => absurd (by decide) c16)
    refine xG gb212.2.1 ?_
    refine s0 ?_
    refine s79 ?_
    refine xG gb212.2.2 ?_
    refine s84 (by decide) ?_
    refine rqI_of ?_
    refine s67 (inRd rfl) (fun _ => ?_) (fun c17 => absurd (by decide) c17)
    refine xG gb211.2.1 ?_
    refine s0 ?_
    refine s80 ?_
    exact rqI_of hE
noncomputable def o211 (A : aS) (x1 : Int) (x2 : Int) (x3 : Int) : Int × aS := (if 0 ≤ x1 ∧ x1 ≤ 60 then (if 0 ≤ x2 ∧ x2 ≤ 60 then (if 0 ≤ x3 ∧ x3 ≤ 9999 then (if A 91 2 = 6 then ((-1), A) else ((A 91 2 + 1 - 1), (u2 (u2 (u2 (u2 A 98 (A 91 2).toNat (x1)) 99 (A 91 2).toNat (x2)) 100 (A 91 2).toNat (x3)) 91 2 ((A 91 2 + 1))))) else ((-1), A)) else ((-1), A)) else ((-1), A))
theorem k211 {d L : Nat} {I : mI} {R : Nat → Nat → Option Nat} {S : List (Nat × Nat)} {A : aS} {K : Int32 → mM → Prop} {x1 : Int} {x2 : Int} {x3 : Int} (hR : RM I A) (hWfA : WfA A) (rx1 : inR x1) (rx2 : inR x2) (rx3 : inR x3) (hK : ∀ I1, FM I I1 → RM I1 (o211 A x1 x2 x3).2 → K (oI (o211 A x1 x2 x3).1) (bd L I1 R S)) : CallI (d + 2) 211 [.ref 91, .int (oI x1), .int (oI x2), .int (oI x3)] (bd L I R S) K := by
  have ho : o211 A x1 x2 x3 = (if 0 ≤ x1 ∧ x1 ≤ 60 then (if 0 ≤ x2 ∧ x2 ≤ 60 then (if 0 ≤ x3 ∧ x3 ≤ 9999 then (if A 91 2 = 6 then ((-1), A) else ((A 91 2 + 1 - 1), (u2 (u2 (u2 (u2 A 98 (A 91 2).toNat (x1)) 99 (A 91 2).toNat (x2)) 100 (A 91 2).toNat (x3)) 91 2 ((A 91 2 + 1))))) else ((-1), A)) else ((-1), A)) else ((-1), A)) := rfl
  have w0 := hWfA.1
  have w1 := hWfA.2.1
  have w2 := hWfA.2.2.1
  have w3 : 0 ≤ A 91 3 ∧ A 91 3 ≤ 850 := hWfA.2.2.2.1
  have wN := hWfA.2.2.2.1
  have ty := today_year hWfA
  refine e211 (d := d) hR ?_
  refine ⟨by first | assumption | exact inRd rfl | omega | exact ⟨by omega, by omega⟩, ?_⟩
  refine ⟨fun c7 => ?_, fun c7 => ?_⟩
  · rw [if_pos c7] at ho
    refine ⟨by first | assumption | exact inRd rfl | omega | exact ⟨by omega, by omega⟩, ?_⟩
    refine ⟨fun c8 => ?_, fun c8 => ?_⟩
    · rw [if_pos c8] at ho
      refine ⟨by first | assumption | exact inRd rfl | omega | exact ⟨by omega, by omega⟩, ?_⟩
      refine ⟨fun c9 => ?_, fun c9 => ?_⟩
      · rw [if_pos c9] at ho
        refine ⟨fun c10 => ?_, fun c10 => ?_⟩
        · rw [if_pos c10] at ho
          rw [ho] at hK
          exact hK _ (FM.refl _) (hR)
        · rw [if_neg c10] at ho
          refine ⟨by first | assumption | exact inRd rfl | omega | exact ⟨by omega, by omega⟩, ?_⟩
          rw [ho] at hK
          exact hK _ (FM.wr (FM.wr (FM.wr (FM.wr (FM.refl _) (by decide)) (by decide)) (by decide)) (by decide)) (RM.set (RM.set (RM.set (RM.set (hR) 98 (A 91 2).toNat (by first | assumption | exact inRd rfl | omega | exact ⟨by omega, by omega⟩) rfl) 99 (A 91 2).toNat (by first | assumption | exact inRd rfl | omega | exact ⟨by omega, by omega⟩) rfl) 100 (A 91 2).toNat (by first | assumption | exact inRd rfl | omega | exact ⟨by omega, by omega⟩) rfl) 91 2 (by first | assumption | exact inRd rfl | omega | exact ⟨by omega, by omega⟩) rfl)
      · rw [if_neg c9] at ho
        rw [ho] at hK
        exact hK _ (FM.refl _) (hR)
    · rw [if_neg c8] at ho
      rw [ho] at hK
      exact hK _ (FM.refl _) (hR)
  · rw [if_neg c7] at ho
    rw [ho] at hK
    exact hK _ (FM.refl _) (hR)
set_option maxRecDepth 4000 in
theorem e213 {d L : Nat} {I : Nat → Nat → Int32} {R : Nat → Nat → Option Nat} {S : List (Nat × Nat)} {K : Int32 → mM → Prop} {A : aS} (hR : RM I A) {x1 : Int} {x2 : Int} {x3 : Int} (hE : inR x1 ∧ (((0 ≤ x1 ∧ x1 ≤ 9) → inR x2 ∧ (((0 ≤ x2 ∧ x2 ≤ 60) → inR x3 ∧ (((0 ≤ x3 ∧ x3 ≤ 60) → (0 ≤ x1 ∧ x1 < 10) ∧ (K (oI 1) (bd L (u2 (u2 I 101 x1.toNat (oI x2)) 102 x1.toNat (oI x3)) R S))) ∧ (¬ (0 ≤ x3 ∧ x3 ≤ 60) → K (oI 0) (bd L I R S)))) ∧ (¬ (0 ≤ x2 ∧ x2 ≤ 60) → K (oI 0) (bd L I R S)))) ∧ (¬ (0 ≤ x1 ∧ x1 ≤ 9) → K (oI 0) (bd L I R S)))) : CallI (d + 2) 213 [.ref 91, .int (oI x1), .int (oI x2), .int (oI x3)] (bd L I R S) K := by
  refine cI_of (ls := [.ref 91, .int (oI x1), .int (oI x2), .int (oI x3)]) rfl ?_
  refine xG gb213.1 ?_
  refine s4 (x := x1) rfl ?_
  refine s0 ?_
  refine s0 ?_
  obtain ⟨g1, hE⟩ := hE
  refine sI rc210 rfl (Nat.le_of_ble_eq_true rfl) ?_
  refine k210 g1 (inRd rfl) (inRd rfl) (fun c2 => ?_) (fun c2 => ?_)
  · replace hE := hE.1 c2
    refine s67 (inRd rfl) (fun c3 => absurd c3 (by decide)) (fun _ => ?_)
    refine s4 (x := x2) rfl ?_
    refine s4 (x := x3) rfl ?_
    refine sI rc212 rfl (Nat.le_of_ble_eq_true rfl) ?_
    refine cI_of (ls := [.int (oI x2), .int (oI x3)]) rfl ?_
    refine xG gb212.1 ?_
    refine s4 (x := x2) rfl ?_
    refine s0 ?_
    refine s0 ?_
    obtain ⟨g4, hE⟩ := hE
    refine sI rc210 rfl (Nat.le_of_ble_eq_true rfl) ?_
    refine k210 g4 (inRd rfl) (inRd rfl) (fun c5 => ?_) (fun c5 => ?_)
    · replace hE := hE.1 c5
      refine s67 (inRd rfl) (fun c6 => absurd c6 (by decide)) (fun _ => ?_)
      refine s4 (x := x3) rfl ?_
      refine s0 ?_
      refine s0 ?_
      obtain ⟨g7, hE⟩ := hE
      refine sI rc210 rfl (Nat.le_of_ble_eq_true rfl) ?_
      refine k210 g7 (inRd rfl) (inRd rfl) (fun c8 => ?_) (fun c8 => ?_)
      · replace hE := hE.1 c8
        refine s67 (inRd rfl) (fun c9 => absurd c9 (by decide)) (fun _ => ?_)
        refine s0 ?_
        refine s60 ?_
        refine xG gb212.2.2 ?_
        refine s84 (by decide) ?_
        refine rqI_of ?_
        refine s68 (inRd rfl) (fun c10 => absurd c10 (by decide)) (fun _ => ?_)
        refine xG gb213.2.2 ?_
        refine s6 (p := 91) rfl ?_
        refine s51 sh91 (by decide) (by decide) rf91_14 ?_
        refine s4 (x := x1) rfl ?_
        refine s4 (x := x2) rfl ?_
        obtain ⟨g11, hE⟩ := hE
        refine s44 sh101 (by decide) g11 rfl ?_
        refine s6 (p := 91) rfl ?_
        refine s51 sh91 (by decide) (by decide) rf91_15 ?_
        refine s4 (x := x1) rfl ?_
        refine s4 (x := x3) rfl ?_
        refine s44 sh102 (by decide) g11 rfl ?_
        refine s0 ?_
        refine s84 (by decide) ?_
        exact rqI_of hE
      · replace hE := hE.2 c8
        refine s67 (inRd rfl) (fun _ => ?_) (fun c12 => absurd (by decide) c12)
        refine xG gb212.2.1 ?_
        refine s0 ?_
        refine s79 ?_
        refine xG gb212.2.2 ?_
        refine s84 (by decide) ?_
        refine rqI_of ?_
        refine s68 (inRd rfl) (fun _ => ?_) (fun c13 => absurd (by decide) c13)
        refine s79 ?_
        refine xG gb213.2.1 ?_
        refine s0 ?_
        refine s84 (by decide) ?_
        exact rqI_of hE
    · replace hE := hE.2 c5
      refine s67 (inRd rfl) (fun _ => ?_) (fun c14 => absurd (by decide) c14)
      refine xG gb212.2.1 ?_
      refine s0 ?_
      refine s79 ?_
      refine xG gb212.2.2 ?_
      refine s84 (by decide) ?_
      refine rqI_of ?_
      refine s68 (inRd rfl) (fun _ => ?_) (fun c15 => absurd (by decide) c15)
      refine s79 ?_
      refine xG gb213.2.1 ?_
      refine s0 ?_
      refine s84 (by decide) ?_
      exact rqI_of hE
  · replace hE := hE.2 c2
    refine s67 (inRd rfl) (fun _ => ?_) (fun c16 => absurd (by decide) c16)
    refine xG gb213.2.1 ?_
    refine s0 ?_
    refine s84 (by decide) ?_
    exact rqI_of hE
noncomputable def o213 (A : aS) (x1 : Int) (x2 : Int) (x3 : Int) : Int × aS := (if 0 ≤ x1 ∧ x1 ≤ 9 then (if 0 ≤ x2 ∧ x2 ≤ 60 then (if 0 ≤ x3 ∧ x3 ≤ 60 then (1, (u2 (u2 A 101 x1.toNat (x2)) 102 x1.toNat (x3))) else (0, A)) else (0, A)) else (0, A))
theorem k213 {d L : Nat} {I : mI} {R : Nat → Nat → Option Nat} {S : List (Nat × Nat)} {A : aS} {K : Int32 → mM → Prop} {x1 : Int} {x2 : Int} {x3 : Int} (hR : RM I A) (rx1 : inR x1) (rx2 : inR x2) (rx3 : inR x3) (hK : ∀ I1, FM I I1 → RM I1 (o213 A x1 x2 x3).2 → K (oI (o213 A x1 x2 x3).1) (bd L I1 R S)) : CallI (d + 2) 213 [.ref 91, .int (oI x1), .int (oI x2), .int (oI x3)] (bd L I R S) K := by
  have ho : o213 A x1 x2 x3 = (if 0 ≤ x1 ∧ x1 ≤ 9 then (if 0 ≤ x2 ∧ x2 ≤ 60 then (if 0 ≤ x3 ∧ x3 ≤ 60 then (1, (u2 (u2 A 101 x1.toNat (x2)) 102 x1.toNat (x3))) else (0, A)) else (0, A)) else (0, A)) := rfl
  refine e213 (d := d) hR ?_
  refine ⟨by first | assumption | exact inRd rfl | omega | exact ⟨by omega, by omega⟩, ?_⟩
  refine ⟨fun c11 => ?_, fun c11 => ?_⟩
  · rw [if_pos c11] at ho
    refine ⟨by first | assumption | exact inRd rfl | omega | exact ⟨by omega, by omega⟩, ?_⟩
    refine ⟨fun c12 => ?_, fun c12 => ?_⟩
    · rw [if_pos c12] at ho
      refine ⟨by first | assumption | exact inRd rfl | omega | exact ⟨by omega, by omega⟩, ?_⟩
      refine ⟨fun c13 => ?_, fun c13 => ?_⟩
      · rw [if_pos c13] at ho
        refine ⟨by first | assumption | exact inRd rfl | omega | exact ⟨by omega, by omega⟩, ?_⟩
        rw [ho] at hK
        exact hK _ (FM.wr (FM.wr (FM.refl _) (by decide)) (by decide)) (RM.set (RM.set (hR) 101 x1.toNat (by first | assumption | exact inRd rfl | omega | exact ⟨by omega, by omega⟩) rfl) 102 x1.toNat (by first | assumption | exact inRd rfl | omega | exact ⟨by omega, by omega⟩) rfl)
      · rw [if_neg c13] at ho
        rw [ho] at hK
        exact hK _ (FM.refl _) (hR)
    · rw [if_neg c12] at ho
      rw [ho] at hK
      exact hK _ (FM.refl _) (hR)
  · rw [if_neg c11] at ho
    rw [ho] at hK
    exact hK _ (FM.refl _) (hR)
set_option maxRecDepth 4000 in
theorem e214 {d L : Nat} {I : Nat → Nat → Int32} {R : Nat → Nat → Option Nat} {S : List (Nat × Nat)} {K : Int32 → mM → Prop} {A : aS} (hR : RM I A) {x1 : Int} {x2 : Int} (hE : inR x1 ∧ (inR (A 91 1 - 1) ∧ (((0 ≤ x1 ∧ x1 ≤ A 91 1 - 1) → inR x2 ∧ (((0 ≤ x2 ∧ x2 ≤ 9) → (0 ≤ x1 ∧ x1 < 40) ∧ (K (oI 1) (bd L (u2 I 93 x1.toNat (oI x2)) R S))) ∧ (¬ (0 ≤ x2 ∧ x2 ≤ 9) → K (oI 0) (bd L I R S)))) ∧ (¬ (0 ≤ x1 ∧ x1 ≤ A 91 1 - 1) → K (oI 0) (bd L I R S))))) : CallI (d + 2) 214 [.ref 91, .int (oI x1), .int (oI x2)] (bd L I R S) K := by
  refine cI_of (ls := [.ref 91, .int (oI x1), .int (oI x2)]) rfl ?_
  refine xG gb214.1 ?_
  refine s6 (p := 91) rfl ?_
  refine s4 (x := x1) rfl ?_
  refine sI rc215 rfl (Nat.le_of_ble_eq_true rfl) ?_
  refine cI_of (ls := [.ref 91, .int (oI x1)]) rfl ?_
  refine xG gb215 ?_
  refine s4 (x := x1) rfl ?_
  refine s0 ?_
  refine s6 (p := 91) rfl ?_
  refine s50 (v := A 91 1) sh91 (by decide) (by decide) (rdM hR.1 rfl) ?_
  refine s0 ?_
  refine s17 ?_
  obtain ⟨g1, hE⟩ := hE
  obtain ⟨g2, hE⟩ := hE
  refine sI rc210 rfl (Nat.le_of_ble_eq_true rfl) ?_
  refine k210 g1 (inRd rfl) g2 (fun c3 => ?_) (fun c3 => ?_)
  · replace hE := hE.1 c3
    refine s84 (by decide) ?_
    refine rqI_of ?_
    refine s67 (inRd rfl) (fun c4 => absurd c4 (by decide)) (fun _ => ?_)
    refine s4 (x := x2) rfl ?_
    refine s0 ?_
    refine s0 ?_
    obtain ⟨g5, hE⟩ := hE
    refine sI rc210 rfl (Nat.le_of_ble_eq_true rfl) ?_
    refine k210 g5 (inRd rfl) (inRd rfl) (fun c6 => ?_) (fun c6 => ?_)
    · replace hE := hE.1 c6
      refine s68 (inRd rfl) (fun c7 => absurd c7 (by decide)) (fun _ => ?_)
      refine xG gb214.2.2 ?_
      refine s6 (p := 91) rfl ?_
      refine s51 sh91 (by decide) (by decide) rf91_6 ?_
      refine s4 (x := x1) rfl ?_
      refine s4 (x := x2) rfl ?_
      obtain ⟨g8, hE⟩ := hE
      refine s44 sh93 (by decide) g8 rfl ?_
      refine s0 ?_
      refine s84 (by decide) ?_
      exact rqI_of hE
    · replace hE := hE.2 c6
      refine s68 (inRd rfl) (fun _ => ?_) (fun c9 => absurd (by decide) c9)
      refine s79 ?_
      refine xG gb214.2.1 ?_
      refine s0 ?_
      refine s84 (by decide) ?_
      exact rqI_of hE
  · replace hE := hE.2 c3
    refine s84 (by decide) ?_
    refine rqI_of ?_
    refine s67 (inRd rfl) (fun _ => ?_) (fun c10 => absurd (by decide) c10)
    refine xG gb214.2.1 ?_
    refine s0 ?_
    refine s84 (by decide) ?_
    exact rqI_of hE
noncomputable def o214 (A : aS) (x1 : Int) (x2 : Int) : Int × aS := (if 0 ≤ x1 ∧ x1 ≤ A 91 1 - 1 then (if 0 ≤ x2 ∧ x2 ≤ 9 then (1, (u2 A 93 x1.toNat (x2))) else (0, A)) else (0, A))
theorem k214 {d L : Nat} {I : mI} {R : Nat → Nat → Option Nat} {S : List (Nat × Nat)} {A : aS} {K : Int32 → mM → Prop} {x1 : Int} {x2 : Int} (hR : RM I A) (hWfA : WfA A) (rx1 : inR x1) (rx2 : inR x2) (hK : ∀ I1, FM I I1 → RM I1 (o214 A x1 x2).2 → K (oI (o214 A x1 x2).1) (bd L I1 R S)) : CallI (d + 2) 214 [.ref 91, .int (oI x1), .int (oI x2)] (bd L I R S) K := by
  have ho : o214 A x1 x2 = (if 0 ≤ x1 ∧ x1 ≤ A 91 1 - 1 then (if 0 ≤ x2 ∧ x2 ≤ 9 then (1, (u2 A 93 x1.toNat (x2))) else (0, A)) else (0, A)) := rfl
  have w0 := hWfA.1
  have w1 := hWfA.2.1
  have w2 := hWfA.2.2.1
  have w3 : 0 ≤ A 91 3 ∧ A 91 3 ≤ 850 := hWfA.2.2.2.1
  have wN := hWfA.2.2.2.1
  have ty := today_year hWfA
  refine e214 (d := d) hR ?_
  refine ⟨by first | assumption | exact inRd rfl | omega | exact ⟨by omega, by omega⟩, ?_⟩
  refine ⟨by first | assumption | exact inRd rfl | omega | exact ⟨by omega, by omega⟩, ?_⟩
  refine ⟨fun c14 => ?_, fun c14 => ?_⟩
  · rw [if_pos c14] at ho
    refine ⟨by first | assumption | exact inRd rfl | omega | exact ⟨by omega, by omega⟩, ?_⟩
    refine ⟨fun c15 => ?_, fun c15 => ?_⟩
    · rw [if_pos c15] at ho
      refine ⟨by first | assumption | exact inRd rfl | omega | exact ⟨by omega, by omega⟩, ?_⟩
      rw [ho] at hK
      exact hK _ (FM.wr (FM.refl _) (by decide)) (RM.set (hR) 93 x1.toNat (by first | assumption | exact inRd rfl | omega | exact ⟨by omega, by omega⟩) rfl)
    · rw [if_neg c15] at ho
      rw [ho] at hK
      exact hK _ (FM.refl _) (hR)
  · rw [if_neg c14] at ho
    rw [ho] at hK
    exact hK _ (FM.refl _) (hR)
set_option maxRecDepth 4000 in
theorem e229 {d L : Nat} {I : Nat → Nat → Int32} {R : Nat → Nat → Option Nat} {S : List (Nat × Nat)} {K : Int32 → mM → Prop} {A : aS} (hR : RM I A) {x1 : Int} {x2 : Int} {x3 : Int} (hE : inR x1 ∧ (inR (A 91 2 - 1) ∧ (((0 ≤ x1 ∧ x1 ≤ A 91 2 - 1) → inR x2 ∧ (((0 ≤ x2 ∧ x2 ≤ 799) → inR x3 ∧ (((0 ≤ x3 ∧ x3 ≤ 799) → ((x3 < x2) → K (oI (-1)) (bd L I R S)) ∧ (¬ (x3 < x2) → ((A 110 1 = 30) → K (oI (-1)) (bd L I R S)) ∧ (¬ (A 110 1 = 30) → (0 ≤ A 91 3 ∧ A 91 3 < 850) ∧ (K (oI (A 91 3 + 1 - 1)) (bd L (u2 (u2 (u2 (u2 (u2 (u2 (u2 (u2 (u2 I 103 (A 91 3).toNat (oI 1)) 104 (A 91 3).toNat (oI x1)) 105 (A 91 3).toNat (oI x2)) 106 (A 91 3).toNat (oI x3)) 107 (A 91 3).toNat (oI 0)) 108 (A 91 3).toNat (oI (A 91 0))) 109 (A 91 3).toNat (oI 5000)) 110 1 (oI (A 110 1 + 1))) 91 3 (oI (A 91 3 + 1))) R S))))) ∧ (¬ (0 ≤ x3 ∧ x3 ≤ 799) → K (oI (-1)) (bd L I R S)))) ∧ (¬ (0 ≤ x2 ∧ x2 ≤ 799) → K (oI (-1)) (bd L I R S)))) ∧ (¬ (0 ≤ x1 ∧ x1 ≤ A 91 2 - 1) → K (oI (-1)) (bd L I R S))))) : CallI (d + 2) 229 [.ref 91, .int (oI x1), .int (oI x2), .int (oI x3)] (bd L I R S) K := by
  refine cI_of (ls := [.ref 91, .int (oI x1), .int (oI x2), .int (oI x3)]) rfl ?_
  refine xG gb229.1 ?_
  refine s6 (p := 91) rfl ?_
  refine s4 (x := x1) rfl ?_
  refine sI rc217 rfl (Nat.le_of_ble_eq_true rfl) ?_
  refine cI_of (ls := [.ref 91, .int (oI x1)]) rfl ?_
  refine xG gb217 ?_
  refine s4 (x := x1) rfl ?_
  refine s0 ?_
  refine s6 (p := 91) rfl ?_
  refine s50 (v := A 91 2) sh91 (by decide) (by decide) (rdM hR.1 rfl) ?_
  refine s0 ?_
  refine s17 ?_
  obtain ⟨g1, hE⟩ := hE
  obtain ⟨g2, hE⟩ := hE
  refine sI rc210 rfl (Nat.le_of_ble_eq_true rfl) ?_
  refine k210 g1 (inRd rfl) g2 (fun c3 => ?_) (fun c3 => ?_)
  · replace hE := hE.1 c3
    refine s84 (by decide) ?_
    refine rqI_of ?_
    refine s67 (inRd rfl) (fun c4 => absurd c4 (by decide)) (fun _ => ?_)
    refine s4 (x := x2) rfl ?_
    refine sI rc230 rfl (Nat.le_of_ble_eq_true rfl) ?_
    refine cI_of (ls := [.int (oI x2)]) rfl ?_
    refine xG gb230 ?_
    refine s4 (x := x2) rfl ?_
    refine s0 ?_
    refine s0 ?_
    obtain ⟨g5, hE⟩ := hE
    refine sI rc210 rfl (Nat.le_of_ble_eq_true rfl) ?_
    refine k210 g5 (inRd rfl) (inRd rfl) (fun c6 => ?_) (fun c6 => ?_)
    · replace hE := hE.1 c6
      refine s84 (by decide) ?_
      refine rqI_of ?_
      refine s67 (inRd rfl) (fun c7 => absurd c7 (by decide)) (fun _ => ?_)
      refine s4 (x := x3) rfl ?_
      refine sI rc230 rfl (Nat.le_of_ble_eq_true rfl) ?_
      refine cI_of (ls := [.int (oI x3)]) rfl ?_
      refine xG gb230 ?_
      refine s4 (x := x3) rfl ?_
      refine s0 ?_
      refine s0 ?_
      obtain ⟨g8, hE⟩ := hE
      refine sI rc210 rfl (Nat.le_of_ble_eq_true rfl) ?_
      refine k210 g8 (inRd rfl) (inRd rfl) (fun c9 => ?_) (fun c9 => ?_)
      · replace hE := hE.1 c9
        refine s84 (by decide) ?_
        refine rqI_of ?_
        refine s67 (inRd rfl) (fun c10 => absurd c10 (by decide)) (fun _ => ?_)
        refine s4 (x := x2) rfl ?_
        refine s4 (x := x3) rfl ?_
        refine s65 g5 g8 (fun c11 => ?_) (fun c11 => ?_)
        · replace hE := hE.1 c11
          refine xG gb229.2.1 ?_
          refine s0 ?_
          refine s60 ?_
          refine xG gb229.2.2.2 ?_
          refine s80 ?_
          exact rqI_of hE
        · replace hE := hE.2 c11
          refine s6 (p := 91) rfl ?_
          refine s51 sh91 (by decide) (by decide) rf91_23 ?_
          refine s0 ?_
          refine s40 (v := A 110 1) sh110 (⟨by decide, by decide⟩ : (0 : Int) ≤ 1 ∧ (1 : Int) < 7) rfl (rdM hR.1 rfl) ?_
          refine s0 ?_
          refine s62 (inA hR.1 (a := 110) (k := 1) rfl) (inRd rfl) (fun c12 => ?_) (fun c12 => ?_)
          · replace hE := hE.1 c12
            refine s79 ?_
            refine xG gb229.2.1 ?_
            refine s0 ?_
            refine s60 ?_
            refine xG gb229.2.2.2 ?_
            refine s80 ?_
            exact rqI_of hE
          · replace hE := hE.2 c12
            refine xG gb229.2.2.1 ?_
            refine s6 (p := 91) rfl ?_
            refine s0 ?_
            refine s4 (x := x1) rfl ?_
            refine s4 (x := x2) rfl ?_
            refine s4 (x := x3) rfl ?_
            refine s0 ?_
            refine sI rc228 rfl (Nat.le_of_ble_eq_true rfl) ?_
            refine cI_of (ls := [.ref 91, .int (oI 1), .int (oI x1), .int (oI x2), .int (oI x3), .int (oI 0)]) rfl ?_
            refine xG gb228 ?_
            refine s6 (p := 91) rfl ?_
            refine s51 sh91 (by decide) (by decide) rf91_16 ?_
            refine s6 (p := 91) rfl ?_
            refine s50 (v := A 91 3) sh91 (by decide) (by decide) (rdM hR.1 rfl) ?_
            refine s4 (x := 1) rfl ?_
            obtain ⟨g13, hE⟩ := hE
            refine s44 sh103 (by decide) g13 rfl ?_
            refine s6 (p := 91) rfl ?_
            refine s51 sh91 (by decide) (by decide) rf91_17 ?_
            refine s6 (p := 91) rfl ?_
            refine s50 (v := A 91 3) sh91 (by decide) (by decide) ((v2_ne (by decide)).trans (rdM hR.1 rfl)) ?_
            refine s4 (x := x1) rfl ?_
            refine s44 sh104 (by decide) g13 rfl ?_
            refine s6 (p := 91) rfl ?_
            refine s51 sh91 (by decide) (by decide) rf91_18 ?_
            refine s6 (p := 91) rfl ?_
            refine s50 (v := A 91 3) sh91 (by decide) (by decide) ((v2_ne (by decide)).trans ((v2_ne (by decide)).trans (rdM hR.1 rfl))) ?_
            refine s4 (x := x2) rfl ?_
            refine s44 sh105 (by decide) g13 rfl ?_
            refine s6 (p := 91) rfl ?_
            refine s51 sh91 (by decide) (by decide) rf91_19 ?_
            refine s6 (p := 91) rfl ?_
            refine s50 (v := A 91 3) sh91 (by decide) (by decide) ((v2_ne (by decide)).trans ((v2_ne (by decide)).trans ((v2_ne (by decide)).trans (rdM hR.1 rfl)))) ?_
            refine s4 (x := x3) rfl ?_
            refine s44 sh106 (by decide) g13 rfl ?_
            refine s6 (p := 91) rfl ?_
            refine s51 sh91 (by decide) (by decide) rf91_20 ?_
            refine s6 (p := 91) rfl ?_
            refine s50 (v := A 91 3) sh91 (by decide) (by decide) ((v2_ne (by decide)).trans ((v2_ne (by decide)).trans ((v2_ne (by decide)).trans ((v2_ne (by decide)).trans (rdM hR.1 rfl))))) ?_
            refine s4 (x := 0) rfl ?_
            refine s44 sh107 (by decide) g13 rfl ?_
            refine s6 (p := 91) rfl ?_
            refine s51 sh91 (by decide) (by decide) rf91_21 ?_
            refine s6 (p := 91) rfl ?_
            refine s50 (v := A 91 3) sh91 (by decide) (by decide) ((v2_ne (by decide)).trans ((v2_ne (by decide)).trans ((v2_ne (by decide)).trans ((v2_ne (by decide)).trans ((v2_ne (by decide)).trans (rdM hR.1 rfl)))))) ?_
            refine s6 (p := 91) rfl ?_
            refine s50 (v := A 91 0) sh91 (by decide) (by decide) ((v2_ne (by decide)).trans ((v2_ne (by decide)).trans ((v2_ne (by decide)).trans ((v2_ne (by decide)).trans ((v2_ne (by decide)).trans (rdM hR.1 rfl)))))) ?_
            refine s44 sh108 (by decide) g13 rfl ?_
            refine s6 (p := 91) rfl ?_
            refine s51 sh91 (by decide) (by decide) rf91_22 ?_
            refine s6 (p := 91) rfl ?_
            refine s50 (v := A 91 3) sh91 (by decide) (by decide) ((v2_ne (by decide)).trans ((v2_ne (by decide)).trans ((v2_ne (by decide)).trans ((v2_ne (by decide)).trans ((v2_ne (by decide)).trans ((v2_ne (by decide)).trans (rdM hR.1 rfl))))))) ?_
            refine s0 ?_
            refine s44 sh109 (by decide) g13 rfl ?_
            refine s6 (p := 91) rfl ?_
            refine s51 sh91 (by decide) (by decide) rf91_23 ?_
            refine s4 (x := 1) rfl ?_
            refine s14 ?_
            refine s40 (v := A 110 1) sh110 (⟨by decide, by decide⟩ : (0 : Int) ≤ 1 ∧ (1 : Int) < 7) rfl ((v2_ne (by decide)).trans ((v2_ne (by decide)).trans ((v2_ne (by decide)).trans ((v2_ne (by decide)).trans ((v2_ne (by decide)).trans ((v2_ne (by decide)).trans ((v2_ne (by decide)).trans (rdM hR.1 rfl)))))))) ?_
            refine s0 ?_
            refine s16 ?_
            refine s44 sh110 (by decide) (⟨by decide, by decide⟩ : (0 : Int) ≤ 1 ∧ (1 : Int) < 7) rfl ?_
            refine s6 (p := 91) rfl ?_
            refine s13r ?_
            refine s50 (v := A 91 3) sh91 (by decide) (by decide) ((v2_ne (by decide)).trans ((v2_ne (by decide)).trans ((v2_ne (by decide)).trans ((v2_ne (by decide)).trans ((v2_ne (by decide)).trans ((v2_ne (by decide)).trans ((v2_ne (by decide)).trans ((v2_ne (by decide)).trans (rdM hR.1 rfl))))))))) ?_
            refine s0 ?_
            refine s16 ?_
            refine s52 sh91 (by decide) (by decide) ?_
            refine s6 (p := 91) rfl ?_
            refine s50 (v := A 91 3 + 1) sh91 (by decide) (by decide) (v2_eq) ?_
            refine s0 ?_
            refine s17 ?_
            refine s80 ?_
            refine rqI_of ?_
            refine s79 ?_
            refine xG gb229.2.2.2 ?_
            refine s80 ?_
            exact rqI_of hE
      · replace hE := hE.2 c9
        refine s84 (by decide) ?_
        refine rqI_of ?_
        refine s67 (inRd rfl) (fun _ => ?_) (fun c14 => absurd (by decide) c14)
        refine xG gb229.2.1 ?_
        refine s0 ?_
        refine s60 ?_
        refine xG gb229.2.2.2 ?_
        refine s80 ?_
        exact rqI_of hE
    · replace hE := hE.2 c6
      refine s84 (by decide) ?_
      refine rqI_of ?_
      refine s67 (inRd rfl) (fun _ => ?_) (fun c15 => absurd (by decide) c15)
      refine xG gb229.2.1 ?_
      refine s0 ?_
      refine s60 ?_
      refine xG gb229.2.2.2 ?_
      refine s80 ?_
      exact rqI_of hE
  · replace hE := hE.2 c3
    refine s84 (by decide) ?_
    refine rqI_of ?_
    refine s67 (inRd rfl) (fun _ => ?_) (fun c16 => absurd (by decide) c16)
    refine xG gb229.2.1 ?_
    refine s0 ?_
    refine s60 ?_
    refine xG gb229.2.2.2 ?_
    refine s80 ?_
    exact rqI_of hE
noncomputable def o229 (A : aS) (x1 : Int) (x2 : Int) (x3 : Int) : Int × aS := (if 0 ≤ x1 ∧ x1 ≤ A 91 2 - 1 then (if 0 ≤ x2 ∧ x2 ≤ 799 then (if 0 ≤ x3 ∧ x3 ≤ 799 then (if x3 < x2 then ((-1), A) else (if A 110 1 = 30 then ((-1), A) else ((A 91 3 + 1 - 1), (u2 (u2 (u2 (u2 (u2 (u2 (u2 (u2 (u2 A 103 (A 91 3).toNat (1)) 104 (A 91 3).toNat (x1)) 105 (A 91 3).toNat (x2)) 106 (A 91 3).toNat (x3)) 107 (A 91 3).toNat (0)) 108 (A 91 3).toNat ((A 91 0))) 109 (A 91 3).toNat (5000)) 110 1 ((A 110 1 + 1))) 91 3 ((A 91 3 + 1)))))) else ((-1), A)) else ((-1), A)) else ((-1), A))
theorem k229 {d L : Nat} {I : mI} {R : Nat → Nat → Option Nat} {S : List (Nat × Nat)} {A : aS} {K : Int32 → mM → Prop} {x1 : Int} {x2 : Int} {x3 : Int} (hR : RM I A) (hWfA : WfA A) (hWfB : WfB A) (rx1 : inR x1) (rx2 : inR x2) (rx3 : inR x3) (hK : ∀ I1, FM I I1 → RM I1 (o229 A x1 x2 x3).2 → K (oI (o229 A x1 x2 x3).1) (bd L I1 R S)) : CallI (d + 2) 229 [.ref 91, .int (oI x1), .int (oI x2), .int (oI x3)] (bd L I R S) K := by
  have ho : o229 A x1 x2 x3 = (if 0 ≤ x1 ∧ x1 ≤ A 91 2 - 1 then (if 0 ≤ x2 ∧ x2 ≤ 799 then (if 0 ≤ x3 ∧ x3 ≤ 799 then (if x3 < x2 then ((-1), A) else (if A 110 1 = 30 then ((-1), A) else ((A 91 3 + 1 - 1), (u2 (u2 (u2 (u2 (u2 (u2 (u2 (u2 (u2 A 103 (A 91 3).toNat (1)) 104 (A 91 3).toNat (x1)) 105 (A 91 3).toNat (x2)) 106 (A 91 3).toNat (x3)) 107 (A 91 3).toNat (0)) 108 (A 91 3).toNat ((A 91 0))) 109 (A 91 3).toNat (5000)) 110 1 ((A 110 1 + 1))) 91 3 ((A 91 3 + 1)))))) else ((-1), A)) else ((-1), A)) else ((-1), A)) := rfl
  have w0 := hWfA.1
  have w1 := hWfA.2.1
  have w2 := hWfA.2.2.1
  have w3 : 0 ≤ A 91 3 ∧ A 91 3 ≤ 850 := hWfA.2.2.2.1
  have wN := hWfA.2.2.2.1
  have ty := today_year hWfA
  have wb := hWfB
  unfold WfB at wb
  refine e229 (d := d) hR ?_
  refine ⟨by first | assumption | exact inRd rfl | omega | exact ⟨by omega, by omega⟩, ?_⟩
  refine ⟨by first | assumption | exact inRd rfl | omega | exact ⟨by omega, by omega⟩, ?_⟩
  refine ⟨fun c16 => ?_, fun c16 => ?_⟩
  · rw [if_pos c16] at ho
    refine ⟨by first | assumption | exact inRd rfl | omega | exact ⟨by omega, by omega⟩, ?_⟩
    refine ⟨fun c17 => ?_, fun c17 => ?_⟩
    · rw [if_pos c17] at ho
      refine ⟨by first | assumption | exact inRd rfl | omega | exact ⟨by omega, by omega⟩, ?_⟩
      refine ⟨fun c18 => ?_, fun c18 => ?_⟩
      · rw [if_pos c18] at ho
        refine ⟨fun c19 => ?_, fun c19 => ?_⟩
        · rw [if_pos c19] at ho
          rw [ho] at hK
          exact hK _ (FM.refl _) (hR)
        · rw [if_neg c19] at ho
          refine ⟨fun c20 => ?_, fun c20 => ?_⟩
          · rw [if_pos c20] at ho
            rw [ho] at hK
            exact hK _ (FM.refl _) (hR)
          · rw [if_neg c20] at ho
            refine ⟨by first | assumption | exact inRd rfl | omega | exact ⟨by omega, by omega⟩, ?_⟩
            rw [ho] at hK
            exact hK _ (FM.wr (FM.wr (FM.wr (FM.wr (FM.wr (FM.wr (FM.wr (FM.wr (FM.wr (FM.refl _) (by decide)) (by decide)) (by decide)) (by decide)) (by decide)) (by decide)) (by decide)) (by decide)) (by decide)) (RM.set (RM.set (RM.set (RM.set (RM.set (RM.set (RM.set (RM.set (RM.set (hR) 103 (A 91 3).toNat (by first | assumption | exact inRd rfl | omega | exact ⟨by omega, by omega⟩) rfl) 104 (A 91 3).toNat (by first | assumption | exact inRd rfl | omega | exact ⟨by omega, by omega⟩) rfl) 105 (A 91 3).toNat (by first | assumption | exact inRd rfl | omega | exact ⟨by omega, by omega⟩) rfl) 106 (A 91 3).toNat (by first | assumption | exact inRd rfl | omega | exact ⟨by omega, by omega⟩) rfl) 107 (A 91 3).toNat (by first | assumption | exact inRd rfl | omega | exact ⟨by omega, by omega⟩) rfl) 108 (A 91 3).toNat (by first | assumption | exact inRd rfl | omega | exact ⟨by omega, by omega⟩) rfl) 109 (A 91 3).toNat (by first | assumption | exact inRd rfl | omega | exact ⟨by omega, by omega⟩) rfl) 110 1 (by first | assumption | exact inRd rfl | omega | exact ⟨by omega, by omega⟩) rfl) 91 3 (by first | assumption | exact inRd rfl | omega | exact ⟨by omega, by omega⟩) rfl)
      · rw [if_neg c18] at ho
        rw [ho] at hK
        exact hK _ (FM.refl _) (hR)
    · rw [if_neg c17] at ho
      rw [ho] at hK
      exact hK _ (FM.refl _) (hR)
  · rw [if_neg c16] at ho
    rw [ho] at hK
    exact hK _ (FM.refl _) (hR)
set_option maxRecDepth 4000 in
theorem e231 {d L : Nat} {I : Nat → Nat → Int32} {R : Nat → Nat → Option Nat} {S : List (Nat × Nat)} {K : Int32 → mM → Prop} {A : aS} (hR : RM I A) {x1 : Int} {x2 : Int} {x3 : Int} {x4 : Int} {x5 : Int} {x6 : Int} (hE : inR x1 ∧ (inR (A 91 1 - 1) ∧ (((0 ≤ x1 ∧ x1 ≤ A 91 1 - 1) → inR x2 ∧ (((0 ≤ x2 ∧ x2 ≤ A 91 0) → inR x4 ∧ (((0 ≤ x4 ∧ x4 ≤ A 91 0) → inR x3 ∧ (((0 ≤ x3 ∧ x3 ≤ 1) → inR x5 ∧ (((0 ≤ x5 ∧ x5 ≤ 1) → inR x6 ∧ (((0 ≤ x6 ∧ x6 ≤ 3) → inR ((2 * x2) + x3) ∧ (inR ((2 * x4) + x5) ∧ ((((2 * x4) + x5 < (2 * x2) + x3) → K (oI (-1)) (bd L I R S)) ∧ (¬ ((2 * x4) + x5 < (2 * x2) + x3) → ((A 110 2 = 300) → K (oI (-1)) (bd L I R S)) ∧ (¬ (A 110 2 = 300) → (0 ≤ A 91 3 ∧ A 91 3 < 850) ∧ (K (oI (A 91 3 + 1 - 1)) (bd L (u2 (u2 (u2 (u2 (u2 (u2 (u2 (u2 (u2 I 103 (A 91 3).toNat (oI 2)) 104 (A 91 3).toNat (oI x1)) 105 (A 91 3).toNat (oI ((2 * x2) + x3))) 106 (A 91 3).toNat (oI ((2 * x4) + x5))) 107 (A 91 3).toNat (oI x6)) 108 (A 91 3).toNat (oI (A 91 0))) 109 (A 91 3).toNat (oI 5000)) 110 2 (oI (A 110 2 + 1))) 91 3 (oI (A 91 3 + 1))) R S))))))) ∧ (¬ (0 ≤ x6 ∧ x6 ≤ 3) → K (oI (-1)) (bd L I R S)))) ∧ (¬ (0 ≤ x5 ∧ x5 ≤ 1) → K (oI (-1)) (bd L I R S)))) ∧ (¬ (0 ≤ x3 ∧ x3 ≤ 1) → K (oI (-1)) (bd L I R S)))) ∧ (¬ (0 ≤ x4 ∧ x4 ≤ A 91 0) → K (oI (-1)) (bd L I R S)))) ∧ (¬ (0 ≤ x2 ∧ x2 ≤ A 91 0) → K (oI (-1)) (bd L I R S)))) ∧ (¬ (0 ≤ x1 ∧ x1 ≤ A 91 1 - 1) → K (oI (-1)) (bd L I R S))))) : CallI (d + 2) 231 [.ref 91, .int (oI x1), .int (oI x2), .int (oI x3), .int (oI x4), .int (oI x5), .int (oI x6)] (bd L I R S) K := by
  refine cI_of (ls := [.ref 91, .int (oI x1), .int (oI x2), .int (oI x3), .int (oI x4), .int (oI x5), .int (oI x6)]) rfl ?_
  refine xG gb231.1 ?_
  refine s6 (p := 91) rfl ?_
  refine s4 (x := x1) rfl ?_
  refine sI rc215 rfl (Nat.le_of_ble_eq_true rfl) ?_
  refine cI_of (ls := [.ref 91, .int (oI x1)]) rfl ?_
  refine xG gb215 ?_
  refine s4 (x := x1) rfl ?_
  refine s0 ?_
  refine s6 (p := 91) rfl ?_
  refine s50 (v := A 91 1) sh91 (by decide) (by decide) (rdM hR.1 rfl) ?_
  refine s0 ?_
  refine s17 ?_
  obtain ⟨g1, hE⟩ := hE
  obtain ⟨g2, hE⟩ := hE
  refine sI rc210 rfl (Nat.le_of_ble_eq_true rfl) ?_
  refine k210 g1 (inRd rfl) g2 (fun c3 => ?_) (fun c3 => ?_)
  · replace hE := hE.1 c3
    refine s84 (by decide) ?_
    refine rqI_of ?_
    refine s67 (inRd rfl) (fun c4 => absurd c4 (by decide)) (fun _ => ?_)
    refine s4 (x := x2) rfl ?_
    refine s0 ?_
    refine s6 (p := 91) rfl ?_
    refine s50 (v := A 91 0) sh91 (by decide) (by decide) (rdM hR.1 rfl) ?_
    obtain ⟨g5, hE⟩ := hE
    refine sI rc210 rfl (Nat.le_of_ble_eq_true rfl) ?_
    refine k210 g5 (inRd rfl) (inA hR.1 (a := 91) (k := 0) rfl) (fun c6 => ?_) (fun c6 => ?_)
    · replace hE := hE.1 c6
      refine s67 (inRd rfl) (fun c7 => absurd c7 (by decide)) (fun _ => ?_)
      refine s4 (x := x4) rfl ?_
      refine s0 ?_
      refine s6 (p := 91) rfl ?_
      refine s50 (v := A 91 0) sh91 (by decide) (by decide) (rdM hR.1 rfl) ?_
      obtain ⟨g8, hE⟩ := hE
      refine sI rc210 rfl (Nat.le_of_ble_eq_true rfl) ?_
      refine k210 g8 (inRd rfl) (inA hR.1 (a := 91) (k := 0) rfl) (fun c9 => ?_) (fun c9 => ?_)
      · replace hE := hE.1 c9
        refine s67 (inRd rfl) (fun c10 => absurd c10 (by decide)) (fun _ => ?_)
        refine s4 (x := x3) rfl ?_
        refine s0 ?_
        refine s0 ?_
        obtain ⟨g11, hE⟩ := hE
        refine sI rc210 rfl (Nat.le_of_ble_eq_true rfl) ?_
        refine k210 g11 (inRd rfl) (inRd rfl) (fun c12 => ?_) (fun c12 => ?_)
        · replace hE := hE.1 c12
          refine s67 (inRd rfl) (fun c13 => absurd c13 (by decide)) (fun _ => ?_)
          refine s4 (x := x5) rfl ?_
          refine s0 ?_
          refine s0 ?_
          obtain ⟨g14, hE⟩ := hE
          refine sI rc210 rfl (Nat.le_of_ble_eq_true rfl) ?_
          refine k210 g14 (inRd rfl) (inRd rfl) (fun c15 => ?_) (fun c15 => ?_)
          · replace hE := hE.1 c15
            refine s67 (inRd rfl) (fun c16 => absurd c16 (by decide)) (fun _ => ?_)
            refine s4 (x := x6) rfl ?_
            refine s0 ?_
            refine s0 ?_
            obtain ⟨g17, hE⟩ := hE
            refine sI rc210 rfl (Nat.le_of_ble_eq_true rfl) ?_
            refine k210 g17 (inRd rfl) (inRd rfl) (fun c18 => ?_) (fun c18 => ?_)
            · replace hE := hE.1 c18
              refine s68 (inRd rfl) (fun c19 => absurd c19 (by decide)) (fun _ => ?_)
              refine xG gb231.2.2.1 ?_
              refine s0 ?_
              refine s4 (x := x2) rfl ?_
              refine s18 ?_
              refine s4 (x := x3) rfl ?_
              refine s16 ?_
              refine s0 ?_
              refine s4 (x := x4) rfl ?_
              refine s18 ?_
              refine s4 (x := x5) rfl ?_
              refine s16 ?_
              obtain ⟨g20, hE⟩ := hE
              obtain ⟨g21, hE⟩ := hE
              refine s65 g20 g21 (fun c22 => ?_) (fun c22 => ?_)
              · replace hE := hE.1 c22
                refine xG gb231.2.2.2.1 ?_
                refine s0 ?_
                refine s80 ?_
                exact rqI_of hE
              · replace hE := hE.2 c22
                refine s6 (p := 91) rfl ?_
                refine s51 sh91 (by decide) (by decide) rf91_23 ?_
                refine s0 ?_
                refine s40 (v := A 110 2) sh110 (⟨by decide, by decide⟩ : (0 : Int) ≤ 2 ∧ (2 : Int) < 7) rfl (rdM hR.1 rfl) ?_
                refine s0 ?_
                refine s62 (inA hR.1 (a := 110) (k := 2) rfl) (inRd rfl) (fun c23 => ?_) (fun c23 => ?_)
                · replace hE := hE.1 c23
                  refine s79 ?_
                  refine xG gb231.2.2.2.1 ?_
                  refine s0 ?_
                  refine s80 ?_
                  exact rqI_of hE
                · replace hE := hE.2 c23
                  refine xG gb231.2.2.2.2 ?_
                  refine s6 (p := 91) rfl ?_
                  refine s0 ?_
                  refine s4 (x := x1) rfl ?_
                  refine s0 ?_
                  refine s4 (x := x2) rfl ?_
                  refine s18 ?_
                  refine s4 (x := x3) rfl ?_
                  refine s16 ?_
                  refine s0 ?_
                  refine s4 (x := x4) rfl ?_
                  refine s18 ?_
                  refine s4 (x := x5) rfl ?_
                  refine s16 ?_
                  refine s4 (x := x6) rfl ?_
                  refine sI rc228 rfl (Nat.le_of_ble_eq_true rfl) ?_
                  refine cI_of (ls := [.ref 91, .int (oI 2), .int (oI x1), .int (oI ((2 * x2) + x3)), .int (oI ((2 * x4) + x5)), .int (oI x6)]) rfl ?_
                  refine xG gb228 ?_
                  refine s6 (p := 91) rfl ?_
                  refine s51 sh91 (by decide) (by decide) rf91_16 ?_
                  refine s6 (p := 91) rfl ?_
                  refine s50 (v := A 91 3) sh91 (by decide) (by decide) (rdM hR.1 rfl) ?_
                  refine s4 (x := 2) rfl ?_
                  obtain ⟨g24, hE⟩ := hE
                  refine s44 sh103 (by decide) g24 rfl ?_
                  refine s6 (p := 91) rfl ?_
                  refine s51 sh91 (by decide) (by decide) rf91_17 ?_
                  refine s6 (p := 91) rfl ?_
                  refine s50 (v := A 91 3) sh91 (by decide) (by decide) ((v2_ne (by decide)).trans (rdM hR.1 rfl)) ?_
                  refine s4 (x := x1) rfl ?_
                  refine s44 sh104 (by decide) g24 rfl ?_
                  refine s6 (p := 91) rfl ?_
                  refine s51 sh91 (by decide) (by decide) rf91_18 ?_
                  refine s6 (p := 91) rfl ?_
                  refine s50 (v := A 91 3) sh91 (by decide) (by decide) ((v2_ne (by decide)).trans ((v2_ne (by decide)).trans (rdM hR.1 rfl))) ?_
                  refine s4 (x := (2 * x2) + x3) rfl ?_
                  refine s44 sh105 (by decide) g24 rfl ?_
                  refine s6 (p := 91) rfl ?_
                  refine s51 sh91 (by decide) (by decide) rf91_19 ?_
                  refine s6 (p := 91) rfl ?_
                  refine s50 (v := A 91 3) sh91 (by decide) (by decide) ((v2_ne (by decide)).trans ((v2_ne (by decide)).trans ((v2_ne (by decide)).trans (rdM hR.1 rfl)))) ?_
                  refine s4 (x := (2 * x4) + x5) rfl ?_
                  refine s44 sh106 (by decide) g24 rfl ?_
                  refine s6 (p := 91) rfl ?_
                  refine s51 sh91 (by decide) (by decide) rf91_20 ?_
                  refine s6 (p := 91) rfl ?_
                  refine s50 (v := A 91 3) sh91 (by decide) (by decide) ((v2_ne (by decide)).trans ((v2_ne (by decide)).trans ((v2_ne (by decide)).trans ((v2_ne (by decide)).trans (rdM hR.1 rfl))))) ?_
                  refine s4 (x := x6) rfl ?_
                  refine s44 sh107 (by decide) g24 rfl ?_
                  refine s6 (p := 91) rfl ?_
                  refine s51 sh91 (by decide) (by decide) rf91_21 ?_
                  refine s6 (p := 91) rfl ?_
                  refine s50 (v := A 91 3) sh91 (by decide) (by decide) ((v2_ne (by decide)).trans ((v2_ne (by decide)).trans ((v2_ne (by decide)).trans ((v2_ne (by decide)).trans ((v2_ne (by decide)).trans (rdM hR.1 rfl)))))) ?_
                  refine s6 (p := 91) rfl ?_
                  refine s50 (v := A 91 0) sh91 (by decide) (by decide) ((v2_ne (by decide)).trans ((v2_ne (by decide)).trans ((v2_ne (by decide)).trans ((v2_ne (by decide)).trans ((v2_ne (by decide)).trans (rdM hR.1 rfl)))))) ?_
                  refine s44 sh108 (by decide) g24 rfl ?_
                  refine s6 (p := 91) rfl ?_
                  refine s51 sh91 (by decide) (by decide) rf91_22 ?_
                  refine s6 (p := 91) rfl ?_
                  refine s50 (v := A 91 3) sh91 (by decide) (by decide) ((v2_ne (by decide)).trans ((v2_ne (by decide)).trans ((v2_ne (by decide)).trans ((v2_ne (by decide)).trans ((v2_ne (by decide)).trans ((v2_ne (by decide)).trans (rdM hR.1 rfl))))))) ?_
                  refine s0 ?_
                  refine s44 sh109 (by decide) g24 rfl ?_
                  refine s6 (p := 91) rfl ?_
                  refine s51 sh91 (by decide) (by decide) rf91_23 ?_
                  refine s4 (x := 2) rfl ?_
                  refine s14 ?_
                  refine s40 (v := A 110 2) sh110 (⟨by decide, by decide⟩ : (0 : Int) ≤ 2 ∧ (2 : Int) < 7) rfl ((v2_ne (by decide)).trans ((v2_ne (by decide)).trans ((v2_ne (by decide)).trans ((v2_ne (by decide)).trans ((v2_ne (by decide)).trans ((v2_ne (by decide)).trans ((v2_ne (by decide)).trans (rdM hR.1 rfl)))))))) ?_
                  refine s0 ?_
                  refine s16 ?_
                  refine s44 sh110 (by decide) (⟨by decide, by decide⟩ : (0 : Int) ≤ 2 ∧ (2 : Int) < 7) rfl ?_
                  refine s6 (p := 91) rfl ?_
                  refine s13r ?_
                  refine s50 (v := A 91 3) sh91 (by decide) (by decide) ((v2_ne (by decide)).trans ((v2_ne (by decide)).trans ((v2_ne (by decide)).trans ((v2_ne (by decide)).trans ((v2_ne (by decide)).trans ((v2_ne (by decide)).trans ((v2_ne (by decide)).trans ((v2_ne (by decide)).trans (rdM hR.1 rfl))))))))) ?_
                  refine s0 ?_
                  refine s16 ?_
                  refine s52 sh91 (by decide) (by decide) ?_
                  refine s6 (p := 91) rfl ?_
                  refine s50 (v := A 91 3 + 1) sh91 (by decide) (by decide) (v2_eq) ?_
                  refine s0 ?_
                  refine s17 ?_
                  refine s80 ?_
                  refine rqI_of ?_
                  refine s80 ?_
                  exact rqI_of hE
            · replace hE := hE.2 c18
              refine s68 (inRd rfl) (fun _ => ?_) (fun c25 => absurd (by decide) c25)
              refine s79 ?_
              refine xG gb231.2.1 ?_
              refine s0 ?_
              refine s80 ?_
              exact rqI_of hE
          · replace hE := hE.2 c15
            refine s67 (inRd rfl) (fun _ => ?_) (fun c26 => absurd (by decide) c26)
            refine xG gb231.2.1 ?_
            refine s0 ?_
            refine s80 ?_
            exact rqI_of hE
        · replace hE := hE.2 c12
          refine s67 (inRd rfl) (fun _ => ?_) (fun c27 => absurd (by decide) c27)
          refine xG gb231.2.1 ?_
          refine s0 ?_
          refine s80 ?_
          exact rqI_of hE
      · replace hE := hE.2 c9
        refine s67 (inRd rfl) (fun _ => ?_) (fun c28 => absurd (by decide) c28)
        refine xG gb231.2.1 ?_
        refine s0 ?_
        refine s80 ?_
        exact rqI_of hE
    · replace hE := hE.2 c6
      refine s67 (inRd rfl) (fun _ => ?_) (fun c29 => absurd (by decide) c29)
      refine xG gb231.2.1 ?_
      refine s0 ?_
      refine s80 ?_
      exact rqI_of hE
  · replace hE := hE.2 c3
    refine s84 (by decide) ?_
    refine rqI_of ?_
    refine s67 (inRd rfl) (fun _ => ?_) (fun c30 => absurd (by decide) c30)
    refine xG gb231.2.1 ?_
    refine s0 ?_
    refine s80 ?_
    exact rqI_of hE
noncomputable def o231 (A : aS) (x1 : Int) (x2 : Int) (x3 : Int) (x4 : Int) (x5 : Int) (x6 : Int) : Int × aS := (if 0 ≤ x1 ∧ x1 ≤ A 91 1 - 1 then (if 0 ≤ x2 ∧ x2 ≤ A 91 0 then (if 0 ≤ x4 ∧ x4 ≤ A 91 0 then (if 0 ≤ x3 ∧ x3 ≤ 1 then (if 0 ≤ x5 ∧ x5 ≤ 1 then (if 0 ≤ x6 ∧ x6 ≤ 3 then (if (2 * x4) + x5 < (2 * x2) + x3 then ((-1), A) else (if A 110 2 = 300 then ((-1), A) else ((A 91 3 + 1 - 1), (u2 (u2 (u2 (u2 (u2 (u2 (u2 (u2 (u2 A 103 (A 91 3).toNat (2)) 104 (A 91 3).toNat (x1)) 105 (A 91 3).toNat (((2 * x2) + x3))) 106 (A 91 3).toNat (((2 * x4) + x5))) 107 (A 91 3).toNat (x6)) 108 (A 91 3).toNat ((A 91 0))) 109 (A 91 3).toNat (5000)) 110 2 ((A 110 2 + 1))) 91 3 ((A 91 3 + 1)))))) else ((-1), A)) else ((-1), A)) else ((-1), A)) else ((-1), A)) else ((-1), A)) else ((-1), A))
theorem k231 {d L : Nat} {I : mI} {R : Nat → Nat → Option Nat} {S : List (Nat × Nat)} {A : aS} {K : Int32 → mM → Prop} {x1 : Int} {x2 : Int} {x3 : Int} {x4 : Int} {x5 : Int} {x6 : Int} (hR : RM I A) (hWfA : WfA A) (hWfB : WfB A) (rx1 : inR x1) (rx2 : inR x2) (rx3 : inR x3) (rx4 : inR x4) (rx5 : inR x5) (rx6 : inR x6) (hK : ∀ I1, FM I I1 → RM I1 (o231 A x1 x2 x3 x4 x5 x6).2 → K (oI (o231 A x1 x2 x3 x4 x5 x6).1) (bd L I1 R S)) : CallI (d + 2) 231 [.ref 91, .int (oI x1), .int (oI x2), .int (oI x3), .int (oI x4), .int (oI x5), .int (oI x6)] (bd L I R S) K := by
  have ho : o231 A x1 x2 x3 x4 x5 x6 = (if 0 ≤ x1 ∧ x1 ≤ A 91 1 - 1 then (if 0 ≤ x2 ∧ x2 ≤ A 91 0 then (if 0 ≤ x4 ∧ x4 ≤ A 91 0 then (if 0 ≤ x3 ∧ x3 ≤ 1 then (if 0 ≤ x5 ∧ x5 ≤ 1 then (if 0 ≤ x6 ∧ x6 ≤ 3 then (if (2 * x4) + x5 < (2 * x2) + x3 then ((-1), A) else (if A 110 2 = 300 then ((-1), A) else ((A 91 3 + 1 - 1), (u2 (u2 (u2 (u2 (u2 (u2 (u2 (u2 (u2 A 103 (A 91 3).toNat (2)) 104 (A 91 3).toNat (x1)) 105 (A 91 3).toNat (((2 * x2) + x3))) 106 (A 91 3).toNat (((2 * x4) + x5))) 107 (A 91 3).toNat (x6)) 108 (A 91 3).toNat ((A 91 0))) 109 (A 91 3).toNat (5000)) 110 2 ((A 110 2 + 1))) 91 3 ((A 91 3 + 1)))))) else ((-1), A)) else ((-1), A)) else ((-1), A)) else ((-1), A)) else ((-1), A)) else ((-1), A)) := rfl
  have w0 := hWfA.1
  have w1 := hWfA.2.1
  have w2 := hWfA.2.2.1
  have w3 : 0 ≤ A 91 3 ∧ A 91 3 ≤ 850 := hWfA.2.2.2.1
  have wN := hWfA.2.2.2.1
  have ty := today_year hWfA
  have wb := hWfB
  unfold WfB at wb
  refine e231 (d := d) hR ?_
  refine ⟨by first | assumption | exact inRd rfl | omega | exact ⟨by omega, by omega⟩, ?_⟩
  refine ⟨by first | assumption | exact inRd rfl | omega | exact ⟨by omega, by omega⟩, ?_⟩
  refine ⟨fun c21 => ?_, fun c21 => ?_⟩
  · rw [if_pos c21] at ho
    refine ⟨by first | assumption | exact inRd rfl | omega | exact ⟨by omega, by omega⟩, ?_⟩
    refine ⟨fun c22 => ?_, fun c22 => ?_⟩
    · rw [if_pos c22] at ho
      refine ⟨by first | assumption | exact inRd rfl | omega | exact ⟨by omega, by omega⟩, ?_⟩
      refine ⟨fun c23 => ?_, fun c23 => ?_⟩
      · rw [if_pos c23] at ho
        refine ⟨by first | assumption | exact inRd rfl | omega | exact ⟨by omega, by omega⟩, ?_⟩
        refine ⟨fun c24 => ?_, fun c24 => ?_⟩
        · rw [if_pos c24] at ho
          refine ⟨by first | assumption | exact inRd rfl | omega | exact ⟨by omega, by omega⟩, ?_⟩
          refine ⟨fun c25 => ?_, fun c25 => ?_⟩
          · rw [if_pos c25] at ho
            refine ⟨by first | assumption | exact inRd rfl | omega | exact ⟨by omega, by omega⟩, ?_⟩
            refine ⟨fun c26 => ?_, fun c26 => ?_⟩
            · rw [if_pos c26] at ho
              refine ⟨by first | assumption | exact inRd rfl | omega | exact ⟨by omega, by omega⟩, ?_⟩
              refine ⟨by first | assumption | exact inRd rfl | omega | exact ⟨by omega, by omega⟩, ?_⟩
              refine ⟨fun c27 => ?_, fun c27 => ?_⟩
              · rw [if_pos c27] at ho
                rw [ho] at hK
                exact hK _ (FM.refl _) (hR)
              · rw [if_neg c27] at ho
                refine ⟨fun c28 => ?_, fun c28 => ?_⟩
                · rw [if_pos c28] at ho
                  rw [ho] at hK
                  exact hK _ (FM.refl _) (hR)
                · rw [if_neg c28] at ho
                  refine ⟨by first | assumption | exact inRd rfl | omega | exact ⟨by omega, by omega⟩, ?_⟩
                  rw [ho] at hK
                  exact hK _ (FM.wr (FM.wr (FM.wr (FM.wr (FM.wr (FM.wr (FM.wr (FM.wr (FM.wr (FM.refl _) (by decide)) (by decide)) (by decide)) (by decide)) (by decide)) (by decide)) (by decide)) (by decide)) (by decide)) (RM.set (RM.set (RM.set (RM.set (RM.set (RM.set (RM.set (RM.set (RM.set (hR) 103 (A 91 3).toNat (by first | assumption | exact inRd rfl | omega | exact ⟨by omega, by omega⟩) rfl) 104 (A 91 3).toNat (by first | assumption | exact inRd rfl | omega | exact ⟨by omega, by omega⟩) rfl) 105 (A 91 3).toNat (by first | assumption | exact inRd rfl | omega | exact ⟨by omega, by omega⟩) rfl) 106 (A 91 3).toNat (by first | assumption | exact inRd rfl | omega | exact ⟨by omega, by omega⟩) rfl) 107 (A 91 3).toNat (by first | assumption | exact inRd rfl | omega | exact ⟨by omega, by omega⟩) rfl) 108 (A 91 3).toNat (by first | assumption | exact inRd rfl | omega | exact ⟨by omega, by omega⟩) rfl) 109 (A 91 3).toNat (by first | assumption | exact inRd rfl | omega | exact ⟨by omega, by omega⟩) rfl) 110 2 (by first | assumption | exact inRd rfl | omega | exact ⟨by omega, by omega⟩) rfl) 91 3 (by first | assumption | exact inRd rfl | omega | exact ⟨by omega, by omega⟩) rfl)
            · rw [if_neg c26] at ho
              rw [ho] at hK
              exact hK _ (FM.refl _) (hR)
          · rw [if_neg c25] at ho
            rw [ho] at hK
            exact hK _ (FM.refl _) (hR)
        · rw [if_neg c24] at ho
          rw [ho] at hK
          exact hK _ (FM.refl _) (hR)
      · rw [if_neg c23] at ho
        rw [ho] at hK
        exact hK _ (FM.refl _) (hR)
    · rw [if_neg c22] at ho
      rw [ho] at hK
      exact hK _ (FM.refl _) (hR)
  · rw [if_neg c21] at ho
    rw [ho] at hK
    exact hK _ (FM.refl _) (hR)
set_option maxRecDepth 4000 in
theorem e242 {d L : Nat} {I : Nat → Nat → Int32} {R : Nat → Nat → Option Nat} {S : List (Nat × Nat)} {K : Int32 → mM → Prop} {A : aS} (hR : RM I A) {x1 : Int} {x2 : Int} {x3 : Int} {x4 : Int} (hE : inR x1 ∧ (inR (A 91 1 - 1) ∧ (((0 ≤ x1 ∧ x1 ≤ A 91 1 - 1) → inR x2 ∧ (inR (Int.tdiv (A 91 0) 100) ∧ (((0 ≤ x2 ∧ x2 ≤ Int.tdiv (A 91 0) 100) → inR x3 ∧ (((0 ≤ x3 ∧ x3 ≤ 5) → inR x4 ∧ (((0 ≤ x4 ∧ x4 ≤ 100) → ((A 110 6 = 250) → K (oI (-1)) (bd L I R S)) ∧ (¬ (A 110 6 = 250) → (0 ≤ A 91 3 ∧ A 91 3 < 850) ∧ (K (oI (A 91 3 + 1 - 1)) (bd L (u2 (u2 (u2 (u2 (u2 (u2 (u2 (u2 (u2 I 103 (A 91 3).toNat (oI 6)) 104 (A 91 3).toNat (oI x1)) 105 (A 91 3).toNat (oI x2)) 106 (A 91 3).toNat (oI x3)) 107 (A 91 3).toNat (oI x4)) 108 (A 91 3).toNat (oI (A 91 0))) 109 (A 91 3).toNat (oI 5000)) 110 6 (oI (A 110 6 + 1))) 91 3 (oI (A 91 3 + 1))) R S)))) ∧ (¬ (0 ≤ x4 ∧ x4 ≤ 100) → K (oI (-1)) (bd L I R S)))) ∧ (¬ (0 ≤ x3 ∧ x3 ≤ 5) → K (oI (-1)) (bd L I R S)))) ∧ (¬ (0 ≤ x2 ∧ x2 ≤ Int.tdiv (A 91 0) 100) → K (oI (-1)) (bd L I R S))))) ∧ (¬ (0 ≤ x1 ∧ x1 ≤ A 91 1 - 1) → K (oI (-1)) (bd L I R S))))) : CallI (d + 2) 242 [.ref 91, .int (oI x1), .int (oI x2), .int (oI x3), .int (oI x4)] (bd L I R S) K := by
  refine cI_of (ls := [.ref 91, .int (oI x1), .int (oI x2), .int (oI x3), .int (oI x4)]) rfl ?_
  refine xG gb242.1 ?_
  refine s6 (p := 91) rfl ?_
  refine s4 (x := x1) rfl ?_
  refine sI rc215 rfl (Nat.le_of_ble_eq_true rfl) ?_
  refine cI_of (ls := [.ref 91, .int (oI x1)]) rfl ?_
  refine xG gb215 ?_
  refine s4 (x := x1) rfl ?_
  refine s0 ?_
  refine s6 (p := 91) rfl ?_
  refine s50 (v := A 91 1) sh91 (by decide) (by decide) (rdM hR.1 rfl) ?_
  refine s0 ?_
  refine s17 ?_
  obtain ⟨g1, hE⟩ := hE
  obtain ⟨g2, hE⟩ := hE
  refine sI rc210 rfl (Nat.le_of_ble_eq_true rfl) ?_
  refine k210 g1 (inRd rfl) g2 (fun c3 => ?_) (fun c3 => ?_)
  · replace hE := hE.1 c3
    refine s84 (by decide) ?_
    refine rqI_of ?_
    refine s67 (inRd rfl) (fun c4 => absurd c4 (by decide)) (fun _ => ?_)
    refine s4 (x := x2) rfl ?_
    refine s0 ?_
    refine s6 (p := 91) rfl ?_
    refine s50 (v := A 91 0) sh91 (by decide) (by decide) (rdM hR.1 rfl) ?_
    refine s0 ?_
    refine s19 (inA hR.1 (a := 91) (k := 0) rfl) ⟨(inRd rfl), by decide⟩ ?_
    obtain ⟨g5, hE⟩ := hE
    obtain ⟨g6, hE⟩ := hE
    refine sI rc210 rfl (Nat.le_of_ble_eq_true rfl) ?_
    refine k210 g5 (inRd rfl) g6 (fun c7 => ?_) (fun c7 => ?_)
    · replace hE := hE.1 c7
      refine s67 (inRd rfl) (fun c8 => absurd c8 (by decide)) (fun _ => ?_)
      refine s4 (x := x3) rfl ?_
      refine s0 ?_
      refine s0 ?_
      obtain ⟨g9, hE⟩ := hE
      refine sI rc210 rfl (Nat.le_of_ble_eq_true rfl) ?_
      refine k210 g9 (inRd rfl) (inRd rfl) (fun c10 => ?_) (fun c10 => ?_)
      · replace hE := hE.1 c10
        refine s67 (inRd rfl) (fun c11 => absurd c11 (by decide)) (fun _ => ?_)
        refine s4 (x := x4) rfl ?_
        refine s0 ?_
        refine s0 ?_
        obtain ⟨g12, hE⟩ := hE
        refine sI rc210 rfl (Nat.le_of_ble_eq_true rfl) ?_
        refine k210 g12 (inRd rfl) (inRd rfl) (fun c13 => ?_) (fun c13 => ?_)
        · replace hE := hE.1 c13
          refine s67 (inRd rfl) (fun c14 => absurd c14 (by decide)) (fun _ => ?_)
          refine s6 (p := 91) rfl ?_
          refine s51 sh91 (by decide) (by decide) rf91_23 ?_
          refine s0 ?_
          refine s40 (v := A 110 6) sh110 (⟨by decide, by decide⟩ : (0 : Int) ≤ 6 ∧ (6 : Int) < 7) rfl (rdM hR.1 rfl) ?_
          refine s0 ?_
          refine s62 (inA hR.1 (a := 110) (k := 6) rfl) (inRd rfl) (fun c15 => ?_) (fun c15 => ?_)
          · replace hE := hE.1 c15
            refine s79 ?_
            refine xG gb242.2.1 ?_
            refine s0 ?_
            refine s60 ?_
            refine xG gb242.2.2.2 ?_
            refine s80 ?_
            exact rqI_of hE
          · replace hE := hE.2 c15
            refine xG gb242.2.2.1 ?_
            refine s6 (p := 91) rfl ?_
            refine s0 ?_
            refine s4 (x := x1) rfl ?_
            refine s4 (x := x2) rfl ?_
            refine s4 (x := x3) rfl ?_
            refine s4 (x := x4) rfl ?_
            refine sI rc228 rfl (Nat.le_of_ble_eq_true rfl) ?_
            refine cI_of (ls := [.ref 91, .int (oI 6), .int (oI x1), .int (oI x2), .int (oI x3), .int (oI x4)]) rfl ?_
            refine xG gb228 ?_
            refine s6 (p := 91) rfl ?_
            refine s51 sh91 (by decide) (by decide) rf91_16 ?_
            refine s6 (p := 91) rfl ?_
            refine s50 (v := A 91 3) sh91 (by decide) (by decide) (rdM hR.1 rfl) ?_
            refine s4 (x := 6) rfl ?_
            obtain ⟨g16, hE⟩ := hE
            refine s44 sh103 (by decide) g16 rfl ?_
            refine s6 (p := 91) rfl ?_
            refine s51 sh91 (by decide) (by decide) rf91_17 ?_
            refine s6 (p := 91) rfl ?_
            refine s50 (v := A 91 3) sh91 (by decide) (by decide) ((v2_ne (by decide)).trans (rdM hR.1 rfl)) ?_
            refine s4 (x := x1) rfl ?_
            refine s44 sh104 (by decide) g16 rfl ?_
            refine s6 (p := 91) rfl ?_
            refine s51 sh91 (by decide) (by decide) rf91_18 ?_
            refine s6 (p := 91) rfl ?_
            refine s50 (v := A 91 3) sh91 (by decide) (by decide) ((v2_ne (by decide)).trans ((v2_ne (by decide)).trans (rdM hR.1 rfl))) ?_
            refine s4 (x := x2) rfl ?_
            refine s44 sh105 (by decide) g16 rfl ?_
            refine s6 (p := 91) rfl ?_
            refine s51 sh91 (by decide) (by decide) rf91_19 ?_
            refine s6 (p := 91) rfl ?_
            refine s50 (v := A 91 3) sh91 (by decide) (by decide) ((v2_ne (by decide)).trans ((v2_ne (by decide)).trans ((v2_ne (by decide)).trans (rdM hR.1 rfl)))) ?_
            refine s4 (x := x3) rfl ?_
            refine s44 sh106 (by decide) g16 rfl ?_
            refine s6 (p := 91) rfl ?_
            refine s51 sh91 (by decide) (by decide) rf91_20 ?_
            refine s6 (p := 91) rfl ?_
            refine s50 (v := A 91 3) sh91 (by decide) (by decide) ((v2_ne (by decide)).trans ((v2_ne (by decide)).trans ((v2_ne (by decide)).trans ((v2_ne (by decide)).trans (rdM hR.1 rfl))))) ?_
            refine s4 (x := x4) rfl ?_
            refine s44 sh107 (by decide) g16 rfl ?_
            refine s6 (p := 91) rfl ?_
            refine s51 sh91 (by decide) (by decide) rf91_21 ?_
            refine s6 (p := 91) rfl ?_
            refine s50 (v := A 91 3) sh91 (by decide) (by decide) ((v2_ne (by decide)).trans ((v2_ne (by decide)).trans ((v2_ne (by decide)).trans ((v2_ne (by decide)).trans ((v2_ne (by decide)).trans (rdM hR.1 rfl)))))) ?_
            refine s6 (p := 91) rfl ?_
            refine s50 (v := A 91 0) sh91 (by decide) (by decide) ((v2_ne (by decide)).trans ((v2_ne (by decide)).trans ((v2_ne (by decide)).trans ((v2_ne (by decide)).trans ((v2_ne (by decide)).trans (rdM hR.1 rfl)))))) ?_
            refine s44 sh108 (by decide) g16 rfl ?_
            refine s6 (p := 91) rfl ?_
            refine s51 sh91 (by decide) (by decide) rf91_22 ?_
            refine s6 (p := 91) rfl ?_
            refine s50 (v := A 91 3) sh91 (by decide) (by decide) ((v2_ne (by decide)).trans ((v2_ne (by decide)).trans ((v2_ne (by decide)).trans ((v2_ne (by decide)).trans ((v2_ne (by decide)).trans ((v2_ne (by decide)).trans (rdM hR.1 rfl))))))) ?_
            refine s0 ?_
            refine s44 sh109 (by decide) g16 rfl ?_
            refine s6 (p := 91) rfl ?_
            refine s51 sh91 (by decide) (by decide) rf91_23 ?_
            refine s4 (x := 6) rfl ?_
            refine s14 ?_
            refine s40 (v := A 110 6) sh110 (⟨by decide, by decide⟩ : (0 : Int) ≤ 6 ∧ (6 : Int) < 7) rfl ((v2_ne (by decide)).trans ((v2_ne (by decide)).trans ((v2_ne (by decide)).trans ((v2_ne (by decide)).trans ((v2_ne (by decide)).trans ((v2_ne (by decide)).trans ((v2_ne (by decide)).trans (rdM hR.1 rfl)))))))) ?_
            refine s0 ?_
            refine s16 ?_
            refine s44 sh110 (by decide) (⟨by decide, by decide⟩ : (0 : Int) ≤ 6 ∧ (6 : Int) < 7) rfl ?_
            refine s6 (p := 91) rfl ?_
            refine s13r ?_
            refine s50 (v := A 91 3) sh91 (by decide) (by decide) ((v2_ne (by decide)).trans ((v2_ne (by decide)).trans ((v2_ne (by decide)).trans ((v2_ne (by decide)).trans ((v2_ne (by decide)).trans ((v2_ne (by decide)).trans ((v2_ne (by decide)).trans ((v2_ne (by decide)).trans (rdM hR.1 rfl))))))))) ?_
            refine s0 ?_
            refine s16 ?_
            refine s52 sh91 (by decide) (by decide) ?_
            refine s6 (p := 91) rfl ?_
            refine s50 (v := A 91 3 + 1) sh91 (by decide) (by decide) (v2_eq) ?_
            refine s0 ?_
            refine s17 ?_
            refine s80 ?_
            refine rqI_of ?_
            refine s79 ?_
            refine xG gb242.2.2.2 ?_
            refine s80 ?_
            exact rqI_of hE
        · replace hE := hE.2 c13
          refine s67 (inRd rfl) (fun _ => ?_) (fun c17 => absurd (by decide) c17)
          refine xG gb242.2.1 ?_
          refine s0 ?_
          refine s60 ?_
          refine xG gb242.2.2.2 ?_
          refine s80 ?_
          exact rqI_of hE
      · replace hE := hE.2 c10
        refine s67 (inRd rfl) (fun _ => ?_) (fun c18 => absurd (by decide) c18)
        refine xG gb242.2.1 ?_
        refine s0 ?_
        refine s60 ?_
        refine xG gb242.2.2.2 ?_
        refine s80 ?_
        exact rqI_of hE
    · replace hE := hE.2 c7
      refine s67 (inRd rfl) (fun _ => ?_) (fun c19 => absurd (by decide) c19)
      refine xG gb242.2.1 ?_
      refine s0 ?_
      refine s60 ?_
      refine xG gb242.2.2.2 ?_
      refine s80 ?_
      exact rqI_of hE
  · replace hE := hE.2 c3
    refine s84 (by decide) ?_
    refine rqI_of ?_
    refine s67 (inRd rfl) (fun _ => ?_) (fun c20 => absurd (by decide) c20)
    refine xG gb242.2.1 ?_
    refine s0 ?_
    refine s60 ?_
    refine xG gb242.2.2.2 ?_
    refine s80 ?_
    exact rqI_of hE
noncomputable def o242 (A : aS) (x1 : Int) (x2 : Int) (x3 : Int) (x4 : Int) : Int × aS := (if 0 ≤ x1 ∧ x1 ≤ A 91 1 - 1 then (if 0 ≤ x2 ∧ x2 ≤ Int.tdiv (A 91 0) 100 then (if 0 ≤ x3 ∧ x3 ≤ 5 then (if 0 ≤ x4 ∧ x4 ≤ 100 then (if A 110 6 = 250 then ((-1), A) else ((A 91 3 + 1 - 1), (u2 (u2 (u2 (u2 (u2 (u2 (u2 (u2 (u2 A 103 (A 91 3).toNat (6)) 104 (A 91 3).toNat (x1)) 105 (A 91 3).toNat (x2)) 106 (A 91 3).toNat (x3)) 107 (A 91 3).toNat (x4)) 108 (A 91 3).toNat ((A 91 0))) 109 (A 91 3).toNat (5000)) 110 6 ((A 110 6 + 1))) 91 3 ((A 91 3 + 1))))) else ((-1), A)) else ((-1), A)) else ((-1), A)) else ((-1), A))
theorem k242 {d L : Nat} {I : mI} {R : Nat → Nat → Option Nat} {S : List (Nat × Nat)} {A : aS} {K : Int32 → mM → Prop} {x1 : Int} {x2 : Int} {x3 : Int} {x4 : Int} (hR : RM I A) (hWfA : WfA A) (hWfB : WfB A) (rx1 : inR x1) (rx2 : inR x2) (rx3 : inR x3) (rx4 : inR x4) (hK : ∀ I1, FM I I1 → RM I1 (o242 A x1 x2 x3 x4).2 → K (oI (o242 A x1 x2 x3 x4).1) (bd L I1 R S)) : CallI (d + 2) 242 [.ref 91, .int (oI x1), .int (oI x2), .int (oI x3), .int (oI x4)] (bd L I R S) K := by
  have ho : o242 A x1 x2 x3 x4 = (if 0 ≤ x1 ∧ x1 ≤ A 91 1 - 1 then (if 0 ≤ x2 ∧ x2 ≤ Int.tdiv (A 91 0) 100 then (if 0 ≤ x3 ∧ x3 ≤ 5 then (if 0 ≤ x4 ∧ x4 ≤ 100 then (if A 110 6 = 250 then ((-1), A) else ((A 91 3 + 1 - 1), (u2 (u2 (u2 (u2 (u2 (u2 (u2 (u2 (u2 A 103 (A 91 3).toNat (6)) 104 (A 91 3).toNat (x1)) 105 (A 91 3).toNat (x2)) 106 (A 91 3).toNat (x3)) 107 (A 91 3).toNat (x4)) 108 (A 91 3).toNat ((A 91 0))) 109 (A 91 3).toNat (5000)) 110 6 ((A 110 6 + 1))) 91 3 ((A 91 3 + 1))))) else ((-1), A)) else ((-1), A)) else ((-1), A)) else ((-1), A)) := rfl
  have w0 := hWfA.1
  have w1 := hWfA.2.1
  have w2 := hWfA.2.2.1
  have w3 : 0 ≤ A 91 3 ∧ A 91 3 ≤ 850 := hWfA.2.2.2.1
  have wN := hWfA.2.2.2.1
  have ty := today_year hWfA
  have wb := hWfB
  unfold WfB at wb
  refine e242 (d := d) hR ?_
  refine ⟨by first | assumption | exact inRd rfl | omega | exact ⟨by omega, by omega⟩, ?_⟩
  refine ⟨by first | assumption | exact inRd rfl | omega | exact ⟨by omega, by omega⟩, ?_⟩
  refine ⟨fun c29 => ?_, fun c29 => ?_⟩
  · rw [if_pos c29] at ho
    refine ⟨by first | assumption | exact inRd rfl | omega | exact ⟨by omega, by omega⟩, ?_⟩
    refine ⟨by first | assumption | exact inRd rfl | omega | exact ⟨by omega, by omega⟩, ?_⟩
    refine ⟨fun c30 => ?_, fun c30 => ?_⟩
    · rw [if_pos c30] at ho
      refine ⟨by first | assumption | exact inRd rfl | omega | exact ⟨by omega, by omega⟩, ?_⟩
      refine ⟨fun c31 => ?_, fun c31 => ?_⟩
      · rw [if_pos c31] at ho
        refine ⟨by first | assumption | exact inRd rfl | omega | exact ⟨by omega, by omega⟩, ?_⟩
        refine ⟨fun c32 => ?_, fun c32 => ?_⟩
        · rw [if_pos c32] at ho
          refine ⟨fun c33 => ?_, fun c33 => ?_⟩
          · rw [if_pos c33] at ho
            rw [ho] at hK
            exact hK _ (FM.refl _) (hR)
          · rw [if_neg c33] at ho
            refine ⟨by first | assumption | exact inRd rfl | omega | exact ⟨by omega, by omega⟩, ?_⟩
            rw [ho] at hK
            exact hK _ (FM.wr (FM.wr (FM.wr (FM.wr (FM.wr (FM.wr (FM.wr (FM.wr (FM.wr (FM.refl _) (by decide)) (by decide)) (by decide)) (by decide)) (by decide)) (by decide)) (by decide)) (by decide)) (by decide)) (RM.set (RM.set (RM.set (RM.set (RM.set (RM.set (RM.set (RM.set (RM.set (hR) 103 (A 91 3).toNat (by first | assumption | exact inRd rfl | omega | exact ⟨by omega, by omega⟩) rfl) 104 (A 91 3).toNat (by first | assumption | exact inRd rfl | omega | exact ⟨by omega, by omega⟩) rfl) 105 (A 91 3).toNat (by first | assumption | exact inRd rfl | omega | exact ⟨by omega, by omega⟩) rfl) 106 (A 91 3).toNat (by first | assumption | exact inRd rfl | omega | exact ⟨by omega, by omega⟩) rfl) 107 (A 91 3).toNat (by first | assumption | exact inRd rfl | omega | exact ⟨by omega, by omega⟩) rfl) 108 (A 91 3).toNat (by first | assumption | exact inRd rfl | omega | exact ⟨by omega, by omega⟩) rfl) 109 (A 91 3).toNat (by first | assumption | exact inRd rfl | omega | exact ⟨by omega, by omega⟩) rfl) 110 6 (by first | assumption | exact inRd rfl | omega | exact ⟨by omega, by omega⟩) rfl) 91 3 (by first | assumption | exact inRd rfl | omega | exact ⟨by omega, by omega⟩) rfl)
        · rw [if_neg c32] at ho
          rw [ho] at hK
          exact hK _ (FM.refl _) (hR)
      · rw [if_neg c31] at ho
        rw [ho] at hK
        exact hK _ (FM.refl _) (hR)
    · rw [if_neg c30] at ho
      rw [ho] at hK
      exact hK _ (FM.refl _) (hR)
  · rw [if_neg c29] at ho
    rw [ho] at hK
    exact hK _ (FM.refl _) (hR)
set_option maxRecDepth 4000 in
theorem e244 {d L : Nat} {I : Nat → Nat → Int32} {R : Nat → Nat → Option Nat} {S : List (Nat × Nat)} {K : Int32 → mM → Prop} {A : aS} (hR : RM I A) {x1 : Int} {x2 : Int} (hE : inR x1 ∧ (inR (A 91 3 - 1) ∧ (((0 ≤ x1 ∧ x1 ≤ A 91 3 - 1) → inR x2 ∧ ((x2 = 0 → (0 ≤ x1 ∧ x1 < 850) ∧ (K (oI (A 103 x1.toNat)) (bd L I R S))) ∧ (x2 = 1 → (0 ≤ x1 ∧ x1 < 850) ∧ (K (oI (A 104 x1.toNat)) (bd L I R S))) ∧ (x2 = 2 → (0 ≤ x1 ∧ x1 < 850) ∧ (K (oI (A 108 x1.toNat)) (bd L I R S))) ∧ (x2 = 3 → (0 ≤ x1 ∧ x1 < 850) ∧ (((A 109 x1.toNat = 5000) → K (oI (-1)) (bd L I R S)) ∧ (¬ (A 109 x1.toNat = 5000) → K (oI (A 109 x1.toNat)) (bd L I R S)))) ∧ (¬ x2 = 0 ∧ ¬ x2 = 1 ∧ ¬ x2 = 2 ∧ ¬ x2 = 3 → K (oI (-1)) (bd L I R S)))) ∧ (¬ (0 ≤ x1 ∧ x1 ≤ A 91 3 - 1) → K (oI (-1)) (bd L I R S))))) : CallI (d + 1) 244 [.ref 91, .int (oI x1), .int (oI x2)] (bd L I R S) K := by
  refine cI_of (ls := [.ref 91, .int (oI x1), .int (oI x2)]) rfl ?_
  refine xG gb244.1 ?_
  refine s4 (x := x1) rfl ?_
  refine s0 ?_
  refine s6 (p := 91) rfl ?_
  refine s50 (v := A 91 3) sh91 (by decide) (by decide) (rdM hR.1 rfl) ?_
  refine s0 ?_
  refine s17 ?_
  obtain ⟨g1, hE⟩ := hE
  obtain ⟨g2, hE⟩ := hE
  refine sI rc210 rfl (Nat.le_of_ble_eq_true rfl) ?_
  refine k210 g1 (inRd rfl) g2 (fun c3 => ?_) (fun c3 => ?_)
  · replace hE := hE.1 c3
    refine s68 (inRd rfl) (fun c4 => absurd c4 (by decide)) (fun _ => ?_)
    refine xG gb244.2.1 ?_
    refine s4 (x := x2) rfl ?_
    obtain ⟨g5, hE⟩ := hE
    refine s76 g5 ?_
    by_cases c6 : x2 = 0
    · replace hE := hE.1 c6
      rw [show mSel ((jSW.getD 244 []).getD 0 []) (x2 - 0) = 2 by rw [c6]; rfl]
      refine xG gb244.2.2.1 ?_
      refine s6 (p := 91) rfl ?_
      refine s51 sh91 (by decide) (by decide) rf91_16 ?_
      refine s4 (x := x1) rfl ?_
      obtain ⟨g7, hE⟩ := hE
      refine s40 (v := A 103 x1.toNat) sh103 g7 rfl (rdM hR.1 rfl) ?_
      refine s80 ?_
      exact rqI_of hE
    replace hE := hE.2
    by_cases c8 : x2 = 1
    · replace hE := hE.1 c8
      rw [show mSel ((jSW.getD 244 []).getD 0 []) (x2 - 0) = 3 by rw [c8]; rfl]
      refine xG gb244.2.2.2.1 ?_
      refine s6 (p := 91) rfl ?_
      refine s51 sh91 (by decide) (by decide) rf91_17 ?_
      refine s4 (x := x1) rfl ?_
      obtain ⟨g9, hE⟩ := hE
      refine s40 (v := A 104 x1.toNat) sh104 g9 rfl (rdM hR.1 rfl) ?_
      refine s80 ?_
      exact rqI_of hE
    replace hE := hE.2
    by_cases c10 : x2 = 2
    · replace hE := hE.1 c10
      rw [show mSel ((jSW.getD 244 []).getD 0 []) (x2 - 0) = 4 by rw [c10]; rfl]
      refine xG gb244.2.2.2.2.1 ?_
      refine s6 (p := 91) rfl ?_
      refine s51 sh91 (by decide) (by decide) rf91_21 ?_
      refine s4 (x := x1) rfl ?_
      obtain ⟨g11, hE⟩ := hE
      refine s40 (v := A 108 x1.toNat) sh108 g11 rfl (rdM hR.1 rfl) ?_
      refine s80 ?_
      exact rqI_of hE
    replace hE := hE.2
    by_cases c12 : x2 = 3
    · replace hE := hE.1 c12
      rw [show mSel ((jSW.getD 244 []).getD 0 []) (x2 - 0) = 5 by rw [c12]; rfl]
      refine xG gb244.2.2.2.2.2.1 ?_
      refine s6 (p := 91) rfl ?_
      refine s51 sh91 (by decide) (by decide) rf91_22 ?_
      refine s4 (x := x1) rfl ?_
      obtain ⟨g13, hE⟩ := hE
      refine s40 (v := A 109 x1.toNat) sh109 g13 rfl (rdM hR.1 rfl) ?_
      refine s0 ?_
      refine s62 (inA hR.1 (a := 109) (k := x1.toNat) rfl) (inRd rfl) (fun c14 => ?_) (fun c14 => ?_)
      · replace hE := hE.1 c14
        refine s0 ?_
        refine s60 ?_
        refine xG gb244.2.2.2.2.2.2.2.1 ?_
        refine s80 ?_
        exact rqI_of hE
      · replace hE := hE.2 c14
        refine xG gb244.2.2.2.2.2.2.1 ?_
        refine s6 (p := 91) rfl ?_
        refine s51 sh91 (by decide) (by decide) rf91_22 ?_
        refine s4 (x := x1) rfl ?_
        refine s40 (v := A 109 x1.toNat) sh109 g13 rfl (rdM hR.1 rfl) ?_
        refine s79 ?_
        refine xG gb244.2.2.2.2.2.2.2.1 ?_
        refine s80 ?_
        exact rqI_of hE
    replace hE := hE.2
    replace hE := hE ⟨c6, c8, c10, c12⟩
    rw [show mSel ((jSW.getD 244 []).getD 0 []) (x2 - 0) = 8 by exact mSel_def (lo := 0) (vs := [0, 1, 2, 3]) rfl (by intro v hv; simp only [List.mem_cons, List.not_mem_nil, or_false] at hv; omega)]
    refine xG gb244.2.2.2.2.2.2.2.2 ?_
    refine s0 ?_
    refine s80 ?_
    exact rqI_of hE
  · replace hE := hE.2 c3
    refine s68 (inRd rfl) (fun _ => ?_) (fun c15 => absurd (by decide) c15)
    refine s0 ?_
    refine s80 ?_
    exact rqI_of hE
noncomputable def o244 (A : aS) (x1 : Int) (x2 : Int) : Int × aS := (if 0 ≤ x1 ∧ x1 ≤ A 91 3 - 1 then (if x2 = 0 then ((A 103 x1.toNat), A) else (if x2 = 1 then ((A 104 x1.toNat), A) else (if x2 = 2 then ((A 108 x1.toNat), A) else (if x2 = 3 then (if A 109 x1.toNat = 5000 then ((-1), A) else ((A 109 x1.toNat), A)) else ((-1), A))))) else ((-1), A))
theorem k244 {d L : Nat} {I : mI} {R : Nat → Nat → Option Nat} {S : List (Nat × Nat)} {A : aS} {K : Int32 → mM → Prop} {x1 : Int} {x2 : Int} (hR : RM I A) (hWfA : WfA A) (rx1 : inR x1) (rx2 : inR x2) (hK : ∀ I1, FM I I1 → RM I1 (o244 A x1 x2).2 → K (oI (o244 A x1 x2).1) (bd L I1 R S)) : CallI (d + 1) 244 [.ref 91, .int (oI x1), .int (oI x2)] (bd L I R S) K := by
  have ho : o244 A x1 x2 = (if 0 ≤ x1 ∧ x1 ≤ A 91 3 - 1 then (if x2 = 0 then ((A 103 x1.toNat), A) else (if x2 = 1 then ((A 104 x1.toNat), A) else (if x2 = 2 then ((A 108 x1.toNat), A) else (if x2 = 3 then (if A 109 x1.toNat = 5000 then ((-1), A) else ((A 109 x1.toNat), A)) else ((-1), A))))) else ((-1), A)) := rfl
  have w0 := hWfA.1
  have w1 := hWfA.2.1
  have w2 := hWfA.2.2.1
  have w3 : 0 ≤ A 91 3 ∧ A 91 3 ≤ 850 := hWfA.2.2.2.1
  have wN := hWfA.2.2.2.1
  have ty := today_year hWfA
  refine e244 (d := d) hR ?_
  refine ⟨by first | assumption | exact inRd rfl | omega | exact ⟨by omega, by omega⟩, ?_⟩
  refine ⟨by first | assumption | exact inRd rfl | omega | exact ⟨by omega, by omega⟩, ?_⟩
  refine ⟨fun c34 => ?_, fun c34 => ?_⟩
  · rw [if_pos c34] at ho
    refine ⟨by first | assumption | exact inRd rfl | omega | exact ⟨by omega, by omega⟩, ?_⟩
    refine ⟨fun c35 => ?_, fun c35 => ?_, fun c35 => ?_, fun c35 => ?_, fun c35 => ?_⟩
    · rw [if_pos c35] at ho
      refine ⟨by first | assumption | exact inRd rfl | omega | exact ⟨by omega, by omega⟩, ?_⟩
      rw [ho] at hK
      exact hK _ (FM.refl _) (hR)
    · rw [if_neg (by omega), if_pos c35] at ho
      refine ⟨by first | assumption | exact inRd rfl | omega | exact ⟨by omega, by omega⟩, ?_⟩
      rw [ho] at hK
      exact hK _ (FM.refl _) (hR)
    · rw [if_neg (by omega), if_neg (by omega), if_pos c35] at ho
      refine ⟨by first | assumption | exact inRd rfl | omega | exact ⟨by omega, by omega⟩, ?_⟩
      rw [ho] at hK
      exact hK _ (FM.refl _) (hR)
    · rw [if_neg (by omega), if_neg (by omega), if_neg (by omega), if_pos c35] at ho
      refine ⟨by first | assumption | exact inRd rfl | omega | exact ⟨by omega, by omega⟩, ?_⟩
      refine ⟨fun c36 => ?_, fun c36 => ?_⟩
      · rw [if_pos c36] at ho
        rw [ho] at hK
        exact hK _ (FM.refl _) (hR)
      · rw [if_neg c36] at ho
        rw [ho] at hK
        exact hK _ (FM.refl _) (hR)
    · rw [if_neg (by omega), if_neg (by omega), if_neg (by omega), if_neg (by omega)] at ho
      rw [ho] at hK
      exact hK _ (FM.refl _) (hR)
  · rw [if_neg c34] at ho
    rw [ho] at hK
    exact hK _ (FM.refl _) (hR)
set_option maxRecDepth 4000 in
theorem e245 {d L : Nat} {I : Nat → Nat → Int32} {R : Nat → Nat → Option Nat} {S : List (Nat × Nat)} {K : Int32 → mM → Prop} {A : aS} (hR : RM I A) {x1 : Int} {x2 : Int} {x3 : Int} (hE : inR x1 ∧ (inR (A 91 1 - 1) ∧ (((0 ≤ x1 ∧ x1 ≤ A 91 1 - 1) → inR x2 ∧ (((0 ≤ x2 ∧ x2 ≤ 799) → inR x3 ∧ (((0 ≤ x3 ∧ x3 ≤ 799) → WfN A ∧ (K (oI (onS A x1 x2 x3)) (bd L I R S))) ∧ (¬ (0 ≤ x3 ∧ x3 ≤ 799) → K (oI (-1)) (bd L I R S)))) ∧ (¬ (0 ≤ x2 ∧ x2 ≤ 799) → K (oI (-1)) (bd L I R S)))) ∧ (¬ (0 ≤ x1 ∧ x1 ≤ A 91 1 - 1) → K (oI (-1)) (bd L I R S))))) : CallI (d + 2) 245 [.ref 91, .int (oI x1), .int (oI x2), .int (oI x3)] (bd L I R S) K := by
  refine cI_of (ls := [.ref 91, .int (oI x1), .int (oI x2), .int (oI x3)]) rfl ?_
  refine xG gb245.1 ?_
  refine s6 (p := 91) rfl ?_
  refine s4 (x := x1) rfl ?_
  refine sI rc215 rfl (Nat.le_of_ble_eq_true rfl) ?_
  refine cI_of (ls := [.ref 91, .int (oI x1)]) rfl ?_
  refine xG gb215 ?_
  refine s4 (x := x1) rfl ?_
  refine s0 ?_
  refine s6 (p := 91) rfl ?_
  refine s50 (v := A 91 1) sh91 (by decide) (by decide) (rdM hR.1 rfl) ?_
  refine s0 ?_
  refine s17 ?_
  obtain ⟨g1, hE⟩ := hE
  obtain ⟨g2, hE⟩ := hE
  refine sI rc210 rfl (Nat.le_of_ble_eq_true rfl) ?_
  refine k210 g1 (inRd rfl) g2 (fun c3 => ?_) (fun c3 => ?_)
  · replace hE := hE.1 c3
    refine s84 (by decide) ?_
    refine rqI_of ?_
    refine s67 (inRd rfl) (fun c4 => absurd c4 (by decide)) (fun _ => ?_)
    refine s4 (x := x2) rfl ?_
    refine sI rc230 rfl (Nat.le_of_ble_eq_true rfl) ?_
    refine cI_of (ls := [.int (oI x2)]) rfl ?_
    refine xG gb230 ?_
    refine s4 (x := x2) rfl ?_
    refine s0 ?_
    refine s0 ?_
    obtain ⟨g5, hE⟩ := hE
    refine sI rc210 rfl (Nat.le_of_ble_eq_true rfl) ?_
    refine k210 g5 (inRd rfl) (inRd rfl) (fun c6 => ?_) (fun c6 => ?_)
    · replace hE := hE.1 c6
      refine s84 (by decide) ?_
      refine rqI_of ?_
      refine s67 (inRd rfl) (fun c7 => absurd c7 (by decide)) (fun _ => ?_)
      refine s4 (x := x3) rfl ?_
      refine sI rc230 rfl (Nat.le_of_ble_eq_true rfl) ?_
      refine cI_of (ls := [.int (oI x3)]) rfl ?_
      refine xG gb230 ?_
      refine s4 (x := x3) rfl ?_
      refine s0 ?_
      refine s0 ?_
      obtain ⟨g8, hE⟩ := hE
      refine sI rc210 rfl (Nat.le_of_ble_eq_true rfl) ?_
      refine k210 g8 (inRd rfl) (inRd rfl) (fun c9 => ?_) (fun c9 => ?_)
      · replace hE := hE.1 c9
        refine s84 (by decide) ?_
        refine rqI_of ?_
        refine s67 (inRd rfl) (fun c10 => absurd c10 (by decide)) (fun _ => ?_)
        refine s6 (p := 91) rfl ?_
        refine s4 (x := x1) rfl ?_
        refine s4 (x := x2) rfl ?_
        refine s4 (x := x3) rfl ?_
        obtain ⟨g11, hE⟩ := hE
        refine sI rc225 rfl (Nat.le_of_ble_eq_true rfl) ?_
        refine k225 hR.1 g11 g1 g5 g8 ?_
        refine s60 ?_
        refine xG gb245.2.2 ?_
        refine s80 ?_
        exact rqI_of hE
      · replace hE := hE.2 c9
        refine s84 (by decide) ?_
        refine rqI_of ?_
        refine s67 (inRd rfl) (fun _ => ?_) (fun c12 => absurd (by decide) c12)
        refine xG gb245.2.1 ?_
        refine s0 ?_
        refine s79 ?_
        refine xG gb245.2.2 ?_
        refine s80 ?_
        exact rqI_of hE
    · replace hE := hE.2 c6
      refine s84 (by decide) ?_
      refine rqI_of ?_
      refine s67 (inRd rfl) (fun _ => ?_) (fun c13 => absurd (by decide) c13)
      refine xG gb245.2.1 ?_
      refine s0 ?_
      refine s79 ?_
      refine xG gb245.2.2 ?_
      refine s80 ?_
      exact rqI_of hE
  · replace hE := hE.2 c3
    refine s84 (by decide) ?_
    refine rqI_of ?_
    refine s67 (inRd rfl) (fun _ => ?_) (fun c14 => absurd (by decide) c14)
    refine xG gb245.2.1 ?_
    refine s0 ?_
    refine s79 ?_
    refine xG gb245.2.2 ?_
    refine s80 ?_
    exact rqI_of hE
noncomputable def o245 (A : aS) (x1 : Int) (x2 : Int) (x3 : Int) : Int × aS := (if 0 ≤ x1 ∧ x1 ≤ A 91 1 - 1 then (if 0 ≤ x2 ∧ x2 ≤ 799 then (if 0 ≤ x3 ∧ x3 ≤ 799 then ((onS A x1 x2 x3), A) else ((-1), A)) else ((-1), A)) else ((-1), A))
theorem k245 {d L : Nat} {I : mI} {R : Nat → Nat → Option Nat} {S : List (Nat × Nat)} {A : aS} {K : Int32 → mM → Prop} {x1 : Int} {x2 : Int} {x3 : Int} (hR : RM I A) (hWfA : WfA A) (rx1 : inR x1) (rx2 : inR x2) (rx3 : inR x3) (hK : ∀ I1, FM I I1 → RM I1 (o245 A x1 x2 x3).2 → K (oI (o245 A x1 x2 x3).1) (bd L I1 R S)) : CallI (d + 2) 245 [.ref 91, .int (oI x1), .int (oI x2), .int (oI x3)] (bd L I R S) K := by
  have ho : o245 A x1 x2 x3 = (if 0 ≤ x1 ∧ x1 ≤ A 91 1 - 1 then (if 0 ≤ x2 ∧ x2 ≤ 799 then (if 0 ≤ x3 ∧ x3 ≤ 799 then ((onS A x1 x2 x3), A) else ((-1), A)) else ((-1), A)) else ((-1), A)) := rfl
  have w0 := hWfA.1
  have w1 := hWfA.2.1
  have w2 := hWfA.2.2.1
  have w3 : 0 ≤ A 91 3 ∧ A 91 3 ≤ 850 := hWfA.2.2.2.1
  have wN := hWfA.2.2.2.1
  have ty := today_year hWfA
  refine e245 (d := d) hR ?_
  refine ⟨by first | assumption | exact inRd rfl | omega | exact ⟨by omega, by omega⟩, ?_⟩
  refine ⟨by first | assumption | exact inRd rfl | omega | exact ⟨by omega, by omega⟩, ?_⟩
  refine ⟨fun c37 => ?_, fun c37 => ?_⟩
  · rw [if_pos c37] at ho
    refine ⟨by first | assumption | exact inRd rfl | omega | exact ⟨by omega, by omega⟩, ?_⟩
    refine ⟨fun c38 => ?_, fun c38 => ?_⟩
    · rw [if_pos c38] at ho
      refine ⟨by first | assumption | exact inRd rfl | omega | exact ⟨by omega, by omega⟩, ?_⟩
      refine ⟨fun c39 => ?_, fun c39 => ?_⟩
      · rw [if_pos c39] at ho
        refine ⟨by first | assumption | exact inRd rfl | omega | exact ⟨by omega, by omega⟩, ?_⟩
        rw [ho] at hK
        exact hK _ (FM.refl _) (hR)
      · rw [if_neg c39] at ho
        rw [ho] at hK
        exact hK _ (FM.refl _) (hR)
    · rw [if_neg c38] at ho
      rw [ho] at hK
      exact hK _ (FM.refl _) (hR)
  · rw [if_neg c37] at ho
    rw [ho] at hK
    exact hK _ (FM.refl _) (hR)
set_option maxRecDepth 4000 in
theorem e246 {d L : Nat} {I : Nat → Nat → Int32} {R : Nat → Nat → Option Nat} {S : List (Nat × Nat)} {K : Int32 → mM → Prop} {A : aS} (hR : RM I A) {x1 : Int} {x2 : Int} {x3 : Int} {x4 : Int} (hE : inR x1 ∧ (inR (A 91 1 - 1) ∧ (((0 ≤ x1 ∧ x1 ≤ A 91 1 - 1) → inR x2 ∧ (((0 ≤ x2 ∧ x2 ≤ 799) → inR x3 ∧ (((0 ≤ x3 ∧ x3 ≤ 1) → inR x4 ∧ (((0 ≤ x4 ∧ x4 ≤ 799) → WfN A ∧ (inR ((2 * x2) + x3) ∧ (K (oI (mkS A x1 ((2 * x2) + x3) x4)) (bd L I R S)))) ∧ (¬ (0 ≤ x4 ∧ x4 ≤ 799) → K (oI (-1)) (bd L I R S)))) ∧ (¬ (0 ≤ x3 ∧ x3 ≤ 1) → K (oI (-1)) (bd L I R S)))) ∧ (¬ (0 ≤ x2 ∧ x2 ≤ 799) → K (oI (-1)) (bd L I R S)))) ∧ (¬ (0 ≤ x1 ∧ x1 ≤ A 91 1 - 1) → K (oI (-1)) (bd L I R S))))) : CallI (d + 2) 246 [.ref 91, .int (oI x1), .int (oI x2), .int (oI x3), .int (oI x4)] (bd L I R S) K := by
  refine cI_of (ls := [.ref 91, .int (oI x1), .int (oI x2), .int (oI x3), .int (oI x4)]) rfl ?_
  refine xG gb246.1 ?_
  refine s6 (p := 91) rfl ?_
  refine s4 (x := x1) rfl ?_
  refine sI rc215 rfl (Nat.le_of_ble_eq_true rfl) ?_
  refine cI_of (ls := [.ref 91, .int (oI x1)]) rfl ?_
  refine xG gb215 ?_
  refine s4 (x := x1) rfl ?_
  refine s0 ?_
  refine s6 (p := 91) rfl ?_
  refine s50 (v := A 91 1) sh91 (by decide) (by decide) (rdM hR.1 rfl) ?_
  refine s0 ?_
  refine s17 ?_
  obtain ⟨g1, hE⟩ := hE
  obtain ⟨g2, hE⟩ := hE
  refine sI rc210 rfl (Nat.le_of_ble_eq_true rfl) ?_
  refine k210 g1 (inRd rfl) g2 (fun c3 => ?_) (fun c3 => ?_)
  · replace hE := hE.1 c3
    refine s84 (by decide) ?_
    refine rqI_of ?_
    refine s67 (inRd rfl) (fun c4 => absurd c4 (by decide)) (fun _ => ?_)
    refine s4 (x := x2) rfl ?_
    refine sI rc230 rfl (Nat.le_of_ble_eq_true rfl) ?_
    refine cI_of (ls := [.int (oI x2)]) rfl ?_
    refine xG gb230 ?_
    refine s4 (x := x2) rfl ?_
    refine s0 ?_
    refine s0 ?_
    obtain ⟨g5, hE⟩ := hE
    refine sI rc210 rfl (Nat.le_of_ble_eq_true rfl) ?_
    refine k210 g5 (inRd rfl) (inRd rfl) (fun c6 => ?_) (fun c6 => ?_)
    · replace hE := hE.1 c6
      refine s84 (by decide) ?_
      refine rqI_of ?_
      refine s67 (inRd rfl) (fun c7 => absurd c7 (by decide)) (fun _ => ?_)
      refine s4 (x := x3) rfl ?_
      refine s0 ?_
      refine s0 ?_
      obtain ⟨g8, hE⟩ := hE
      refine sI rc210 rfl (Nat.le_of_ble_eq_true rfl) ?_
      refine k210 g8 (inRd rfl) (inRd rfl) (fun c9 => ?_) (fun c9 => ?_)
      · replace hE := hE.1 c9
        refine s67 (inRd rfl) (fun c10 => absurd c10 (by decide)) (fun _ => ?_)
        refine s4 (x := x4) rfl ?_
        refine sI rc230 rfl (Nat.le_of_ble_eq_true rfl) ?_
        refine cI_of (ls := [.int (oI x4)]) rfl ?_
        refine xG gb230 ?_
        refine s4 (x := x4) rfl ?_
        refine s0 ?_
        refine s0 ?_
        obtain ⟨g11, hE⟩ := hE
        refine sI rc210 rfl (Nat.le_of_ble_eq_true rfl) ?_
        refine k210 g11 (inRd rfl) (inRd rfl) (fun c12 => ?_) (fun c12 => ?_)
        · replace hE := hE.1 c12
          refine s84 (by decide) ?_
          refine rqI_of ?_
          refine s67 (inRd rfl) (fun c13 => absurd c13 (by decide)) (fun _ => ?_)
          refine s6 (p := 91) rfl ?_
          refine s4 (x := x1) rfl ?_
          refine s0 ?_
          refine s4 (x := x2) rfl ?_
          refine s18 ?_
          refine s4 (x := x3) rfl ?_
          refine s16 ?_
          refine s4 (x := x4) rfl ?_
          obtain ⟨g14, hE⟩ := hE
          obtain ⟨g15, hE⟩ := hE
          refine sI rc247 rfl (Nat.le_of_ble_eq_true rfl) ?_
          refine k247 hR.1 g14 g1 g15 g11 ?_
          refine s60 ?_
          refine xG gb246.2.2 ?_
          refine s80 ?_
          exact rqI_of hE
        · replace hE := hE.2 c12
          refine s84 (by decide) ?_
          refine rqI_of ?_
          refine s67 (inRd rfl) (fun _ => ?_) (fun c16 => absurd (by decide) c16)
          refine xG gb246.2.1 ?_
          refine s0 ?_
          refine s79 ?_
          refine xG gb246.2.2 ?_
          refine s80 ?_
          exact rqI_of hE
      · replace hE := hE.2 c9
        refine s67 (inRd rfl) (fun _ => ?_) (fun c17 => absurd (by decide) c17)
        refine xG gb246.2.1 ?_
        refine s0 ?_
        refine s79 ?_
        refine xG gb246.2.2 ?_
        refine s80 ?_
        exact rqI_of hE
    · replace hE := hE.2 c6
      refine s84 (by decide) ?_
      refine rqI_of ?_
      refine s67 (inRd rfl) (fun _ => ?_) (fun c18 => absurd (by decide) c18)
      refine xG gb246.2.1 ?_
      refine s0 ?_
      refine s79 ?_
      refine xG gb246.2.2 ?_
      refine s80 ?_
      exact rqI_of hE
  · replace hE := hE.2 c3
    refine s84 (by decide) ?_
    refine rqI_of ?_
    refine s67 (inRd rfl) (fun _ => ?_) (fun c19 => absurd (by decide) c19)
    refine xG gb246.2.1 ?_
    refine s0 ?_
    refine s79 ?_
    refine xG gb246.2.2 ?_
    refine s80 ?_
    exact rqI_of hE
noncomputable def o246 (A : aS) (x1 : Int) (x2 : Int) (x3 : Int) (x4 : Int) : Int × aS := (if 0 ≤ x1 ∧ x1 ≤ A 91 1 - 1 then (if 0 ≤ x2 ∧ x2 ≤ 799 then (if 0 ≤ x3 ∧ x3 ≤ 1 then (if 0 ≤ x4 ∧ x4 ≤ 799 then ((mkS A x1 ((2 * x2) + x3) x4), A) else ((-1), A)) else ((-1), A)) else ((-1), A)) else ((-1), A))
theorem k246 {d L : Nat} {I : mI} {R : Nat → Nat → Option Nat} {S : List (Nat × Nat)} {A : aS} {K : Int32 → mM → Prop} {x1 : Int} {x2 : Int} {x3 : Int} {x4 : Int} (hR : RM I A) (hWfA : WfA A) (rx1 : inR x1) (rx2 : inR x2) (rx3 : inR x3) (rx4 : inR x4) (hK : ∀ I1, FM I I1 → RM I1 (o246 A x1 x2 x3 x4).2 → K (oI (o246 A x1 x2 x3 x4).1) (bd L I1 R S)) : CallI (d + 2) 246 [.ref 91, .int (oI x1), .int (oI x2), .int (oI x3), .int (oI x4)] (bd L I R S) K := by
  have ho : o246 A x1 x2 x3 x4 = (if 0 ≤ x1 ∧ x1 ≤ A 91 1 - 1 then (if 0 ≤ x2 ∧ x2 ≤ 799 then (if 0 ≤ x3 ∧ x3 ≤ 1 then (if 0 ≤ x4 ∧ x4 ≤ 799 then ((mkS A x1 ((2 * x2) + x3) x4), A) else ((-1), A)) else ((-1), A)) else ((-1), A)) else ((-1), A)) := rfl
  have w0 := hWfA.1
  have w1 := hWfA.2.1
  have w2 := hWfA.2.2.1
  have w3 : 0 ≤ A 91 3 ∧ A 91 3 ≤ 850 := hWfA.2.2.2.1
  have wN := hWfA.2.2.2.1
  have ty := today_year hWfA
  refine e246 (d := d) hR ?_
  refine ⟨by first | assumption | exact inRd rfl | omega | exact ⟨by omega, by omega⟩, ?_⟩
  refine ⟨by first | assumption | exact inRd rfl | omega | exact ⟨by omega, by omega⟩, ?_⟩
  refine ⟨fun c40 => ?_, fun c40 => ?_⟩
  · rw [if_pos c40] at ho
    refine ⟨by first | assumption | exact inRd rfl | omega | exact ⟨by omega, by omega⟩, ?_⟩
    refine ⟨fun c41 => ?_, fun c41 => ?_⟩
    · rw [if_pos c41] at ho
      refine ⟨by first | assumption | exact inRd rfl | omega | exact ⟨by omega, by omega⟩, ?_⟩
      refine ⟨fun c42 => ?_, fun c42 => ?_⟩
      · rw [if_pos c42] at ho
        refine ⟨by first | assumption | exact inRd rfl | omega | exact ⟨by omega, by omega⟩, ?_⟩
        refine ⟨fun c43 => ?_, fun c43 => ?_⟩
        · rw [if_pos c43] at ho
          refine ⟨by first | assumption | exact inRd rfl | omega | exact ⟨by omega, by omega⟩, ?_⟩
          refine ⟨by first | assumption | exact inRd rfl | omega | exact ⟨by omega, by omega⟩, ?_⟩
          rw [ho] at hK
          exact hK _ (FM.refl _) (hR)
        · rw [if_neg c43] at ho
          rw [ho] at hK
          exact hK _ (FM.refl _) (hR)
      · rw [if_neg c42] at ho
        rw [ho] at hK
        exact hK _ (FM.refl _) (hR)
    · rw [if_neg c41] at ho
      rw [ho] at hK
      exact hK _ (FM.refl _) (hR)
  · rw [if_neg c40] at ho
    rw [ho] at hK
    exact hK _ (FM.refl _) (hR)
set_option maxRecDepth 4000 in
theorem e257 {d L : Nat} {I : Nat → Nat → Int32} {R : Nat → Nat → Option Nat} {S : List (Nat × Nat)} {K : Int32 → mM → Prop} {A : aS} (hR : RM I A) {x1 : Int} {x2 : Int} {x3 : Int} (hE : inR x1 ∧ (inR (A 91 1 - 1) ∧ (((0 ≤ x1 ∧ x1 ≤ A 91 1 - 1) → inR x2 ∧ (((0 ≤ x2 ∧ x2 ≤ 7) → ((0 ≤ (0 : Int) ∧ (0 : Int) ≤ 7) → inR x3 ∧ (((0 ≤ x3 ∧ x3 ≤ 799) → WfA A ∧ (WfC A ∧ (WfP A ∧ ((0 ≤ x1 ∧ x1 < A 91 1) ∧ ((0 ≤ x2 ∧ x2 ≤ 7) ∧ (∀ (I19 : mI), (Fr [150, 151] [(91, 87)] I I19) → (RM I19 A) → K (oI (stS A x1 x2 x3)) (bd L I19 R S))))))) ∧ (¬ (0 ≤ x3 ∧ x3 ≤ 799) → K (oI (-1)) (bd L I R S)))) ∧ (¬ (0 ≤ (0 : Int) ∧ (0 : Int) ≤ 7) → K (oI (-1)) (bd L I R S))) ∧ (¬ (0 ≤ x2 ∧ x2 ≤ 7) → K (oI (-1)) (bd L I R S)))) ∧ (¬ (0 ≤ x1 ∧ x1 ≤ A 91 1 - 1) → K (oI (-1)) (bd L I R S))))) : CallI (d + 29) 257 [.ref 91, .int (oI x1), .int (oI x2), .int (oI x3)] (bd L I R S) K := by
  refine cI_of (ls := [.ref 91, .int (oI x1), .int (oI x2), .int (oI x3)]) rfl ?_
  refine xG gb257.1 ?_
  refine s6 (p := 91) rfl ?_
  refine s4 (x := x1) rfl ?_
  refine sI rc215 rfl (Nat.le_of_ble_eq_true rfl) ?_
  refine cI_of (ls := [.ref 91, .int (oI x1)]) rfl ?_
  refine xG gb215 ?_
  refine s4 (x := x1) rfl ?_
  refine s0 ?_
  refine s6 (p := 91) rfl ?_
  refine s50 (v := A 91 1) sh91 (by decide) (by decide) (rdM hR.1 rfl) ?_
  refine s0 ?_
  refine s17 ?_
  obtain ⟨g1, hE⟩ := hE
  obtain ⟨g2, hE⟩ := hE
  refine sI rc210 rfl (Nat.le_of_ble_eq_true rfl) ?_
  refine k210 g1 (inRd rfl) g2 (fun c3 => ?_) (fun c3 => ?_)
  · replace hE := hE.1 c3
    refine s84 (by decide) ?_
    refine rqI_of ?_
    refine s67 (inRd rfl) (fun c4 => absurd c4 (by decide)) (fun _ => ?_)
    refine s4 (x := x2) rfl ?_
    refine s0 ?_
    refine s4 (x := x3) rfl ?_
    refine sI rc249 rfl (Nat.le_of_ble_eq_true rfl) ?_
    refine cI_of (ls := [.int (oI x2), .int (oI 0), .int (oI x3)]) rfl ?_
    refine xG gb249.1 ?_
    refine s4 (x := x2) rfl ?_
    refine sI rc250 rfl (Nat.le_of_ble_eq_true rfl) ?_
    refine cI_of (ls := [.int (oI x2)]) rfl ?_
    refine xG gb250 ?_
    refine s4 (x := x2) rfl ?_
    refine s0 ?_
    refine s0 ?_
    obtain ⟨g5, hE⟩ := hE
    refine sI rc210 rfl (Nat.le_of_ble_eq_true rfl) ?_
    refine k210 g5 (inRd rfl) (inRd rfl) (fun c6 => ?_) (fun c6 => ?_)
    · replace hE := hE.1 c6
      refine s84 (by decide) ?_
      refine rqI_of ?_
      refine s67 (inRd rfl) (fun c7 => absurd c7 (by decide)) (fun _ => ?_)
      refine s4 (x := 0) rfl ?_
      refine sI rc250 rfl (Nat.le_of_ble_eq_true rfl) ?_
      refine cI_of (ls := [.int (oI 0)]) rfl ?_
      refine xG gb250 ?_
      refine s4 (x := 0) rfl ?_
      refine s0 ?_
      refine s0 ?_
      refine sI rc210 rfl (Nat.le_of_ble_eq_true rfl) ?_
      refine k210 (inRd rfl) (inRd rfl) (inRd rfl) (fun c8 => ?_) (fun c8 => ?_)
      · replace hE := hE.1 c8
        refine s84 (by decide) ?_
        refine rqI_of ?_
        refine s67 (inRd rfl) (fun c9 => absurd c9 (by decide)) (fun _ => ?_)
        refine s4 (x := x3) rfl ?_
        refine sI rc230 rfl (Nat.le_of_ble_eq_true rfl) ?_
        refine cI_of (ls := [.int (oI x3)]) rfl ?_
        refine xG gb230 ?_
        refine s4 (x := x3) rfl ?_
        refine s0 ?_
        refine s0 ?_
        obtain ⟨g10, hE⟩ := hE
        refine sI rc210 rfl (Nat.le_of_ble_eq_true rfl) ?_
        refine k210 g10 (inRd rfl) (inRd rfl) (fun c11 => ?_) (fun c11 => ?_)
        · replace hE := hE.1 c11
          refine s84 (by decide) ?_
          refine rqI_of ?_
          refine s67 (inRd rfl) (fun c12 => absurd c12 (by decide)) (fun _ => ?_)
          refine s0 ?_
          refine s60 ?_
          refine xG gb249.2.2 ?_
          refine s84 (by decide) ?_
          refine rqI_of ?_
          refine s67 (inRd rfl) (fun c13 => absurd c13 (by decide)) (fun _ => ?_)
          refine s6 (p := 91) rfl ?_
          refine s4 (x := x1) rfl ?_
          refine s4 (x := x2) rfl ?_
          refine s4 (x := x3) rfl ?_
          obtain ⟨g14, hE⟩ := hE
          obtain ⟨g15, hE⟩ := hE
          obtain ⟨g16, hE⟩ := hE
          obtain ⟨g17, hE⟩ := hE
          obtain ⟨g18, hE⟩ := hE
          refine sI rc233 rfl (Nat.le_of_ble_eq_true rfl) ?_
          refine k233 hR g14 g15 g16 g17 g18 g10 (fun I19 q20 q21 => ?_)
          replace hE := hE I19 q20 q21
          refine s60 ?_
          refine xG gb257.2.2 ?_
          refine s80 ?_
          exact rqI_of hE
        · replace hE := hE.2 c11
          refine s84 (by decide) ?_
          refine rqI_of ?_
          refine s67 (inRd rfl) (fun _ => ?_) (fun c22 => absurd (by decide) c22)
          refine xG gb249.2.1 ?_
          refine s0 ?_
          refine s79 ?_
          refine xG gb249.2.2 ?_
          refine s84 (by decide) ?_
          refine rqI_of ?_
          refine s67 (inRd rfl) (fun _ => ?_) (fun c23 => absurd (by decide) c23)
          refine xG gb257.2.1 ?_
          refine s0 ?_
          refine s79 ?_
          refine xG gb257.2.2 ?_
          refine s80 ?_
          exact rqI_of hE
      · replace hE := hE.2 c8
        refine s84 (by decide) ?_
        refine rqI_of ?_
        refine s67 (inRd rfl) (fun _ => ?_) (fun c24 => absurd (by decide) c24)
        refine xG gb249.2.1 ?_
        refine s0 ?_
        refine s79 ?_
        refine xG gb249.2.2 ?_
        refine s84 (by decide) ?_
        refine rqI_of ?_
        refine s67 (inRd rfl) (fun _ => ?_) (fun c25 => absurd (by decide) c25)
        refine xG gb257.2.1 ?_
        refine s0 ?_
        refine s79 ?_
        refine xG gb257.2.2 ?_
        refine s80 ?_
        exact rqI_of hE
    · replace hE := hE.2 c6
      refine s84 (by decide) ?_
      refine rqI_of ?_
      refine s67 (inRd rfl) (fun _ => ?_) (fun c26 => absurd (by decide) c26)
      refine xG gb249.2.1 ?_
      refine s0 ?_
      refine s79 ?_
      refine xG gb249.2.2 ?_
      refine s84 (by decide) ?_
      refine rqI_of ?_
      refine s67 (inRd rfl) (fun _ => ?_) (fun c27 => absurd (by decide) c27)
      refine xG gb257.2.1 ?_
      refine s0 ?_
      refine s79 ?_
      refine xG gb257.2.2 ?_
      refine s80 ?_
      exact rqI_of hE
  · replace hE := hE.2 c3
    refine s84 (by decide) ?_
    refine rqI_of ?_
    refine s67 (inRd rfl) (fun _ => ?_) (fun c28 => absurd (by decide) c28)
    refine xG gb257.2.1 ?_
    refine s0 ?_
    refine s79 ?_
    refine xG gb257.2.2 ?_
    refine s80 ?_
    exact rqI_of hE
noncomputable def o257 (A : aS) (x1 : Int) (x2 : Int) (x3 : Int) : Int × aS := (if 0 ≤ x1 ∧ x1 ≤ A 91 1 - 1 then (if 0 ≤ x2 ∧ x2 ≤ 7 then (if 0 ≤ (0 : Int) ∧ (0 : Int) ≤ 7 then (if 0 ≤ x3 ∧ x3 ≤ 799 then ((stS A x1 x2 x3), A) else ((-1), A)) else ((-1), A)) else ((-1), A)) else ((-1), A))
theorem k257 {d L : Nat} {I : mI} {R : Nat → Nat → Option Nat} {S : List (Nat × Nat)} {A : aS} {K : Int32 → mM → Prop} {x1 : Int} {x2 : Int} {x3 : Int} (hR : RM I A) (hWfA : WfA A) (hWfC : WfC A) (hWfP : WfP A) (rx1 : inR x1) (rx2 : inR x2) (rx3 : inR x3) (hK : ∀ I1, FM I I1 → RM I1 (o257 A x1 x2 x3).2 → K (oI (o257 A x1 x2 x3).1) (bd L I1 R S)) : CallI (d + 29) 257 [.ref 91, .int (oI x1), .int (oI x2), .int (oI x3)] (bd L I R S) K := by
  have ho : o257 A x1 x2 x3 = (if 0 ≤ x1 ∧ x1 ≤ A 91 1 - 1 then (if 0 ≤ x2 ∧ x2 ≤ 7 then (if 0 ≤ (0 : Int) ∧ (0 : Int) ≤ 7 then (if 0 ≤ x3 ∧ x3 ≤ 799 then ((stS A x1 x2 x3), A) else ((-1), A)) else ((-1), A)) else ((-1), A)) else ((-1), A)) := rfl
  have w0 := hWfA.1
  have w1 := hWfA.2.1
  have w2 := hWfA.2.2.1
  have w3 : 0 ≤ A 91 3 ∧ A 91 3 ≤ 850 := hWfA.2.2.2.1
  have wN := hWfA.2.2.2.1
  have ty := today_year hWfA
  refine e257 (d := d) hR ?_
  refine ⟨by first | assumption | exact inRd rfl | omega | exact ⟨by omega, by omega⟩, ?_⟩
  refine ⟨by first | assumption | exact inRd rfl | omega | exact ⟨by omega, by omega⟩, ?_⟩
  refine ⟨fun c44 => ?_, fun c44 => ?_⟩
  · rw [if_pos c44] at ho
    refine ⟨by first | assumption | exact inRd rfl | omega | exact ⟨by omega, by omega⟩, ?_⟩
    refine ⟨fun c45 => ?_, fun c45 => ?_⟩
    · rw [if_pos c45] at ho
      refine ⟨fun c46 => ?_, fun c46 => ?_⟩
      · rw [if_pos c46] at ho
        refine ⟨by first | assumption | exact inRd rfl | omega | exact ⟨by omega, by omega⟩, ?_⟩
        refine ⟨fun c47 => ?_, fun c47 => ?_⟩
        · rw [if_pos c47] at ho
          refine ⟨by first | assumption | exact inRd rfl | omega | exact ⟨by omega, by omega⟩, ?_⟩
          refine ⟨by first | assumption | exact inRd rfl | omega | exact ⟨by omega, by omega⟩, ?_⟩
          refine ⟨by first | assumption | exact inRd rfl | omega | exact ⟨by omega, by omega⟩, ?_⟩
          refine ⟨by first | assumption | exact inRd rfl | omega | exact ⟨by omega, by omega⟩, ?_⟩
          refine ⟨by first | assumption | exact inRd rfl | omega | exact ⟨by omega, by omega⟩, ?_⟩
          intro I19 q48_0 q48_1
          rw [ho] at hK
          exact hK _ (FM.trans (FM.refl _) (Fr.FM q48_0 rfl)) (q48_1)
        · rw [if_neg c47] at ho
          rw [ho] at hK
          exact hK _ (FM.refl _) (hR)
      · rw [if_neg c46] at ho
        rw [ho] at hK
        exact hK _ (FM.refl _) (hR)
    · rw [if_neg c45] at ho
      rw [ho] at hK
      exact hK _ (FM.refl _) (hR)
  · rw [if_neg c44] at ho
    rw [ho] at hK
    exact hK _ (FM.refl _) (hR)
set_option maxRecDepth 4000 in
theorem e270 {d L : Nat} {I : Nat → Nat → Int32} {R : Nat → Nat → Option Nat} {S : List (Nat × Nat)} {K : Int32 → mM → Prop} {A : aS} (hR : RM I A) {x1 : Int} {x2 : Int} (hE : inR x1 ∧ (inR (A 91 2 - 1) ∧ (((0 ≤ x1 ∧ x1 ≤ A 91 2 - 1) → inR x2 ∧ (((0 ≤ x2 ∧ x2 ≤ 7) → WfC A ∧ ((0 ≤ x1 ∧ x1 < 6) ∧ ((0 ≤ x2 ∧ x2 ≤ 7) ∧ (∀ (I11 : mI), (Fr [151] [(91, 87)] I I11) → (RM I11 A) → K (oI (hoS A x1 x2)) (bd L I11 R S))))) ∧ (¬ (0 ≤ x2 ∧ x2 ≤ 7) → K (oI (-2)) (bd L I R S)))) ∧ (¬ (0 ≤ x1 ∧ x1 ≤ A 91 2 - 1) → K (oI (-2)) (bd L I R S))))) : CallI (d + 28) 270 [.ref 91, .int (oI x1), .int (oI x2)] (bd L I R S) K := by
  refine cI_of (ls := [.ref 91, .int (oI x1), .int (oI x2)]) rfl ?_
  refine xG gb270.1 ?_
  refine s6 (p := 91) rfl ?_
  refine s4 (x := x1) rfl ?_
  refine sI rc217 rfl (Nat.le_of_ble_eq_true rfl) ?_
  refine cI_of (ls := [.ref 91, .int (oI x1)]) rfl ?_
  refine xG gb217 ?_
  refine s4 (x := x1) rfl ?_
  refine s0 ?_
  refine s6 (p := 91) rfl ?_
  refine s50 (v := A 91 2) sh91 (by decide) (by decide) (rdM hR.1 rfl) ?_
  refine s0 ?_
  refine s17 ?_
  obtain ⟨g1, hE⟩ := hE
  obtain ⟨g2, hE⟩ := hE
  refine sI rc210 rfl (Nat.le_of_ble_eq_true rfl) ?_
  refine k210 g1 (inRd rfl) g2 (fun c3 => ?_) (fun c3 => ?_)
  · replace hE := hE.1 c3
    refine s84 (by decide) ?_
    refine rqI_of ?_
    refine s67 (inRd rfl) (fun c4 => absurd c4 (by decide)) (fun _ => ?_)
    refine s4 (x := x2) rfl ?_
    refine sI rc250 rfl (Nat.le_of_ble_eq_true rfl) ?_
    refine cI_of (ls := [.int (oI x2)]) rfl ?_
    refine xG gb250 ?_
    refine s4 (x := x2) rfl ?_
    refine s0 ?_
    refine s0 ?_
    obtain ⟨g5, hE⟩ := hE
    refine sI rc210 rfl (Nat.le_of_ble_eq_true rfl) ?_
    refine k210 g5 (inRd rfl) (inRd rfl) (fun c6 => ?_) (fun c6 => ?_)
    · replace hE := hE.1 c6
      refine s84 (by decide) ?_
      refine rqI_of ?_
      refine s67 (inRd rfl) (fun c7 => absurd c7 (by decide)) (fun _ => ?_)
      refine s6 (p := 91) rfl ?_
      refine s4 (x := x1) rfl ?_
      refine s4 (x := x2) rfl ?_
      obtain ⟨g8, hE⟩ := hE
      obtain ⟨g9, hE⟩ := hE
      obtain ⟨g10, hE⟩ := hE
      refine sI rc218 rfl (Nat.le_of_ble_eq_true rfl) ?_
      refine k218 hR g8 g9 g10 (fun I11 q12 q13 => ?_)
      replace hE := hE I11 q12 q13
      refine s60 ?_
      refine xG gb270.2.2 ?_
      refine s80 ?_
      exact rqI_of hE
    · replace hE := hE.2 c6
      refine s84 (by decide) ?_
      refine rqI_of ?_
      refine s67 (inRd rfl) (fun _ => ?_) (fun c14 => absurd (by decide) c14)
      refine xG gb270.2.1 ?_
      refine s0 ?_
      refine s79 ?_
      refine xG gb270.2.2 ?_
      refine s80 ?_
      exact rqI_of hE
  · replace hE := hE.2 c3
    refine s84 (by decide) ?_
    refine rqI_of ?_
    refine s67 (inRd rfl) (fun _ => ?_) (fun c15 => absurd (by decide) c15)
    refine xG gb270.2.1 ?_
    refine s0 ?_
    refine s79 ?_
    refine xG gb270.2.2 ?_
    refine s80 ?_
    exact rqI_of hE
noncomputable def o270 (A : aS) (x1 : Int) (x2 : Int) : Int × aS := (if 0 ≤ x1 ∧ x1 ≤ A 91 2 - 1 then (if 0 ≤ x2 ∧ x2 ≤ 7 then ((hoS A x1 x2), A) else ((-2), A)) else ((-2), A))
theorem k270 {d L : Nat} {I : mI} {R : Nat → Nat → Option Nat} {S : List (Nat × Nat)} {A : aS} {K : Int32 → mM → Prop} {x1 : Int} {x2 : Int} (hR : RM I A) (hWfA : WfA A) (hWfC : WfC A) (rx1 : inR x1) (rx2 : inR x2) (hK : ∀ I1, FM I I1 → RM I1 (o270 A x1 x2).2 → K (oI (o270 A x1 x2).1) (bd L I1 R S)) : CallI (d + 28) 270 [.ref 91, .int (oI x1), .int (oI x2)] (bd L I R S) K := by
  have ho : o270 A x1 x2 = (if 0 ≤ x1 ∧ x1 ≤ A 91 2 - 1 then (if 0 ≤ x2 ∧ x2 ≤ 7 then ((hoS A x1 x2), A) else ((-2), A)) else ((-2), A)) := rfl
  have w0 := hWfA.1
  have w1 := hWfA.2.1
  have w2 := hWfA.2.2.1
  have w3 : 0 ≤ A 91 3 ∧ A 91 3 ≤ 850 := hWfA.2.2.2.1
  have wN := hWfA.2.2.2.1
  have ty := today_year hWfA
  refine e270 (d := d) hR ?_
  refine ⟨by first | assumption | exact inRd rfl | omega | exact ⟨by omega, by omega⟩, ?_⟩
  refine ⟨by first | assumption | exact inRd rfl | omega | exact ⟨by omega, by omega⟩, ?_⟩
  refine ⟨fun c49 => ?_, fun c49 => ?_⟩
  · rw [if_pos c49] at ho
    refine ⟨by first | assumption | exact inRd rfl | omega | exact ⟨by omega, by omega⟩, ?_⟩
    refine ⟨fun c50 => ?_, fun c50 => ?_⟩
    · rw [if_pos c50] at ho
      refine ⟨by first | assumption | exact inRd rfl | omega | exact ⟨by omega, by omega⟩, ?_⟩
      refine ⟨by first | assumption | exact inRd rfl | omega | exact ⟨by omega, by omega⟩, ?_⟩
      refine ⟨by first | assumption | exact inRd rfl | omega | exact ⟨by omega, by omega⟩, ?_⟩
      intro I11 q51_0 q51_1
      rw [ho] at hK
      exact hK _ (FM.trans (FM.refl _) (Fr.FM q51_0 rfl)) (q51_1)
    · rw [if_neg c50] at ho
      rw [ho] at hK
      exact hK _ (FM.refl _) (hR)
  · rw [if_neg c49] at ho
    rw [ho] at hK
    exact hK _ (FM.refl _) (hR)
set_option maxRecDepth 4000 in
theorem e275 {d L : Nat} {I : Nat → Nat → Int32} {R : Nat → Nat → Option Nat} {S : List (Nat × Nat)} {K : Int32 → mM → Prop} {A : aS} (hR : RM I A) {x1 : Int} {x2 : Int} {x3 : Int} (hE : inR x1 ∧ (inR (A 91 1 - 1) ∧ (((0 ≤ x1 ∧ x1 ≤ A 91 1 - 1) → inR x2 ∧ (((0 ≤ x2 ∧ x2 ≤ 5) → inR x3 ∧ ((((-1) ≤ x3 ∧ x3 ≤ 100) → (0 ≤ (6 * x1) + x2 ∧ (6 * x1) + x2 < 240) ∧ (K (oI 1) (bd L (u2 I 97 ((6 * x1) + x2).toNat (oI x3)) R S))) ∧ (¬ ((-1) ≤ x3 ∧ x3 ≤ 100) → K (oI 0) (bd L I R S)))) ∧ (¬ (0 ≤ x2 ∧ x2 ≤ 5) → K (oI 0) (bd L I R S)))) ∧ (¬ (0 ≤ x1 ∧ x1 ≤ A 91 1 - 1) → K (oI 0) (bd L I R S))))) : CallI (d + 2) 275 [.ref 91, .int (oI x1), .int (oI x2), .int (oI x3)] (bd L I R S) K := by
  refine cI_of (ls := [.ref 91, .int (oI x1), .int (oI x2), .int (oI x3)]) rfl ?_
  refine xG gb275.1 ?_
  refine s6 (p := 91) rfl ?_
  refine s4 (x := x1) rfl ?_
  refine sI rc215 rfl (Nat.le_of_ble_eq_true rfl) ?_
  refine cI_of (ls := [.ref 91, .int (oI x1)]) rfl ?_
  refine xG gb215 ?_
  refine s4 (x := x1) rfl ?_
  refine s0 ?_
  refine s6 (p := 91) rfl ?_
  refine s50 (v := A 91 1) sh91 (by decide) (by decide) (rdM hR.1 rfl) ?_
  refine s0 ?_
  refine s17 ?_
  obtain ⟨g1, hE⟩ := hE
  obtain ⟨g2, hE⟩ := hE
  refine sI rc210 rfl (Nat.le_of_ble_eq_true rfl) ?_
  refine k210 g1 (inRd rfl) g2 (fun c3 => ?_) (fun c3 => ?_)
  · replace hE := hE.1 c3
    refine s84 (by decide) ?_
    refine rqI_of ?_
    refine s67 (inRd rfl) (fun c4 => absurd c4 (by decide)) (fun _ => ?_)
    refine s4 (x := x2) rfl ?_
    refine s0 ?_
    refine s0 ?_
    obtain ⟨g5, hE⟩ := hE
    refine sI rc210 rfl (Nat.le_of_ble_eq_true rfl) ?_
    refine k210 g5 (inRd rfl) (inRd rfl) (fun c6 => ?_) (fun c6 => ?_)
    · replace hE := hE.1 c6
      refine s67 (inRd rfl) (fun c7 => absurd c7 (by decide)) (fun _ => ?_)
      refine s4 (x := x3) rfl ?_
      refine s0 ?_
      refine s0 ?_
      obtain ⟨g8, hE⟩ := hE
      refine sI rc210 rfl (Nat.le_of_ble_eq_true rfl) ?_
      refine k210 g8 (inRd rfl) (inRd rfl) (fun c9 => ?_) (fun c9 => ?_)
      · replace hE := hE.1 c9
        refine s68 (inRd rfl) (fun c10 => absurd c10 (by decide)) (fun _ => ?_)
        refine xG gb275.2.2 ?_
        refine s6 (p := 91) rfl ?_
        refine s51 sh91 (by decide) (by decide) rf91_10 ?_
        refine s0 ?_
        refine s4 (x := x1) rfl ?_
        refine s18 ?_
        refine s4 (x := x2) rfl ?_
        refine s16 ?_
        refine s4 (x := x3) rfl ?_
        obtain ⟨g11, hE⟩ := hE
        refine s44 sh97 (by decide) g11 rfl ?_
        refine s0 ?_
        refine s84 (by decide) ?_
        exact rqI_of hE
      · replace hE := hE.2 c9
        refine s68 (inRd rfl) (fun _ => ?_) (fun c12 => absurd (by decide) c12)
        refine s79 ?_
        refine xG gb275.2.1 ?_
        refine s0 ?_
        refine s84 (by decide) ?_
        exact rqI_of hE
    · replace hE := hE.2 c6
      refine s67 (inRd rfl) (fun _ => ?_) (fun c13 => absurd (by decide) c13)
      refine xG gb275.2.1 ?_
      refine s0 ?_
      refine s84 (by decide) ?_
      exact rqI_of hE
  · replace hE := hE.2 c3
    refine s84 (by decide) ?_
    refine rqI_of ?_
    refine s67 (inRd rfl) (fun _ => ?_) (fun c14 => absurd (by decide) c14)
    refine xG gb275.2.1 ?_
    refine s0 ?_
    refine s84 (by decide) ?_
    exact rqI_of hE
noncomputable def o275 (A : aS) (x1 : Int) (x2 : Int) (x3 : Int) : Int × aS := (if 0 ≤ x1 ∧ x1 ≤ A 91 1 - 1 then (if 0 ≤ x2 ∧ x2 ≤ 5 then (if (-1) ≤ x3 ∧ x3 ≤ 100 then (1, (u2 A 97 ((6 * x1) + x2).toNat (x3))) else (0, A)) else (0, A)) else (0, A))
theorem k275 {d L : Nat} {I : mI} {R : Nat → Nat → Option Nat} {S : List (Nat × Nat)} {A : aS} {K : Int32 → mM → Prop} {x1 : Int} {x2 : Int} {x3 : Int} (hR : RM I A) (hWfA : WfA A) (rx1 : inR x1) (rx2 : inR x2) (rx3 : inR x3) (hK : ∀ I1, FM I I1 → RM I1 (o275 A x1 x2 x3).2 → K (oI (o275 A x1 x2 x3).1) (bd L I1 R S)) : CallI (d + 2) 275 [.ref 91, .int (oI x1), .int (oI x2), .int (oI x3)] (bd L I R S) K := by
  have ho : o275 A x1 x2 x3 = (if 0 ≤ x1 ∧ x1 ≤ A 91 1 - 1 then (if 0 ≤ x2 ∧ x2 ≤ 5 then (if (-1) ≤ x3 ∧ x3 ≤ 100 then (1, (u2 A 97 ((6 * x1) + x2).toNat (x3))) else (0, A)) else (0, A)) else (0, A)) := rfl
  have w0 := hWfA.1
  have w1 := hWfA.2.1
  have w2 := hWfA.2.2.1
  have w3 : 0 ≤ A 91 3 ∧ A 91 3 ≤ 850 := hWfA.2.2.2.1
  have wN := hWfA.2.2.2.1
  have ty := today_year hWfA
  refine e275 (d := d) hR ?_
  refine ⟨by first | assumption | exact inRd rfl | omega | exact ⟨by omega, by omega⟩, ?_⟩
  refine ⟨by first | assumption | exact inRd rfl | omega | exact ⟨by omega, by omega⟩, ?_⟩
  refine ⟨fun c52 => ?_, fun c52 => ?_⟩
  · rw [if_pos c52] at ho
    refine ⟨by first | assumption | exact inRd rfl | omega | exact ⟨by omega, by omega⟩, ?_⟩
    refine ⟨fun c53 => ?_, fun c53 => ?_⟩
    · rw [if_pos c53] at ho
      refine ⟨by first | assumption | exact inRd rfl | omega | exact ⟨by omega, by omega⟩, ?_⟩
      refine ⟨fun c54 => ?_, fun c54 => ?_⟩
      · rw [if_pos c54] at ho
        refine ⟨by first | assumption | exact inRd rfl | omega | exact ⟨by omega, by omega⟩, ?_⟩
        rw [ho] at hK
        exact hK _ (FM.wr (FM.refl _) (by decide)) (RM.set (hR) 97 ((6 * x1) + x2).toNat (by first | assumption | exact inRd rfl | omega | exact ⟨by omega, by omega⟩) rfl)
      · rw [if_neg c54] at ho
        rw [ho] at hK
        exact hK _ (FM.refl _) (hR)
    · rw [if_neg c53] at ho
      rw [ho] at hK
      exact hK _ (FM.refl _) (hR)
  · rw [if_neg c52] at ho
    rw [ho] at hK
    exact hK _ (FM.refl _) (hR)
set_option maxRecDepth 4000 in
theorem e283 {d L : Nat} {I : Nat → Nat → Int32} {R : Nat → Nat → Option Nat} {S : List (Nat × Nat)} {K : Int32 → mM → Prop} {A : aS} (hR : RM I A) {x1 : Int} {x2 : Int} (hE : inR x1 ∧ (((0 ≤ x1 ∧ x1 ≤ 60) → inR x2 ∧ (((0 ≤ x2 ∧ x2 ≤ 60) → ((A 91 54 = 10) → K (oI (-1)) (bd L I R S)) ∧ (¬ (A 91 54 = 10) → (0 ≤ A 91 54 ∧ A 91 54 < 10) ∧ (K (oI (A 91 54 + 1 - 1)) (bd L (u2 (u2 (u2 I 131 (A 91 54).toNat (oI x1)) 132 (A 91 54).toNat (oI x2)) 91 54 (oI (A 91 54 + 1))) R S)))) ∧ (¬ (0 ≤ x2 ∧ x2 ≤ 60) → K (oI (-1)) (bd L I R S)))) ∧ (¬ (0 ≤ x1 ∧ x1 ≤ 60) → K (oI (-1)) (bd L I R S)))) : CallI (d + 2) 283 [.ref 91, .int (oI x1), .int (oI x2)] (bd L I R S) K := by
  refine cI_of (ls := [.ref 91, .int (oI x1), .int (oI x2)]) rfl ?_
  refine xG gb283.1 ?_
  refine s4 (x := x1) rfl ?_
  refine s4 (x := x2) rfl ?_
  refine sI rc212 rfl (Nat.le_of_ble_eq_true rfl) ?_
  refine cI_of (ls := [.int (oI x1), .int (oI x2)]) rfl ?_
  refine xG gb212.1 ?_
  refine s4 (x := x1) rfl ?_
  refine s0 ?_
  refine s0 ?_
  obtain ⟨g1, hE⟩ := hE
  refine sI rc210 rfl (Nat.le_of_ble_eq_true rfl) ?_
  refine k210 g1 (inRd rfl) (inRd rfl) (fun c2 => ?_) (fun c2 => ?_)
  · replace hE := hE.1 c2
    refine s67 (inRd rfl) (fun c3 => absurd c3 (by decide)) (fun _ => ?_)
    refine s4 (x := x2) rfl ?_
    refine s0 ?_
    refine s0 ?_
    obtain ⟨g4, hE⟩ := hE
    refine sI rc210 rfl (Nat.le_of_ble_eq_true rfl) ?_
    refine k210 g4 (inRd rfl) (inRd rfl) (fun c5 => ?_) (fun c5 => ?_)
    · replace hE := hE.1 c5
      refine s67 (inRd rfl) (fun c6 => absurd c6 (by decide)) (fun _ => ?_)
      refine s0 ?_
      refine s60 ?_
      refine xG gb212.2.2 ?_
      refine s84 (by decide) ?_
      refine rqI_of ?_
      refine s67 (inRd rfl) (fun c7 => absurd c7 (by decide)) (fun _ => ?_)
      refine s6 (p := 91) rfl ?_
      refine s50 (v := A 91 54) sh91 (by decide) (by decide) (rdM hR.1 rfl) ?_
      refine s0 ?_
      refine s62 (inA hR.1 (a := 91) (k := 54) rfl) (inRd rfl) (fun c8 => ?_) (fun c8 => ?_)
      · replace hE := hE.1 c8
        refine s79 ?_
        refine xG gb283.2.1 ?_
        refine s0 ?_
        refine s80 ?_
        exact rqI_of hE
      · replace hE := hE.2 c8
        refine xG gb283.2.2 ?_
        refine s6 (p := 91) rfl ?_
        refine s51 sh91 (by decide) (by decide) rf91_55 ?_
        refine s6 (p := 91) rfl ?_
        refine s50 (v := A 91 54) sh91 (by decide) (by decide) (rdM hR.1 rfl) ?_
        refine s4 (x := x1) rfl ?_
        obtain ⟨g9, hE⟩ := hE
        refine s44 sh131 (by decide) g9 rfl ?_
        refine s6 (p := 91) rfl ?_
        refine s51 sh91 (by decide) (by decide) rf91_56 ?_
        refine s6 (p := 91) rfl ?_
        refine s50 (v := A 91 54) sh91 (by decide) (by decide) ((v2_ne (by decide)).trans (rdM hR.1 rfl)) ?_
        refine s4 (x := x2) rfl ?_
        refine s44 sh132 (by decide) g9 rfl ?_
        refine s6 (p := 91) rfl ?_
        refine s13r ?_
        refine s50 (v := A 91 54) sh91 (by decide) (by decide) ((v2_ne (by decide)).trans ((v2_ne (by decide)).trans (rdM hR.1 rfl))) ?_
        refine s0 ?_
        refine s16 ?_
        refine s52 sh91 (by decide) (by decide) ?_
        refine s6 (p := 91) rfl ?_
        refine s50 (v := A 91 54 + 1) sh91 (by decide) (by decide) (v2_eq) ?_
        refine s0 ?_
        refine s17 ?_
        refine s80 ?_
        exact rqI_of hE
    · replace hE := hE.2 c5
      refine s67 (inRd rfl) (fun _ => ?_) (fun c10 => absurd (by decide) c10)
      refine xG gb212.2.1 ?_
      refine s0 ?_
      refine s79 ?_
      refine xG gb212.2.2 ?_
      refine s84 (by decide) ?_
      refine rqI_of ?_
      refine s67 (inRd rfl) (fun _ => ?_) (fun c11 => absurd (by decide) c11)
      refine xG gb283.2.1 ?_
      refine s0 ?_
      refine s80 ?_
      exact rqI_of hE
  · replace hE := hE.2 c2
    refine s67 (inRd rfl) (fun _ => ?_) (fun c12 => absurd (by decide) c12)
    refine xG gb212.2.1 ?_
    refine s0 ?_
    refine s79 ?_
    refine xG gb212.2.2 ?_
    refine s84 (by decide) ?_
    refine rqI_of ?_
    refine s67 (inRd rfl) (fun _ => ?_) (fun c13 => absurd (by decide) c13)
    refine xG gb283.2.1 ?_
    refine s0 ?_
    refine s80 ?_
    exact rqI_of hE
noncomputable def o283 (A : aS) (x1 : Int) (x2 : Int) : Int × aS := (if 0 ≤ x1 ∧ x1 ≤ 60 then (if 0 ≤ x2 ∧ x2 ≤ 60 then (if A 91 54 = 10 then ((-1), A) else ((A 91 54 + 1 - 1), (u2 (u2 (u2 A 131 (A 91 54).toNat (x1)) 132 (A 91 54).toNat (x2)) 91 54 ((A 91 54 + 1))))) else ((-1), A)) else ((-1), A))
theorem k283 {d L : Nat} {I : mI} {R : Nat → Nat → Option Nat} {S : List (Nat × Nat)} {A : aS} {K : Int32 → mM → Prop} {x1 : Int} {x2 : Int} (hR : RM I A) (hWfX : WfX A) (rx1 : inR x1) (rx2 : inR x2) (hK : ∀ I1, FM I I1 → RM I1 (o283 A x1 x2).2 → K (oI (o283 A x1 x2).1) (bd L I1 R S)) : CallI (d + 2) 283 [.ref 91, .int (oI x1), .int (oI x2)] (bd L I R S) K := by
  have ho : o283 A x1 x2 = (if 0 ≤ x1 ∧ x1 ≤ 60 then (if 0 ≤ x2 ∧ x2 ≤ 60 then (if A 91 54 = 10 then ((-1), A) else ((A 91 54 + 1 - 1), (u2 (u2 (u2 A 131 (A 91 54).toNat (x1)) 132 (A 91 54).toNat (x2)) 91 54 ((A 91 54 + 1))))) else ((-1), A)) else ((-1), A)) := rfl
  have wx := hWfX.1
  refine e283 (d := d) hR ?_
  refine ⟨by first | assumption | exact inRd rfl | omega | exact ⟨by omega, by omega⟩, ?_⟩
  refine ⟨fun c55 => ?_, fun c55 => ?_⟩
  · rw [if_pos c55] at ho
    refine ⟨by first | assumption | exact inRd rfl | omega | exact ⟨by omega, by omega⟩, ?_⟩
    refine ⟨fun c56 => ?_, fun c56 => ?_⟩
    · rw [if_pos c56] at ho
      refine ⟨fun c57 => ?_, fun c57 => ?_⟩
      · rw [if_pos c57] at ho
        rw [ho] at hK
        exact hK _ (FM.refl _) (hR)
      · rw [if_neg c57] at ho
        refine ⟨by first | assumption | exact inRd rfl | omega | exact ⟨by omega, by omega⟩, ?_⟩
        rw [ho] at hK
        exact hK _ (FM.wr (FM.wr (FM.wr (FM.refl _) (by decide)) (by decide)) (by decide)) (RM.set (RM.set (RM.set (hR) 131 (A 91 54).toNat (by first | assumption | exact inRd rfl | omega | exact ⟨by omega, by omega⟩) rfl) 132 (A 91 54).toNat (by first | assumption | exact inRd rfl | omega | exact ⟨by omega, by omega⟩) rfl) 91 54 (by first | assumption | exact inRd rfl | omega | exact ⟨by omega, by omega⟩) rfl)
    · rw [if_neg c56] at ho
      rw [ho] at hK
      exact hK _ (FM.refl _) (hR)
  · rw [if_neg c55] at ho
    rw [ho] at hK
    exact hK _ (FM.refl _) (hR)
set_option maxRecDepth 4000 in
theorem e287 {d L : Nat} {I : Nat → Nat → Int32} {R : Nat → Nat → Option Nat} {S : List (Nat × Nat)} {K : Int32 → mM → Prop} {A : aS} (hR : RM I A) {x1 : Int} (hE : inR x1 ∧ (((0 ≤ x1 ∧ x1 ≤ 3) → ((A 91 57 = 0) → K (oI (-1)) (bd L I R S)) ∧ (¬ (A 91 57 = 0) → ((A 91 58 = 10) → K (oI (-1)) (bd L I R S)) ∧ (¬ (A 91 58 = 10) → (0 ≤ A 91 58 ∧ A 91 58 < 10) ∧ (K (oI (A 91 58 + 1 - 1)) (bd L (u2 (u2 I 133 (A 91 58).toNat (oI x1)) 91 58 (oI (A 91 58 + 1))) R S))))) ∧ (¬ (0 ≤ x1 ∧ x1 ≤ 3) → K (oI (-1)) (bd L I R S)))) : CallI (d + 1) 287 [.ref 91, .int (oI x1)] (bd L I R S) K := by
  refine cI_of (ls := [.ref 91, .int (oI x1)]) rfl ?_
  refine xG gb287.1 ?_
  refine s4 (x := x1) rfl ?_
  refine s0 ?_
  refine s0 ?_
  obtain ⟨g1, hE⟩ := hE
  refine sI rc210 rfl (Nat.le_of_ble_eq_true rfl) ?_
  refine k210 g1 (inRd rfl) (inRd rfl) (fun c2 => ?_) (fun c2 => ?_)
  · replace hE := hE.1 c2
    refine s67 (inRd rfl) (fun c3 => absurd c3 (by decide)) (fun _ => ?_)
    refine s6 (p := 91) rfl ?_
    refine s50 (v := A 91 57) sh91 (by decide) (by decide) (rdM hR.1 rfl) ?_
    refine s67 (inA hR.1 (a := 91) (k := 57) rfl) (fun c4 => ?_) (fun c4 => ?_)
    · replace hE := hE.1 c4
      refine xG gb287.2.1 ?_
      refine s0 ?_
      refine s80 ?_
      exact rqI_of hE
    · replace hE := hE.2 c4
      refine s6 (p := 91) rfl ?_
      refine s50 (v := A 91 58) sh91 (by decide) (by decide) (rdM hR.1 rfl) ?_
      refine s0 ?_
      refine s62 (inA hR.1 (a := 91) (k := 58) rfl) (inRd rfl) (fun c5 => ?_) (fun c5 => ?_)
      · replace hE := hE.1 c5
        refine s79 ?_
        refine xG gb287.2.1 ?_
        refine s0 ?_
        refine s80 ?_
        exact rqI_of hE
      · replace hE := hE.2 c5
        refine xG gb287.2.2 ?_
        refine s6 (p := 91) rfl ?_
        refine s51 sh91 (by decide) (by decide) rf91_60 ?_
        refine s6 (p := 91) rfl ?_
        refine s50 (v := A 91 58) sh91 (by decide) (by decide) (rdM hR.1 rfl) ?_
        refine s4 (x := x1) rfl ?_
        obtain ⟨g6, hE⟩ := hE
        refine s44 sh133 (by decide) g6 rfl ?_
        refine s6 (p := 91) rfl ?_
        refine s13r ?_
        refine s50 (v := A 91 58) sh91 (by decide) (by decide) ((v2_ne (by decide)).trans (rdM hR.1 rfl)) ?_
        refine s0 ?_
        refine s16 ?_
        refine s52 sh91 (by decide) (by decide) ?_
        refine s6 (p := 91) rfl ?_
        refine s50 (v := A 91 58 + 1) sh91 (by decide) (by decide) (v2_eq) ?_
        refine s0 ?_
        refine s17 ?_
        refine s80 ?_
        exact rqI_of hE
  · replace hE := hE.2 c2
    refine s67 (inRd rfl) (fun _ => ?_) (fun c7 => absurd (by decide) c7)
    refine xG gb287.2.1 ?_
    refine s0 ?_
    refine s80 ?_
    exact rqI_of hE
noncomputable def o287 (A : aS) (x1 : Int) : Int × aS := (if 0 ≤ x1 ∧ x1 ≤ 3 then (if A 91 57 = 0 then ((-1), A) else (if A 91 58 = 10 then ((-1), A) else ((A 91 58 + 1 - 1), (u2 (u2 A 133 (A 91 58).toNat (x1)) 91 58 ((A 91 58 + 1)))))) else ((-1), A))
theorem k287 {d L : Nat} {I : mI} {R : Nat → Nat → Option Nat} {S : List (Nat × Nat)} {A : aS} {K : Int32 → mM → Prop} {x1 : Int} (hR : RM I A) (hWfV : WfV A) (rx1 : inR x1) (hK : ∀ I1, FM I I1 → RM I1 (o287 A x1).2 → K (oI (o287 A x1).1) (bd L I1 R S)) : CallI (d + 1) 287 [.ref 91, .int (oI x1)] (bd L I R S) K := by
  have ho : o287 A x1 = (if 0 ≤ x1 ∧ x1 ≤ 3 then (if A 91 57 = 0 then ((-1), A) else (if A 91 58 = 10 then ((-1), A) else ((A 91 58 + 1 - 1), (u2 (u2 A 133 (A 91 58).toNat (x1)) 91 58 ((A 91 58 + 1)))))) else ((-1), A)) := rfl
  have wv := hWfV.1
  have wv1 := hWfV.2.1
  have wv2 := hWfV.2.2.1
  refine e287 (d := d) hR ?_
  refine ⟨by first | assumption | exact inRd rfl | omega | exact ⟨by omega, by omega⟩, ?_⟩
  refine ⟨fun c58 => ?_, fun c58 => ?_⟩
  · rw [if_pos c58] at ho
    refine ⟨fun c59 => ?_, fun c59 => ?_⟩
    · rw [if_pos c59] at ho
      rw [ho] at hK
      exact hK _ (FM.refl _) (hR)
    · rw [if_neg c59] at ho
      refine ⟨fun c60 => ?_, fun c60 => ?_⟩
      · rw [if_pos c60] at ho
        rw [ho] at hK
        exact hK _ (FM.refl _) (hR)
      · rw [if_neg c60] at ho
        refine ⟨by first | assumption | exact inRd rfl | omega | exact ⟨by omega, by omega⟩, ?_⟩
        rw [ho] at hK
        exact hK _ (FM.wr (FM.wr (FM.refl _) (by decide)) (by decide)) (RM.set (RM.set (hR) 133 (A 91 58).toNat (by first | assumption | exact inRd rfl | omega | exact ⟨by omega, by omega⟩) rfl) 91 58 (by first | assumption | exact inRd rfl | omega | exact ⟨by omega, by omega⟩) rfl)
  · rw [if_neg c58] at ho
    rw [ho] at hK
    exact hK _ (FM.refl _) (hR)
set_option maxRecDepth 4000 in
theorem e288 {d L : Nat} {I : Nat → Nat → Int32} {R : Nat → Nat → Option Nat} {S : List (Nat × Nat)} {K : Int32 → mM → Prop} {A : aS} (hR : RM I A)  (hE : ((A 91 57 = 0) → K (oI (-1)) (bd L I R S)) ∧ (¬ (A 91 57 = 0) → ((A 91 59 = 60) → K (oI (-1)) (bd L I R S)) ∧ (¬ (A 91 59 = 60) → K (oI (A 91 59 + 1 - 1)) (bd L (u2 I 91 59 (oI (A 91 59 + 1))) R S)))) : CallI d 288 [.ref 91] (bd L I R S) K := by
  refine cI_of (ls := [.ref 91]) rfl ?_
  refine xG gb288.1 ?_
  refine s6 (p := 91) rfl ?_
  refine s50 (v := A 91 57) sh91 (by decide) (by decide) (rdM hR.1 rfl) ?_
  refine s67 (inA hR.1 (a := 91) (k := 57) rfl) (fun c1 => ?_) (fun c1 => ?_)
  · replace hE := hE.1 c1
    refine xG gb288.2.1 ?_
    refine s0 ?_
    refine s80 ?_
    exact rqI_of hE
  · replace hE := hE.2 c1
    refine s6 (p := 91) rfl ?_
    refine s50 (v := A 91 59) sh91 (by decide) (by decide) (rdM hR.1 rfl) ?_
    refine s0 ?_
    refine s62 (inA hR.1 (a := 91) (k := 59) rfl) (inRd rfl) (fun c2 => ?_) (fun c2 => ?_)
    · replace hE := hE.1 c2
      refine s79 ?_
      refine xG gb288.2.1 ?_
      refine s0 ?_
      refine s80 ?_
      exact rqI_of hE
    · replace hE := hE.2 c2
      refine xG gb288.2.2 ?_
      refine s6 (p := 91) rfl ?_
      refine s13r ?_
      refine s50 (v := A 91 59) sh91 (by decide) (by decide) (rdM hR.1 rfl) ?_
      refine s0 ?_
      refine s16 ?_
      refine s52 sh91 (by decide) (by decide) ?_
      refine s6 (p := 91) rfl ?_
      refine s50 (v := A 91 59 + 1) sh91 (by decide) (by decide) (v2_eq) ?_
      refine s0 ?_
      refine s17 ?_
      refine s80 ?_
      exact rqI_of hE
noncomputable def o288 (A : aS) : Int × aS := (if A 91 57 = 0 then ((-1), A) else (if A 91 59 = 60 then ((-1), A) else ((A 91 59 + 1 - 1), (u2 A 91 59 ((A 91 59 + 1))))))
theorem k288 {d L : Nat} {I : mI} {R : Nat → Nat → Option Nat} {S : List (Nat × Nat)} {A : aS} {K : Int32 → mM → Prop} (hR : RM I A) (hWfV : WfV A) (hK : ∀ I1, FM I I1 → RM I1 (o288 A).2 → K (oI (o288 A).1) (bd L I1 R S)) : CallI (d + 0) 288 [.ref 91] (bd L I R S) K := by
  have ho : o288 A = (if A 91 57 = 0 then ((-1), A) else (if A 91 59 = 60 then ((-1), A) else ((A 91 59 + 1 - 1), (u2 A 91 59 ((A 91 59 + 1)))))) := rfl
  have wv := hWfV.1
  have wv1 := hWfV.2.1
  have wv2 := hWfV.2.2.1
  refine e288 (d := d) hR ?_
  refine ⟨fun c61 => ?_, fun c61 => ?_⟩
  · rw [if_pos c61] at ho
    rw [ho] at hK
    exact hK _ (FM.refl _) (hR)
  · rw [if_neg c61] at ho
    refine ⟨fun c62 => ?_, fun c62 => ?_⟩
    · rw [if_pos c62] at ho
      rw [ho] at hK
      exact hK _ (FM.refl _) (hR)
    · rw [if_neg c62] at ho
      rw [ho] at hK
      exact hK _ (FM.wr (FM.refl _) (by decide)) (RM.set (hR) 91 59 (by first | assumption | exact inRd rfl | omega | exact ⟨by omega, by omega⟩) rfl)
set_option maxRecDepth 4000 in
theorem e295 {d L : Nat} {I : Nat → Nat → Int32} {R : Nat → Nat → Option Nat} {S : List (Nat × Nat)} {K : Int32 → mM → Prop} {A : aS} (hR : RM I A) {x1 : Int} (hE : inR x1 ∧ (((1 ≤ x1 ∧ x1 ≤ 500) → ((A 91 63 = 40) → K (oI (-1)) (bd L I R S)) ∧ (¬ (A 91 63 = 40) → (0 ≤ A 91 63 ∧ A 91 63 < 40) ∧ (K (oI (A 91 63 + 1 - 1)) (bd L (u2 (u2 I 136 (A 91 63).toNat (oI x1)) 91 63 (oI (A 91 63 + 1))) R S)))) ∧ (¬ (1 ≤ x1 ∧ x1 ≤ 500) → K (oI (-1)) (bd L I R S)))) : CallI (d + 1) 295 [.ref 91, .int (oI x1)] (bd L I R S) K := by
  refine cI_of (ls := [.ref 91, .int (oI x1)]) rfl ?_
  refine xG gb295.1 ?_
  refine s4 (x := x1) rfl ?_
  refine s0 ?_
  refine s0 ?_
  obtain ⟨g1, hE⟩ := hE
  refine sI rc210 rfl (Nat.le_of_ble_eq_true rfl) ?_
  refine k210 g1 (inRd rfl) (inRd rfl) (fun c2 => ?_) (fun c2 => ?_)
  · replace hE := hE.1 c2
    refine s67 (inRd rfl) (fun c3 => absurd c3 (by decide)) (fun _ => ?_)
    refine s6 (p := 91) rfl ?_
    refine s50 (v := A 91 63) sh91 (by decide) (by decide) (rdM hR.1 rfl) ?_
    refine s0 ?_
    refine s62 (inA hR.1 (a := 91) (k := 63) rfl) (inRd rfl) (fun c4 => ?_) (fun c4 => ?_)
    · replace hE := hE.1 c4
      refine s79 ?_
      refine xG gb295.2.1 ?_
      refine s0 ?_
      refine s80 ?_
      exact rqI_of hE
    · replace hE := hE.2 c4
      refine xG gb295.2.2 ?_
      refine s6 (p := 91) rfl ?_
      refine s51 sh91 (by decide) (by decide) rf91_64 ?_
      refine s6 (p := 91) rfl ?_
      refine s50 (v := A 91 63) sh91 (by decide) (by decide) (rdM hR.1 rfl) ?_
      refine s4 (x := x1) rfl ?_
      obtain ⟨g5, hE⟩ := hE
      refine s44 sh136 (by decide) g5 rfl ?_
      refine s6 (p := 91) rfl ?_
      refine s13r ?_
      refine s50 (v := A 91 63) sh91 (by decide) (by decide) ((v2_ne (by decide)).trans (rdM hR.1 rfl)) ?_
      refine s0 ?_
      refine s16 ?_
      refine s52 sh91 (by decide) (by decide) ?_
      refine s6 (p := 91) rfl ?_
      refine s50 (v := A 91 63 + 1) sh91 (by decide) (by decide) (v2_eq) ?_
      refine s0 ?_
      refine s17 ?_
      refine s80 ?_
      exact rqI_of hE
  · replace hE := hE.2 c2
    refine s67 (inRd rfl) (fun _ => ?_) (fun c6 => absurd (by decide) c6)
    refine xG gb295.2.1 ?_
    refine s0 ?_
    refine s80 ?_
    exact rqI_of hE
noncomputable def o295 (A : aS) (x1 : Int) : Int × aS := (if 1 ≤ x1 ∧ x1 ≤ 500 then (if A 91 63 = 40 then ((-1), A) else ((A 91 63 + 1 - 1), (u2 (u2 A 136 (A 91 63).toNat (x1)) 91 63 ((A 91 63 + 1))))) else ((-1), A))
theorem k295 {d L : Nat} {I : mI} {R : Nat → Nat → Option Nat} {S : List (Nat × Nat)} {A : aS} {K : Int32 → mM → Prop} {x1 : Int} (hR : RM I A) (hWfT : WfT A) (rx1 : inR x1) (hK : ∀ I1, FM I I1 → RM I1 (o295 A x1).2 → K (oI (o295 A x1).1) (bd L I1 R S)) : CallI (d + 1) 295 [.ref 91, .int (oI x1)] (bd L I R S) K := by
  have ho : o295 A x1 = (if 1 ≤ x1 ∧ x1 ≤ 500 then (if A 91 63 = 40 then ((-1), A) else ((A 91 63 + 1 - 1), (u2 (u2 A 136 (A 91 63).toNat (x1)) 91 63 ((A 91 63 + 1))))) else ((-1), A)) := rfl
  have wt := hWfT.2.2.1
  refine e295 (d := d) hR ?_
  refine ⟨by first | assumption | exact inRd rfl | omega | exact ⟨by omega, by omega⟩, ?_⟩
  refine ⟨fun c63 => ?_, fun c63 => ?_⟩
  · rw [if_pos c63] at ho
    refine ⟨fun c64 => ?_, fun c64 => ?_⟩
    · rw [if_pos c64] at ho
      rw [ho] at hK
      exact hK _ (FM.refl _) (hR)
    · rw [if_neg c64] at ho
      refine ⟨by first | assumption | exact inRd rfl | omega | exact ⟨by omega, by omega⟩, ?_⟩
      rw [ho] at hK
      exact hK _ (FM.wr (FM.wr (FM.refl _) (by decide)) (by decide)) (RM.set (RM.set (hR) 136 (A 91 63).toNat (by first | assumption | exact inRd rfl | omega | exact ⟨by omega, by omega⟩) rfl) 91 63 (by first | assumption | exact inRd rfl | omega | exact ⟨by omega, by omega⟩) rfl)
  · rw [if_neg c63] at ho
    rw [ho] at hK
    exact hK _ (FM.refl _) (hR)
set_option maxRecDepth 4000 in
theorem e330 {d L : Nat} {I : Nat → Nat → Int32} {R : Nat → Nat → Option Nat} {S : List (Nat × Nat)} {K : Int32 → mM → Prop} {A : aS} (hR : RM I A) {x1 : Int} (hE : inR x1 ∧ ((x1 = 0 → K (oI (A 91 0)) (bd L I R S)) ∧ (x1 = 1 → K (oI (A 91 1)) (bd L I R S)) ∧ (x1 = 2 → K (oI (A 91 2)) (bd L I R S)) ∧ (x1 = 3 → K (oI (A 91 3)) (bd L I R S)) ∧ (x1 = 4 → K (oI (A 91 4)) (bd L I R S)) ∧ (x1 = 5 → K (oI (A 91 65)) (bd L I R S)) ∧ (x1 = 6 → K (oI (A 91 40)) (bd L I R S)) ∧ (x1 = 7 → K (oI (A 91 54)) (bd L I R S)) ∧ (x1 = 8 → K (oI (A 91 63)) (bd L I R S)) ∧ (x1 = 9 → K (oI (A 91 58)) (bd L I R S)) ∧ (x1 = 10 → K (oI (A 91 59)) (bd L I R S)) ∧ (x1 = 11 → K (oI (A 91 57)) (bd L I R S)) ∧ (x1 = 12 → K (oI (A 91 67)) (bd L I R S)) ∧ (¬ x1 = 0 ∧ ¬ x1 = 1 ∧ ¬ x1 = 2 ∧ ¬ x1 = 3 ∧ ¬ x1 = 4 ∧ ¬ x1 = 5 ∧ ¬ x1 = 6 ∧ ¬ x1 = 7 ∧ ¬ x1 = 8 ∧ ¬ x1 = 9 ∧ ¬ x1 = 10 ∧ ¬ x1 = 11 ∧ ¬ x1 = 12 → K (oI (-1)) (bd L I R S)))) : CallI d 330 [.ref 91, .int (oI x1)] (bd L I R S) K := by
  refine cI_of (ls := [.ref 91, .int (oI x1)]) rfl ?_
  refine xG gb330.1 ?_
  refine s4 (x := x1) rfl ?_
  obtain ⟨g1, hE⟩ := hE
  refine s76 g1 ?_
  by_cases c2 : x1 = 0
  · replace hE := hE.1 c2
    rw [show mSel ((jSW.getD 330 []).getD 0 []) (x1 - 0) = 1 by rw [c2]; rfl]
    refine xG gb330.2.1 ?_
    refine s6 (p := 91) rfl ?_
    refine s50 (v := A 91 0) sh91 (by decide) (by decide) (rdM hR.1 rfl) ?_
    refine s80 ?_
    exact rqI_of hE
  replace hE := hE.2
  by_cases c3 : x1 = 1
  · replace hE := hE.1 c3
    rw [show mSel ((jSW.getD 330 []).getD 0 []) (x1 - 0) = 2 by rw [c3]; rfl]
    refine xG gb330.2.2.1 ?_
    refine s6 (p := 91) rfl ?_
    refine s50 (v := A 91 1) sh91 (by decide) (by decide) (rdM hR.1 rfl) ?_
    refine s80 ?_
    exact rqI_of hE
  replace hE := hE.2
  by_cases c4 : x1 = 2
  · replace hE := hE.1 c4
    rw [show mSel ((jSW.getD 330 []).getD 0 []) (x1 - 0) = 3 by rw [c4]; rfl]
    refine xG gb330.2.2.2.1 ?_
    refine s6 (p := 91) rfl ?_
    refine s50 (v := A 91 2) sh91 (by decide) (by decide) (rdM hR.1 rfl) ?_
    refine s80 ?_
    exact rqI_of hE
  replace hE := hE.2
  by_cases c5 : x1 = 3
  · replace hE := hE.1 c5
    rw [show mSel ((jSW.getD 330 []).getD 0 []) (x1 - 0) = 4 by rw [c5]; rfl]
    refine xG gb330.2.2.2.2.1 ?_
    refine s6 (p := 91) rfl ?_
    refine s50 (v := A 91 3) sh91 (by decide) (by decide) (rdM hR.1 rfl) ?_
    refine s80 ?_
    exact rqI_of hE
  replace hE := hE.2
  by_cases c6 : x1 = 4
  · replace hE := hE.1 c6
    rw [show mSel ((jSW.getD 330 []).getD 0 []) (x1 - 0) = 5 by rw [c6]; rfl]
    refine xG gb330.2.2.2.2.2.1 ?_
    refine s6 (p := 91) rfl ?_
    refine s50 (v := A 91 4) sh91 (by decide) (by decide) (rdM hR.1 rfl) ?_
    refine s80 ?_
    exact rqI_of hE
  replace hE := hE.2
  by_cases c7 : x1 = 5
  · replace hE := hE.1 c7
    rw [show mSel ((jSW.getD 330 []).getD 0 []) (x1 - 0) = 6 by rw [c7]; rfl]
    refine xG gb330.2.2.2.2.2.2.1 ?_
    refine s6 (p := 91) rfl ?_
    refine s50 (v := A 91 65) sh91 (by decide) (by decide) (rdM hR.1 rfl) ?_
    refine s80 ?_
    exact rqI_of hE
  replace hE := hE.2
  by_cases c8 : x1 = 6
  · replace hE := hE.1 c8
    rw [show mSel ((jSW.getD 330 []).getD 0 []) (x1 - 0) = 7 by rw [c8]; rfl]
    refine xG gb330.2.2.2.2.2.2.2.1 ?_
    refine s6 (p := 91) rfl ?_
    refine s50 (v := A 91 40) sh91 (by decide) (by decide) (rdM hR.1 rfl) ?_
    refine s80 ?_
    exact rqI_of hE
  replace hE := hE.2
  by_cases c9 : x1 = 7
  · replace hE := hE.1 c9
    rw [show mSel ((jSW.getD 330 []).getD 0 []) (x1 - 0) = 8 by rw [c9]; rfl]
    refine xG gb330.2.2.2.2.2.2.2.2.1 ?_
    refine s6 (p := 91) rfl ?_
    refine s50 (v := A 91 54) sh91 (by decide) (by decide) (rdM hR.1 rfl) ?_
    refine s80 ?_
    exact rqI_of hE
  replace hE := hE.2
  by_cases c10 : x1 = 8
  · replace hE := hE.1 c10
    rw [show mSel ((jSW.getD 330 []).getD 0 []) (x1 - 0) = 9 by rw [c10]; rfl]
    refine xG gb330.2.2.2.2.2.2.2.2.2.1 ?_
    refine s6 (p := 91) rfl ?_
    refine s50 (v := A 91 63) sh91 (by decide) (by decide) (rdM hR.1 rfl) ?_
    refine s80 ?_
    exact rqI_of hE
  replace hE := hE.2
  by_cases c11 : x1 = 9
  · replace hE := hE.1 c11
    rw [show mSel ((jSW.getD 330 []).getD 0 []) (x1 - 0) = 10 by rw [c11]; rfl]
    refine xG gb330.2.2.2.2.2.2.2.2.2.2.1 ?_
    refine s6 (p := 91) rfl ?_
    refine s50 (v := A 91 58) sh91 (by decide) (by decide) (rdM hR.1 rfl) ?_
    refine s80 ?_
    exact rqI_of hE
  replace hE := hE.2
  by_cases c12 : x1 = 10
  · replace hE := hE.1 c12
    rw [show mSel ((jSW.getD 330 []).getD 0 []) (x1 - 0) = 11 by rw [c12]; rfl]
    refine xG gb330.2.2.2.2.2.2.2.2.2.2.2.1 ?_
    refine s6 (p := 91) rfl ?_
    refine s50 (v := A 91 59) sh91 (by decide) (by decide) (rdM hR.1 rfl) ?_
    refine s80 ?_
    exact rqI_of hE
  replace hE := hE.2
  by_cases c13 : x1 = 11
  · replace hE := hE.1 c13
    rw [show mSel ((jSW.getD 330 []).getD 0 []) (x1 - 0) = 12 by rw [c13]; rfl]
    refine xG gb330.2.2.2.2.2.2.2.2.2.2.2.2.1 ?_
    refine s6 (p := 91) rfl ?_
    refine s50 (v := A 91 57) sh91 (by decide) (by decide) (rdM hR.1 rfl) ?_
    refine s80 ?_
    exact rqI_of hE
  replace hE := hE.2
  by_cases c14 : x1 = 12
  · replace hE := hE.1 c14
    rw [show mSel ((jSW.getD 330 []).getD 0 []) (x1 - 0) = 13 by rw [c14]; rfl]
    refine xG gb330.2.2.2.2.2.2.2.2.2.2.2.2.2.1 ?_
    refine s6 (p := 91) rfl ?_
    refine s50 (v := A 91 67) sh91 (by decide) (by decide) (rdM hR.1 rfl) ?_
    refine s80 ?_
    exact rqI_of hE
  replace hE := hE.2
  replace hE := hE ⟨c2, c3, c4, c5, c6, c7, c8, c9, c10, c11, c12, c13, c14⟩
  rw [show mSel ((jSW.getD 330 []).getD 0 []) (x1 - 0) = 14 by exact mSel_def (lo := 0) (vs := [0, 1, 2, 3, 4, 5, 6, 7, 8, 9, 10, 11, 12]) rfl (by intro v hv; simp only [List.mem_cons, List.not_mem_nil, or_false] at hv; omega)]
  refine xG gb330.2.2.2.2.2.2.2.2.2.2.2.2.2.2 ?_
  refine s0 ?_
  refine s80 ?_
  exact rqI_of hE
noncomputable def o330 (A : aS) (x1 : Int) : Int × aS := (if x1 = 0 then ((A 91 0), A) else (if x1 = 1 then ((A 91 1), A) else (if x1 = 2 then ((A 91 2), A) else (if x1 = 3 then ((A 91 3), A) else (if x1 = 4 then ((A 91 4), A) else (if x1 = 5 then ((A 91 65), A) else (if x1 = 6 then ((A 91 40), A) else (if x1 = 7 then ((A 91 54), A) else (if x1 = 8 then ((A 91 63), A) else (if x1 = 9 then ((A 91 58), A) else (if x1 = 10 then ((A 91 59), A) else (if x1 = 11 then ((A 91 57), A) else (if x1 = 12 then ((A 91 67), A) else ((-1), A))))))))))))))
theorem k330 {d L : Nat} {I : mI} {R : Nat → Nat → Option Nat} {S : List (Nat × Nat)} {A : aS} {K : Int32 → mM → Prop} {x1 : Int} (hR : RM I A) (rx1 : inR x1) (hK : ∀ I1, FM I I1 → RM I1 (o330 A x1).2 → K (oI (o330 A x1).1) (bd L I1 R S)) : CallI (d + 0) 330 [.ref 91, .int (oI x1)] (bd L I R S) K := by
  have ho : o330 A x1 = (if x1 = 0 then ((A 91 0), A) else (if x1 = 1 then ((A 91 1), A) else (if x1 = 2 then ((A 91 2), A) else (if x1 = 3 then ((A 91 3), A) else (if x1 = 4 then ((A 91 4), A) else (if x1 = 5 then ((A 91 65), A) else (if x1 = 6 then ((A 91 40), A) else (if x1 = 7 then ((A 91 54), A) else (if x1 = 8 then ((A 91 63), A) else (if x1 = 9 then ((A 91 58), A) else (if x1 = 10 then ((A 91 59), A) else (if x1 = 11 then ((A 91 57), A) else (if x1 = 12 then ((A 91 67), A) else ((-1), A)))))))))))))) := rfl
  refine e330 (d := d) hR ?_
  refine ⟨by first | assumption | exact inRd rfl | omega | exact ⟨by omega, by omega⟩, ?_⟩
  refine ⟨fun c65 => ?_, fun c65 => ?_, fun c65 => ?_, fun c65 => ?_, fun c65 => ?_, fun c65 => ?_, fun c65 => ?_, fun c65 => ?_, fun c65 => ?_, fun c65 => ?_, fun c65 => ?_, fun c65 => ?_, fun c65 => ?_, fun c65 => ?_⟩
  · rw [if_pos c65] at ho
    rw [ho] at hK
    exact hK _ (FM.refl _) (hR)
  · rw [if_neg (by omega), if_pos c65] at ho
    rw [ho] at hK
    exact hK _ (FM.refl _) (hR)
  · rw [if_neg (by omega), if_neg (by omega), if_pos c65] at ho
    rw [ho] at hK
    exact hK _ (FM.refl _) (hR)
  · rw [if_neg (by omega), if_neg (by omega), if_neg (by omega), if_pos c65] at ho
    rw [ho] at hK
    exact hK _ (FM.refl _) (hR)
  · rw [if_neg (by omega), if_neg (by omega), if_neg (by omega), if_neg (by omega), if_pos c65] at ho
    rw [ho] at hK
    exact hK _ (FM.refl _) (hR)
  · rw [if_neg (by omega), if_neg (by omega), if_neg (by omega), if_neg (by omega), if_neg (by omega), if_pos c65] at ho
    rw [ho] at hK
    exact hK _ (FM.refl _) (hR)
  · rw [if_neg (by omega), if_neg (by omega), if_neg (by omega), if_neg (by omega), if_neg (by omega), if_neg (by omega), if_pos c65] at ho
    rw [ho] at hK
    exact hK _ (FM.refl _) (hR)
  · rw [if_neg (by omega), if_neg (by omega), if_neg (by omega), if_neg (by omega), if_neg (by omega), if_neg (by omega), if_neg (by omega), if_pos c65] at ho
    rw [ho] at hK
    exact hK _ (FM.refl _) (hR)
  · rw [if_neg (by omega), if_neg (by omega), if_neg (by omega), if_neg (by omega), if_neg (by omega), if_neg (by omega), if_neg (by omega), if_neg (by omega), if_pos c65] at ho
    rw [ho] at hK
    exact hK _ (FM.refl _) (hR)
  · rw [if_neg (by omega), if_neg (by omega), if_neg (by omega), if_neg (by omega), if_neg (by omega), if_neg (by omega), if_neg (by omega), if_neg (by omega), if_neg (by omega), if_pos c65] at ho
    rw [ho] at hK
    exact hK _ (FM.refl _) (hR)
  · rw [if_neg (by omega), if_neg (by omega), if_neg (by omega), if_neg (by omega), if_neg (by omega), if_neg (by omega), if_neg (by omega), if_neg (by omega), if_neg (by omega), if_neg (by omega), if_pos c65] at ho
    rw [ho] at hK
    exact hK _ (FM.refl _) (hR)
  · rw [if_neg (by omega), if_neg (by omega), if_neg (by omega), if_neg (by omega), if_neg (by omega), if_neg (by omega), if_neg (by omega), if_neg (by omega), if_neg (by omega), if_neg (by omega), if_neg (by omega), if_pos c65] at ho
    rw [ho] at hK
    exact hK _ (FM.refl _) (hR)
  · rw [if_neg (by omega), if_neg (by omega), if_neg (by omega), if_neg (by omega), if_neg (by omega), if_neg (by omega), if_neg (by omega), if_neg (by omega), if_neg (by omega), if_neg (by omega), if_neg (by omega), if_neg (by omega), if_pos c65] at ho
    rw [ho] at hK
    exact hK _ (FM.refl _) (hR)
  · rw [if_neg (by omega), if_neg (by omega), if_neg (by omega), if_neg (by omega), if_neg (by omega), if_neg (by omega), if_neg (by omega), if_neg (by omega), if_neg (by omega), if_neg (by omega), if_neg (by omega), if_neg (by omega), if_neg (by omega)] at ho
    rw [ho] at hK
    exact hK _ (FM.refl _) (hR)
set_option maxRecDepth 4000 in
theorem e258 {d L : Nat} {I : Nat → Nat → Int32} {R : Nat → Nat → Option Nat} {S : List (Nat × Nat)} {K : Int32 → mM → Prop} {A : aS} (hR : RM I A) {x1 : Int} {x2 : Int} {x3 : Int} {x4 : Int} (hE : inR x1 ∧ (inR (A 91 1 - 1) ∧ (((0 ≤ x1 ∧ x1 ≤ A 91 1 - 1) → inR x2 ∧ (((0 ≤ x2 ∧ x2 ≤ 7) → inR x3 ∧ (((0 ≤ x3 ∧ x3 ≤ 7) → inR x4 ∧ (((0 ≤ x4 ∧ x4 ≤ 799) → WfA A ∧ (WfC A ∧ (WfP A ∧ ((0 ≤ x1 ∧ x1 < A 91 1) ∧ ((0 ≤ x2 ∧ x2 ≤ 7) ∧ (∀ (I20 : mI), (Fr [150, 151] [(91, 87)] I I20) → (RM I20 A) → (0 ≤ x3 ∧ x3 ≤ 7) ∧ (inR (stS A x1 x2 x4) ∧ (∀ (I25 : mI), (Fr [150, 151] [(91, 87)] I20 I25) → (RM I25 A) → (EnvI I25 (psE A x1 x2 (stS A x1 x2 x4) x4)) → K (oI (psS A x1 x2 x3 (stS A x1 x2 x4) x4)) (bd L I25 R S))))))))) ∧ (¬ (0 ≤ x4 ∧ x4 ≤ 799) → K (oI (-1)) (bd L I R S)))) ∧ (¬ (0 ≤ x3 ∧ x3 ≤ 7) → K (oI (-1)) (bd L I R S)))) ∧ (¬ (0 ≤ x2 ∧ x2 ≤ 7) → K (oI (-1)) (bd L I R S)))) ∧ (¬ (0 ≤ x1 ∧ x1 ≤ A 91 1 - 1) → K (oI (-1)) (bd L I R S))))) : CallI (d + 29) 258 [.ref 91, .int (oI x1), .int (oI x2), .int (oI x3), .int (oI x4)] (bd L I R S) K := by
  refine cI_of (ls := [.ref 91, .int (oI x1), .int (oI x2), .int (oI x3), .int (oI x4)]) rfl ?_
  refine xG gb258.1 ?_
  refine s6 (p := 91) rfl ?_
  refine s4 (x := x1) rfl ?_
  refine sI rc215 rfl (Nat.le_of_ble_eq_true rfl) ?_
  refine cI_of (ls := [.ref 91, .int (oI x1)]) rfl ?_
  refine xG gb215 ?_
  refine s4 (x := x1) rfl ?_
  refine s0 ?_
  refine s6 (p := 91) rfl ?_
  refine s50 (v := A 91 1) sh91 (by decide) (by decide) (rdM hR.1 rfl) ?_
  refine s0 ?_
  refine s17 ?_
  obtain ⟨g1, hE⟩ := hE
  obtain ⟨g2, hE⟩ := hE
  refine sI rc210 rfl (Nat.le_of_ble_eq_true rfl) ?_
  refine k210 g1 (inRd rfl) g2 (fun c3 => ?_) (fun c3 => ?_)
  · replace hE := hE.1 c3
    refine s84 (by decide) ?_
    refine rqI_of ?_
    refine s67 (inRd rfl) (fun c4 => absurd c4 (by decide)) (fun _ => ?_)
    refine s4 (x := x2) rfl ?_
    refine s4 (x := x3) rfl ?_
    refine s4 (x := x4) rfl ?_
    refine sI rc249 rfl (Nat.le_of_ble_eq_true rfl) ?_
    refine cI_of (ls := [.int (oI x2), .int (oI x3), .int (oI x4)]) rfl ?_
    refine xG gb249.1 ?_
    refine s4 (x := x2) rfl ?_
    refine sI rc250 rfl (Nat.le_of_ble_eq_true rfl) ?_
    refine cI_of (ls := [.int (oI x2)]) rfl ?_
    refine xG gb250 ?_
    refine s4 (x := x2) rfl ?_
    refine s0 ?_
    refine s0 ?_
    obtain ⟨g5, hE⟩ := hE
    refine sI rc210 rfl (Nat.le_of_ble_eq_true rfl) ?_
    refine k210 g5 (inRd rfl) (inRd rfl) (fun c6 => ?_) (fun c6 => ?_)
    · replace hE := hE.1 c6
      refine s84 (by decide) ?_
      refine rqI_of ?_
      refine s67 (inRd rfl) (fun c7 => absurd c7 (by decide)) (fun _ => ?_)
      refine s4 (x := x3) rfl ?_
      refine sI rc250 rfl (Nat.le_of_ble_eq_true rfl) ?_
      refine cI_of (ls := [.int (oI x3)]) rfl ?_
      refine xG gb250 ?_
      refine s4 (x := x3) rfl ?_
      refine s0 ?_
      refine s0 ?_
      obtain ⟨g8, hE⟩ := hE
      refine sI rc210 rfl (Nat.le_of_ble_eq_true rfl) ?_
      refine k210 g8 (inRd rfl) (inRd rfl) (fun c9 => ?_) (fun c9 => ?_)
      · replace hE := hE.1 c9
        refine s84 (by decide) ?_
        refine rqI_of ?_
        refine s67 (inRd rfl) (fun c10 => absurd c10 (by decide)) (fun _ => ?_)
        refine s4 (x := x4) rfl ?_
        refine sI rc230 rfl (Nat.le_of_ble_eq_true rfl) ?_
        refine cI_of (ls := [.int (oI x4)]) rfl ?_
        refine xG gb230 ?_
        refine s4 (x := x4) rfl ?_
        refine s0 ?_
        refine s0 ?_
        obtain ⟨g11, hE⟩ := hE
        refine sI rc210 rfl (Nat.le_of_ble_eq_true rfl) ?_
        refine k210 g11 (inRd rfl) (inRd rfl) (fun c12 => ?_) (fun c12 => ?_)
        · replace hE := hE.1 c12
          refine s84 (by decide) ?_
          refine rqI_of ?_
          refine s67 (inRd rfl) (fun c13 => absurd c13 (by decide)) (fun _ => ?_)
          refine s0 ?_
          refine s60 ?_
          refine xG gb249.2.2 ?_
          refine s84 (by decide) ?_
          refine rqI_of ?_
          refine s68 (inRd rfl) (fun c14 => absurd c14 (by decide)) (fun _ => ?_)
          refine xG gb258.2.2 ?_
          refine s6 (p := 91) rfl ?_
          refine s4 (x := x1) rfl ?_
          refine s4 (x := x2) rfl ?_
          refine s4 (x := x3) rfl ?_
          refine s6 (p := 91) rfl ?_
          refine s4 (x := x1) rfl ?_
          refine s4 (x := x2) rfl ?_
          refine s4 (x := x4) rfl ?_
          obtain ⟨g15, hE⟩ := hE
          obtain ⟨g16, hE⟩ := hE
          obtain ⟨g17, hE⟩ := hE
          obtain ⟨g18, hE⟩ := hE
          obtain ⟨g19, hE⟩ := hE
          refine sI rc233 rfl (Nat.le_of_ble_eq_true rfl) ?_
          refine k233 hR g15 g16 g17 g18 g19 g11 (fun I20 q21 q22 => ?_)
          replace hE := hE I20 q21 q22
          refine s4 (x := x4) rfl ?_
          obtain ⟨g23, hE⟩ := hE
          obtain ⟨g24, hE⟩ := hE
          refine sI rc234 rfl (Nat.le_of_ble_eq_true rfl) ?_
          refine k234 (q22) g15 g16 g17 g18 g19 g23 g24 g11 (fun I25 q26 q27 q28 => ?_)
          replace hE := hE I25 q26 q27 q28
          refine s80 ?_
          exact rqI_of hE
        · replace hE := hE.2 c12
          refine s84 (by decide) ?_
          refine rqI_of ?_
          refine s67 (inRd rfl) (fun _ => ?_) (fun c29 => absurd (by decide) c29)
          refine xG gb249.2.1 ?_
          refine s0 ?_
          refine s79 ?_
          refine xG gb249.2.2 ?_
          refine s84 (by decide) ?_
          refine rqI_of ?_
          refine s68 (inRd rfl) (fun _ => ?_) (fun c30 => absurd (by decide) c30)
          refine s79 ?_
          refine xG gb258.2.1 ?_
          refine s0 ?_
          refine s80 ?_
          exact rqI_of hE
      · replace hE := hE.2 c9
        refine s84 (by decide) ?_
        refine rqI_of ?_
        refine s67 (inRd rfl) (fun _ => ?_) (fun c31 => absurd (by decide) c31)
        refine xG gb249.2.1 ?_
        refine s0 ?_
        refine s79 ?_
        refine xG gb249.2.2 ?_
        refine s84 (by decide) ?_
        refine rqI_of ?_
        refine s68 (inRd rfl) (fun _ => ?_) (fun c32 => absurd (by decide) c32)
        refine s79 ?_
        refine xG gb258.2.1 ?_
        refine s0 ?_
        refine s80 ?_
        exact rqI_of hE
    · replace hE := hE.2 c6
      refine s84 (by decide) ?_
      refine rqI_of ?_
      refine s67 (inRd rfl) (fun _ => ?_) (fun c33 => absurd (by decide) c33)
      refine xG gb249.2.1 ?_
      refine s0 ?_
      refine s79 ?_
      refine xG gb249.2.2 ?_
      refine s84 (by decide) ?_
      refine rqI_of ?_
      refine s68 (inRd rfl) (fun _ => ?_) (fun c34 => absurd (by decide) c34)
      refine s79 ?_
      refine xG gb258.2.1 ?_
      refine s0 ?_
      refine s80 ?_
      exact rqI_of hE
  · replace hE := hE.2 c3
    refine s84 (by decide) ?_
    refine rqI_of ?_
    refine s67 (inRd rfl) (fun _ => ?_) (fun c35 => absurd (by decide) c35)
    refine xG gb258.2.1 ?_
    refine s0 ?_
    refine s80 ?_
    exact rqI_of hE
noncomputable def o258 (A : aS) (x1 : Int) (x2 : Int) (x3 : Int) (x4 : Int) : Int × aS := (if 0 ≤ x1 ∧ x1 ≤ A 91 1 - 1 then (if 0 ≤ x2 ∧ x2 ≤ 7 then (if 0 ≤ x3 ∧ x3 ≤ 7 then (if 0 ≤ x4 ∧ x4 ≤ 799 then ((psS A x1 x2 x3 (stS A x1 x2 x4) x4), A) else ((-1), A)) else ((-1), A)) else ((-1), A)) else ((-1), A))
theorem k258 {d L : Nat} {I : mI} {R : Nat → Nat → Option Nat} {S : List (Nat × Nat)} {A : aS} {K : Int32 → mM → Prop} {x1 : Int} {x2 : Int} {x3 : Int} {x4 : Int} (hR : RM I A) (hWfA : WfA A) (hWfC : WfC A) (hWfP : WfP A) (rx1 : inR x1) (rx2 : inR x2) (rx3 : inR x3) (rx4 : inR x4) (hK : ∀ I1, FM I I1 → RM I1 (o258 A x1 x2 x3 x4).2 → K (oI (o258 A x1 x2 x3 x4).1) (bd L I1 R S)) : CallI (d + 29) 258 [.ref 91, .int (oI x1), .int (oI x2), .int (oI x3), .int (oI x4)] (bd L I R S) K := by
  have ho : o258 A x1 x2 x3 x4 = (if 0 ≤ x1 ∧ x1 ≤ A 91 1 - 1 then (if 0 ≤ x2 ∧ x2 ≤ 7 then (if 0 ≤ x3 ∧ x3 ≤ 7 then (if 0 ≤ x4 ∧ x4 ≤ 799 then ((psS A x1 x2 x3 (stS A x1 x2 x4) x4), A) else ((-1), A)) else ((-1), A)) else ((-1), A)) else ((-1), A)) := rfl
  have w0 := hWfA.1
  have w1 := hWfA.2.1
  have w2 := hWfA.2.2.1
  have w3 : 0 ≤ A 91 3 ∧ A 91 3 ≤ 850 := hWfA.2.2.2.1
  have wN := hWfA.2.2.2.1
  have ty := today_year hWfA
  refine e258 (d := d) hR ?_
  refine ⟨by first | assumption | exact inRd rfl | omega | exact ⟨by omega, by omega⟩ | (have q9 := stS_in hWfP (c := x1) (year := x2) (known := x4) (by omega); exact ⟨by omega, by omega⟩), ?_⟩
  refine ⟨by first | assumption | exact inRd rfl | omega | exact ⟨by omega, by omega⟩ | (have q9 := stS_in hWfP (c := x1) (year := x2) (known := x4) (by omega); exact ⟨by omega, by omega⟩), ?_⟩
  refine ⟨fun c66 => ?_, fun c66 => ?_⟩
  · rw [if_pos c66] at ho
    refine ⟨by first | assumption | exact inRd rfl | omega | exact ⟨by omega, by omega⟩ | (have q9 := stS_in hWfP (c := x1) (year := x2) (known := x4) (by omega); exact ⟨by omega, by omega⟩), ?_⟩
    refine ⟨fun c67 => ?_, fun c67 => ?_⟩
    · rw [if_pos c67] at ho
      refine ⟨by first | assumption | exact inRd rfl | omega | exact ⟨by omega, by omega⟩ | (have q9 := stS_in hWfP (c := x1) (year := x2) (known := x4) (by omega); exact ⟨by omega, by omega⟩), ?_⟩
      refine ⟨fun c68 => ?_, fun c68 => ?_⟩
      · rw [if_pos c68] at ho
        refine ⟨by first | assumption | exact inRd rfl | omega | exact ⟨by omega, by omega⟩ | (have q9 := stS_in hWfP (c := x1) (year := x2) (known := x4) (by omega); exact ⟨by omega, by omega⟩), ?_⟩
        refine ⟨fun c69 => ?_, fun c69 => ?_⟩
        · rw [if_pos c69] at ho
          refine ⟨by first | assumption | exact inRd rfl | omega | exact ⟨by omega, by omega⟩ | (have q9 := stS_in hWfP (c := x1) (year := x2) (known := x4) (by omega); exact ⟨by omega, by omega⟩), ?_⟩
          refine ⟨by first | assumption | exact inRd rfl | omega | exact ⟨by omega, by omega⟩ | (have q9 := stS_in hWfP (c := x1) (year := x2) (known := x4) (by omega); exact ⟨by omega, by omega⟩), ?_⟩
          refine ⟨by first | assumption | exact inRd rfl | omega | exact ⟨by omega, by omega⟩ | (have q9 := stS_in hWfP (c := x1) (year := x2) (known := x4) (by omega); exact ⟨by omega, by omega⟩), ?_⟩
          refine ⟨by first | assumption | exact inRd rfl | omega | exact ⟨by omega, by omega⟩ | (have q9 := stS_in hWfP (c := x1) (year := x2) (known := x4) (by omega); exact ⟨by omega, by omega⟩), ?_⟩
          refine ⟨by first | assumption | exact inRd rfl | omega | exact ⟨by omega, by omega⟩ | (have q9 := stS_in hWfP (c := x1) (year := x2) (known := x4) (by omega); exact ⟨by omega, by omega⟩), ?_⟩
          intro I20 q70_0 q70_1
          refine ⟨by first | assumption | exact inRd rfl | omega | exact ⟨by omega, by omega⟩ | (have q9 := stS_in hWfP (c := x1) (year := x2) (known := x4) (by omega); exact ⟨by omega, by omega⟩), ?_⟩
          refine ⟨by first | assumption | exact inRd rfl | omega | exact ⟨by omega, by omega⟩ | (have q9 := stS_in hWfP (c := x1) (year := x2) (known := x4) (by omega); exact ⟨by omega, by omega⟩), ?_⟩
          intro I25 q71_0 q71_1 q71_2
          rw [ho] at hK
          exact hK _ (FM.trans (FM.trans (FM.refl _) (Fr.FM q70_0 rfl)) (Fr.FM q71_0 rfl)) (q71_1)
        · rw [if_neg c69] at ho
          rw [ho] at hK
          exact hK _ (FM.refl _) (hR)
      · rw [if_neg c68] at ho
        rw [ho] at hK
        exact hK _ (FM.refl _) (hR)
    · rw [if_neg c67] at ho
      rw [ho] at hK
      exact hK _ (FM.refl _) (hR)
  · rw [if_neg c66] at ho
    rw [ho] at hK
    exact hK _ (FM.refl _) (hR)
set_option maxRecDepth 4000 in
theorem e266 {d L : Nat} {I : Nat → Nat → Int32} {R : Nat → Nat → Option Nat} {S : List (Nat × Nat)} {K : Int32 → mM → Prop} {A : aS} (hR : RM I A) {x1 : Int} {x2 : Int} {x3 : Int} (hE : inR x1 ∧ (inR (A 91 1 - 1) ∧ (((0 ≤ x1 ∧ x1 ≤ A 91 1 - 1) → inR x2 ∧ (((0 ≤ x2 ∧ x2 ≤ 799) → inR x3 ∧ (((0 ≤ x3 ∧ x3 ≤ 2) → ((x3 = 0) → WfA A ∧ (WfC A ∧ (WfP A ∧ ((0 ≤ x1 ∧ x1 < A 91 1) ∧ ((0 ≤ x2 ∧ x2 ≤ 799) ∧ (∀ (I17 : mI), (Fr [150, 151] [(91, 87)] I I17) → (RM I17 A) → K (oI (fesS A x1 x2)) (bd L I17 R S))))))) ∧ (¬ (x3 = 0) → ((x3 = 1) → (0 ≤ x1 ∧ x1 < 40) ∧ (K (oI (A 96 x1.toNat)) (bd L I R S))) ∧ (¬ (x3 = 1) → WfA A ∧ (WfC A ∧ (WfP A ∧ ((0 ≤ x1 ∧ x1 < A 91 1) ∧ ((0 ≤ x2 ∧ x2 ≤ 799) ∧ (∀ (I27 : mI), (Fr [150, 151] [(91, 87)] I I27) → (RM I27 A) → (0 ≤ x1 ∧ x1 < 40) ∧ (K (oI (fesS A x1 x2 - (A 96 x1.toNat))) (bd L I27 R S)))))))))) ∧ (¬ (0 ≤ x3 ∧ x3 ≤ 2) → K (oI (-1000000)) (bd L I R S)))) ∧ (¬ (0 ≤ x2 ∧ x2 ≤ 799) → K (oI (-1000000)) (bd L I R S)))) ∧ (¬ (0 ≤ x1 ∧ x1 ≤ A 91 1 - 1) → K (oI (-1000000)) (bd L I R S))))) : CallI (d + 30) 266 [.ref 91, .int (oI x1), .int (oI x2), .int (oI x3)] (bd L I R S) K := by
  refine cI_of (ls := [.ref 91, .int (oI x1), .int (oI x2), .int (oI x3)]) rfl ?_
  refine xG gb266.1 ?_
  refine s6 (p := 91) rfl ?_
  refine s4 (x := x1) rfl ?_
  refine sI rc215 rfl (Nat.le_of_ble_eq_true rfl) ?_
  refine cI_of (ls := [.ref 91, .int (oI x1)]) rfl ?_
  refine xG gb215 ?_
  refine s4 (x := x1) rfl ?_
  refine s0 ?_
  refine s6 (p := 91) rfl ?_
  refine s50 (v := A 91 1) sh91 (by decide) (by decide) (rdM hR.1 rfl) ?_
  refine s0 ?_
  refine s17 ?_
  obtain ⟨g1, hE⟩ := hE
  obtain ⟨g2, hE⟩ := hE
  refine sI rc210 rfl (Nat.le_of_ble_eq_true rfl) ?_
  refine k210 g1 (inRd rfl) g2 (fun c3 => ?_) (fun c3 => ?_)
  · replace hE := hE.1 c3
    refine s84 (by decide) ?_
    refine rqI_of ?_
    refine s67 (inRd rfl) (fun c4 => absurd c4 (by decide)) (fun _ => ?_)
    refine s4 (x := x2) rfl ?_
    refine sI rc230 rfl (Nat.le_of_ble_eq_true rfl) ?_
    refine cI_of (ls := [.int (oI x2)]) rfl ?_
    refine xG gb230 ?_
    refine s4 (x := x2) rfl ?_
    refine s0 ?_
    refine s0 ?_
    obtain ⟨g5, hE⟩ := hE
    refine sI rc210 rfl (Nat.le_of_ble_eq_true rfl) ?_
    refine k210 g5 (inRd rfl) (inRd rfl) (fun c6 => ?_) (fun c6 => ?_)
    · replace hE := hE.1 c6
      refine s84 (by decide) ?_
      refine rqI_of ?_
      refine s67 (inRd rfl) (fun c7 => absurd c7 (by decide)) (fun _ => ?_)
      refine s4 (x := x3) rfl ?_
      refine s0 ?_
      refine s0 ?_
      obtain ⟨g8, hE⟩ := hE
      refine sI rc210 rfl (Nat.le_of_ble_eq_true rfl) ?_
      refine k210 g8 (inRd rfl) (inRd rfl) (fun c9 => ?_) (fun c9 => ?_)
      · replace hE := hE.1 c9
        refine s68 (inRd rfl) (fun c10 => absurd c10 (by decide)) (fun _ => ?_)
        refine xG gb266.2.2.1 ?_
        refine s4 (x := x3) rfl ?_
        refine s68 g8 (fun c11 => ?_) (fun c11 => ?_)
        · replace hE := hE.1 c11
          refine s6 (p := 91) rfl ?_
          refine s4 (x := x1) rfl ?_
          refine s4 (x := x2) rfl ?_
          obtain ⟨g12, hE⟩ := hE
          obtain ⟨g13, hE⟩ := hE
          obtain ⟨g14, hE⟩ := hE
          obtain ⟨g15, hE⟩ := hE
          obtain ⟨g16, hE⟩ := hE
          refine sI rc267 rfl (Nat.le_of_ble_eq_true rfl) ?_
          refine k267 hR g12 g13 g14 g15 g16 (fun I17 q18 q19 => ?_)
          replace hE := hE I17 q18 q19
          refine s60 ?_
          refine xG gb266.2.2.2.2.2 ?_
          refine s80 ?_
          exact rqI_of hE
        · replace hE := hE.2 c11
          refine xG gb266.2.2.2.1 ?_
          refine s4 (x := x3) rfl ?_
          refine s0 ?_
          refine s62 g8 (inRd rfl) (fun c20 => ?_) (fun c20 => ?_)
          · replace hE := hE.1 c20
            refine s6 (p := 91) rfl ?_
            refine s51 sh91 (by decide) (by decide) rf91_9 ?_
            refine s4 (x := x1) rfl ?_
            obtain ⟨g21, hE⟩ := hE
            refine s40 (v := A 96 x1.toNat) sh96 g21 rfl (rdM hR.1 rfl) ?_
            refine s60 ?_
            refine xG gb266.2.2.2.2.2 ?_
            refine s80 ?_
            exact rqI_of hE
          · replace hE := hE.2 c20
            refine xG gb266.2.2.2.2.1 ?_
            refine s6 (p := 91) rfl ?_
            refine s4 (x := x1) rfl ?_
            refine s4 (x := x2) rfl ?_
            obtain ⟨g22, hE⟩ := hE
            obtain ⟨g23, hE⟩ := hE
            obtain ⟨g24, hE⟩ := hE
            obtain ⟨g25, hE⟩ := hE
            obtain ⟨g26, hE⟩ := hE
            refine sI rc267 rfl (Nat.le_of_ble_eq_true rfl) ?_
            refine k267 hR g22 g23 g24 g25 g26 (fun I27 q28 q29 => ?_)
            replace hE := hE I27 q28 q29
            refine s6 (p := 91) rfl ?_
            refine s51 sh91 (by decide) (by decide) rf91_9 ?_
            refine s4 (x := x1) rfl ?_
            obtain ⟨g30, hE⟩ := hE
            refine s40 (v := A 96 x1.toNat) sh96 g30 rfl (rdM (q29).1 rfl) ?_
            refine s17 ?_
            refine s79 ?_
            refine xG gb266.2.2.2.2.2 ?_
            refine s80 ?_
            exact rqI_of hE
      · replace hE := hE.2 c9
        refine s68 (inRd rfl) (fun _ => ?_) (fun c31 => absurd (by decide) c31)
        refine s79 ?_
        refine xG gb266.2.1 ?_
        refine s0 ?_
        refine s80 ?_
        exact rqI_of hE
    · replace hE := hE.2 c6
      refine s84 (by decide) ?_
      refine rqI_of ?_
      refine s67 (inRd rfl) (fun _ => ?_) (fun c32 => absurd (by decide) c32)
      refine xG gb266.2.1 ?_
      refine s0 ?_
      refine s80 ?_
      exact rqI_of hE
  · replace hE := hE.2 c3
    refine s84 (by decide) ?_
    refine rqI_of ?_
    refine s67 (inRd rfl) (fun _ => ?_) (fun c33 => absurd (by decide) c33)
    refine xG gb266.2.1 ?_
    refine s0 ?_
    refine s80 ?_
    exact rqI_of hE
noncomputable def o266 (A : aS) (x1 : Int) (x2 : Int) (x3 : Int) : Int × aS := (if 0 ≤ x1 ∧ x1 ≤ A 91 1 - 1 then (if 0 ≤ x2 ∧ x2 ≤ 799 then (if 0 ≤ x3 ∧ x3 ≤ 2 then (if x3 = 0 then ((fesS A x1 x2), A) else (if x3 = 1 then ((A 96 x1.toNat), A) else ((fesS A x1 x2 - (A 96 x1.toNat)), A))) else ((-1000000), A)) else ((-1000000), A)) else ((-1000000), A))
theorem k266 {d L : Nat} {I : mI} {R : Nat → Nat → Option Nat} {S : List (Nat × Nat)} {A : aS} {K : Int32 → mM → Prop} {x1 : Int} {x2 : Int} {x3 : Int} (hR : RM I A) (hWfA : WfA A) (hWfC : WfC A) (hWfP : WfP A) (rx1 : inR x1) (rx2 : inR x2) (rx3 : inR x3) (hK : ∀ I1, FM I I1 → RM I1 (o266 A x1 x2 x3).2 → K (oI (o266 A x1 x2 x3).1) (bd L I1 R S)) : CallI (d + 30) 266 [.ref 91, .int (oI x1), .int (oI x2), .int (oI x3)] (bd L I R S) K := by
  have ho : o266 A x1 x2 x3 = (if 0 ≤ x1 ∧ x1 ≤ A 91 1 - 1 then (if 0 ≤ x2 ∧ x2 ≤ 799 then (if 0 ≤ x3 ∧ x3 ≤ 2 then (if x3 = 0 then ((fesS A x1 x2), A) else (if x3 = 1 then ((A 96 x1.toNat), A) else ((fesS A x1 x2 - (A 96 x1.toNat)), A))) else ((-1000000), A)) else ((-1000000), A)) else ((-1000000), A)) := rfl
  have w0 := hWfA.1
  have w1 := hWfA.2.1
  have w2 := hWfA.2.2.1
  have w3 : 0 ≤ A 91 3 ∧ A 91 3 ≤ 850 := hWfA.2.2.2.1
  have wN := hWfA.2.2.2.1
  have ty := today_year hWfA
  refine e266 (d := d) hR ?_
  refine ⟨by first | assumption | exact inRd rfl | omega | exact ⟨by omega, by omega⟩, ?_⟩
  refine ⟨by first | assumption | exact inRd rfl | omega | exact ⟨by omega, by omega⟩, ?_⟩
  refine ⟨fun c72 => ?_, fun c72 => ?_⟩
  · rw [if_pos c72] at ho
    refine ⟨by first | assumption | exact inRd rfl | omega | exact ⟨by omega, by omega⟩, ?_⟩
    refine ⟨fun c73 => ?_, fun c73 => ?_⟩
    · rw [if_pos c73] at ho
      refine ⟨by first | assumption | exact inRd rfl | omega | exact ⟨by omega, by omega⟩, ?_⟩
      refine ⟨fun c74 => ?_, fun c74 => ?_⟩
      · rw [if_pos c74] at ho
        refine ⟨fun c75 => ?_, fun c75 => ?_⟩
        · rw [if_pos c75] at ho
          refine ⟨by first | assumption | exact inRd rfl | omega | exact ⟨by omega, by omega⟩, ?_⟩
          refine ⟨by first | assumption | exact inRd rfl | omega | exact ⟨by omega, by omega⟩, ?_⟩
          refine ⟨by first | assumption | exact inRd rfl | omega | exact ⟨by omega, by omega⟩, ?_⟩
          refine ⟨by first | assumption | exact inRd rfl | omega | exact ⟨by omega, by omega⟩, ?_⟩
          refine ⟨by first | assumption | exact inRd rfl | omega | exact ⟨by omega, by omega⟩, ?_⟩
          intro I17 q76_0 q76_1
          rw [ho] at hK
          exact hK _ (FM.trans (FM.refl _) (Fr.FM q76_0 rfl)) (q76_1)
        · rw [if_neg c75] at ho
          refine ⟨fun c77 => ?_, fun c77 => ?_⟩
          · rw [if_pos c77] at ho
            refine ⟨by first | assumption | exact inRd rfl | omega | exact ⟨by omega, by omega⟩, ?_⟩
            rw [ho] at hK
            exact hK _ (FM.refl _) (hR)
          · rw [if_neg c77] at ho
            refine ⟨by first | assumption | exact inRd rfl | omega | exact ⟨by omega, by omega⟩, ?_⟩
            refine ⟨by first | assumption | exact inRd rfl | omega | exact ⟨by omega, by omega⟩, ?_⟩
            refine ⟨by first | assumption | exact inRd rfl | omega | exact ⟨by omega, by omega⟩, ?_⟩
            refine ⟨by first | assumption | exact inRd rfl | omega | exact ⟨by omega, by omega⟩, ?_⟩
            refine ⟨by first | assumption | exact inRd rfl | omega | exact ⟨by omega, by omega⟩, ?_⟩
            intro I27 q78_0 q78_1
            refine ⟨by first | assumption | exact inRd rfl | omega | exact ⟨by omega, by omega⟩, ?_⟩
            rw [ho] at hK
            exact hK _ (FM.trans (FM.refl _) (Fr.FM q78_0 rfl)) (q78_1)
      · rw [if_neg c74] at ho
        rw [ho] at hK
        exact hK _ (FM.refl _) (hR)
    · rw [if_neg c73] at ho
      rw [ho] at hK
      exact hK _ (FM.refl _) (hR)
  · rw [if_neg c72] at ho
    rw [ho] at hK
    exact hK _ (FM.refl _) (hR)
set_option maxRecDepth 4000 in
theorem e269 {d L : Nat} {I : Nat → Nat → Int32} {R : Nat → Nat → Option Nat} {S : List (Nat × Nat)} {K : Int32 → mM → Prop} {A : aS} (hR : RM I A) {x1 : Int} {x2 : Int} (hE : inR x1 ∧ (inR (A 91 1 - 1) ∧ (((0 ≤ x1 ∧ x1 ≤ A 91 1 - 1) → inR x2 ∧ (((1 ≤ x2 ∧ x2 ≤ 9999) → (0 ≤ x1 ∧ x1 < 40) ∧ (inR (A 96 x1.toNat + x2) ∧ (((999999 < A 96 x1.toNat + x2) → K (oI (-1)) (bd L I R S)) ∧ (¬ (999999 < A 96 x1.toNat + x2) → K (oI (A 96 x1.toNat + x2)) (bd L (u2 I 96 x1.toNat (oI (A 96 x1.toNat + x2))) R S))))) ∧ (¬ (1 ≤ x2 ∧ x2 ≤ 9999) → K (oI (-1)) (bd L I R S)))) ∧ (¬ (0 ≤ x1 ∧ x1 ≤ A 91 1 - 1) → K (oI (-1)) (bd L I R S))))) : CallI (d + 2) 269 [.ref 91, .int (oI x1), .int (oI x2)] (bd L I R S) K := by
  refine cI_of (ls := [.ref 91, .int (oI x1), .int (oI x2)]) rfl ?_
  refine xG gb269.1 ?_
  refine s6 (p := 91) rfl ?_
  refine s4 (x := x1) rfl ?_
  refine sI rc215 rfl (Nat.le_of_ble_eq_true rfl) ?_
  refine cI_of (ls := [.ref 91, .int (oI x1)]) rfl ?_
  refine xG gb215 ?_
  refine s4 (x := x1) rfl ?_
  refine s0 ?_
  refine s6 (p := 91) rfl ?_
  refine s50 (v := A 91 1) sh91 (by decide) (by decide) (rdM hR.1 rfl) ?_
  refine s0 ?_
  refine s17 ?_
  obtain ⟨g1, hE⟩ := hE
  obtain ⟨g2, hE⟩ := hE
  refine sI rc210 rfl (Nat.le_of_ble_eq_true rfl) ?_
  refine k210 g1 (inRd rfl) g2 (fun c3 => ?_) (fun c3 => ?_)
  · replace hE := hE.1 c3
    refine s84 (by decide) ?_
    refine rqI_of ?_
    refine s67 (inRd rfl) (fun c4 => absurd c4 (by decide)) (fun _ => ?_)
    refine s4 (x := x2) rfl ?_
    refine s0 ?_
    refine s0 ?_
    obtain ⟨g5, hE⟩ := hE
    refine sI rc210 rfl (Nat.le_of_ble_eq_true rfl) ?_
    refine k210 g5 (inRd rfl) (inRd rfl) (fun c6 => ?_) (fun c6 => ?_)
    · replace hE := hE.1 c6
      refine s67 (inRd rfl) (fun c7 => absurd c7 (by decide)) (fun _ => ?_)
      refine s6 (p := 91) rfl ?_
      refine s51 sh91 (by decide) (by decide) rf91_9 ?_
      refine s4 (x := x1) rfl ?_
      obtain ⟨g8, hE⟩ := hE
      refine s40 (v := A 96 x1.toNat) sh96 g8 rfl (rdM hR.1 rfl) ?_
      refine s4 (x := x2) rfl ?_
      refine s16 ?_
      refine s0 ?_
      obtain ⟨g9, hE⟩ := hE
      refine s66 g9 (inRd rfl) (fun c10 => ?_) (fun c10 => ?_)
      · replace hE := hE.1 c10
        refine s79 ?_
        refine xG gb269.2.1 ?_
        refine s0 ?_
        refine s80 ?_
        exact rqI_of hE
      · replace hE := hE.2 c10
        refine xG gb269.2.2 ?_
        refine s6 (p := 91) rfl ?_
        refine s51 sh91 (by decide) (by decide) rf91_9 ?_
        refine s4 (x := x1) rfl ?_
        refine s14 ?_
        refine s40 (v := A 96 x1.toNat) sh96 g8 rfl (rdM hR.1 rfl) ?_
        refine s4 (x := x2) rfl ?_
        refine s16 ?_
        refine s44 sh96 (by decide) g8 rfl ?_
        refine s6 (p := 91) rfl ?_
        refine s51 sh91 (by decide) (by decide) rf91_9 ?_
        refine s4 (x := x1) rfl ?_
        refine s40 (v := A 96 x1.toNat + x2) sh96 g8 rfl (v2_eq) ?_
        refine s80 ?_
        exact rqI_of hE
    · replace hE := hE.2 c6
      refine s67 (inRd rfl) (fun _ => ?_) (fun c11 => absurd (by decide) c11)
      refine xG gb269.2.1 ?_
      refine s0 ?_
      refine s80 ?_
      exact rqI_of hE
  · replace hE := hE.2 c3
    refine s84 (by decide) ?_
    refine rqI_of ?_
    refine s67 (inRd rfl) (fun _ => ?_) (fun c12 => absurd (by decide) c12)
    refine xG gb269.2.1 ?_
    refine s0 ?_
    refine s80 ?_
    exact rqI_of hE
noncomputable def o269 (A : aS) (x1 : Int) (x2 : Int) : Int × aS := (if 0 ≤ x1 ∧ x1 ≤ A 91 1 - 1 then (if 1 ≤ x2 ∧ x2 ≤ 9999 then (if 999999 < A 96 x1.toNat + x2 then ((-1), A) else ((A 96 x1.toNat + x2), (u2 A 96 x1.toNat ((A 96 x1.toNat + x2))))) else ((-1), A)) else ((-1), A))
theorem k269 {d L : Nat} {I : mI} {R : Nat → Nat → Option Nat} {S : List (Nat × Nat)} {A : aS} {K : Int32 → mM → Prop} {x1 : Int} {x2 : Int} (hR : RM I A) (hWfA : WfA A) (hWfP : WfP A) (rx1 : inR x1) (rx2 : inR x2) (hK : ∀ I1, FM I I1 → RM I1 (o269 A x1 x2).2 → K (oI (o269 A x1 x2).1) (bd L I1 R S)) : CallI (d + 2) 269 [.ref 91, .int (oI x1), .int (oI x2)] (bd L I R S) K := by
  have ho : o269 A x1 x2 = (if 0 ≤ x1 ∧ x1 ≤ A 91 1 - 1 then (if 1 ≤ x2 ∧ x2 ≤ 9999 then (if 999999 < A 96 x1.toNat + x2 then ((-1), A) else ((A 96 x1.toNat + x2), (u2 A 96 x1.toNat ((A 96 x1.toNat + x2))))) else ((-1), A)) else ((-1), A)) := rfl
  have w0 := hWfA.1
  have w1 := hWfA.2.1
  have w2 := hWfA.2.2.1
  have w3 : 0 ≤ A 91 3 ∧ A 91 3 ≤ 850 := hWfA.2.2.2.1
  have wN := hWfA.2.2.2.1
  have ty := today_year hWfA
  refine e269 (d := d) hR ?_
  refine ⟨by first | assumption | exact inRd rfl | omega | exact ⟨by omega, by omega⟩ | (have q9 := (hWfP x1.toNat (by omega)).2.2.2.2; omega) | (have q9 := (hWfP x1.toNat (by omega)).2.2.2.2; exact ⟨by omega, by omega⟩), ?_⟩
  refine ⟨by first | assumption | exact inRd rfl | omega | exact ⟨by omega, by omega⟩ | (have q9 := (hWfP x1.toNat (by omega)).2.2.2.2; omega) | (have q9 := (hWfP x1.toNat (by omega)).2.2.2.2; exact ⟨by omega, by omega⟩), ?_⟩
  refine ⟨fun c79 => ?_, fun c79 => ?_⟩
  · rw [if_pos c79] at ho
    refine ⟨by first | assumption | exact inRd rfl | omega | exact ⟨by omega, by omega⟩ | (have q9 := (hWfP x1.toNat (by omega)).2.2.2.2; omega) | (have q9 := (hWfP x1.toNat (by omega)).2.2.2.2; exact ⟨by omega, by omega⟩), ?_⟩
    refine ⟨fun c80 => ?_, fun c80 => ?_⟩
    · rw [if_pos c80] at ho
      refine ⟨by first | assumption | exact inRd rfl | omega | exact ⟨by omega, by omega⟩ | (have q9 := (hWfP x1.toNat (by omega)).2.2.2.2; omega) | (have q9 := (hWfP x1.toNat (by omega)).2.2.2.2; exact ⟨by omega, by omega⟩), ?_⟩
      refine ⟨by first | assumption | exact inRd rfl | omega | exact ⟨by omega, by omega⟩ | (have q9 := (hWfP x1.toNat (by omega)).2.2.2.2; omega) | (have q9 := (hWfP x1.toNat (by omega)).2.2.2.2; exact ⟨by omega, by omega⟩), ?_⟩
      refine ⟨fun c81 => ?_, fun c81 => ?_⟩
      · rw [if_pos c81] at ho
        rw [ho] at hK
        exact hK _ (FM.refl _) (hR)
      · rw [if_neg c81] at ho
        rw [ho] at hK
        exact hK _ (FM.wr (FM.refl _) (by decide)) (RM.set (hR) 96 x1.toNat (by first | assumption | exact inRd rfl | omega | exact ⟨by omega, by omega⟩ | (have q9 := (hWfP x1.toNat (by omega)).2.2.2.2; omega) | (have q9 := (hWfP x1.toNat (by omega)).2.2.2.2; exact ⟨by omega, by omega⟩)) rfl)
    · rw [if_neg c80] at ho
      rw [ho] at hK
      exact hK _ (FM.refl _) (hR)
  · rw [if_neg c79] at ho
    rw [ho] at hK
    exact hK _ (FM.refl _) (hR)
set_option maxRecDepth 4000 in
theorem e255 {d L : Nat} {I : Nat → Nat → Int32} {R : Nat → Nat → Option Nat} {S : List (Nat × Nat)} {K : Int32 → mM → Prop} {A : aS} (hR : RM I A) {x1 : Int} {x2 : Int} {x3 : Int} {x4 : Int} (hE : inR x1 ∧ (inR (A 91 1 - 1) ∧ (((0 ≤ x1 ∧ x1 ≤ A 91 1 - 1) → inR x2 ∧ (((0 ≤ x2 ∧ x2 ≤ 7) → inR x3 ∧ (((0 ≤ x3 ∧ x3 ≤ 7) → inR x4 ∧ (((0 ≤ x4 ∧ x4 ≤ 799) → WfA A ∧ (WfC A ∧ (WfP A ∧ ((0 ≤ x1 ∧ x1 < A 91 1) ∧ ((0 ≤ x2 ∧ x2 ≤ 7) ∧ (∀ (I20 : mI), (Fr [150, 151] [(91, 87)] I I20) → (RM I20 A) → ∀ (I23 : mI), (Fr [116] [] I20 I23) → (PShut A x2 x4 I23) → ∀ (I26 : mI), (Fr [111, 112, 113, 114, 115] [] I23 I26) → (Pnt A x1 x2 x4 I26) → (0 ≤ x3 ∧ x3 ≤ 7) ∧ (inR (stS A x1 x2 x4) ∧ (∃ n29 : Int, PShut A x2 n29 I26 ∧ Pnt A x1 x2 n29 I26 ∧ (∀ (I32 : mI), (Fr [150, 151] [(91, 87)] I26 I32) → (RM I32 A) → K (oI (yrS A x1 x2 x3 (stS A x1 x2 x4) n29)) (bd L I32 R S)))))))))) ∧ (¬ (0 ≤ x4 ∧ x4 ≤ 799) → K (oI (-1)) (bd L I R S)))) ∧ (¬ (0 ≤ x3 ∧ x3 ≤ 7) → K (oI (-1)) (bd L I R S)))) ∧ (¬ (0 ≤ x2 ∧ x2 ≤ 7) → K (oI (-1)) (bd L I R S)))) ∧ (¬ (0 ≤ x1 ∧ x1 ≤ A 91 1 - 1) → K (oI (-1)) (bd L I R S))))) : CallI (d + 29) 255 [.ref 91, .int (oI x1), .int (oI x2), .int (oI x3), .int (oI x4)] (bd L I R S) K := by
  refine cI_of (ls := [.ref 91, .int (oI x1), .int (oI x2), .int (oI x3), .int (oI x4), mUn]) rfl ?_
  refine xG gb255.1 ?_
  refine s6 (p := 91) rfl ?_
  refine s4 (x := x1) rfl ?_
  refine sI rc215 rfl (Nat.le_of_ble_eq_true rfl) ?_
  refine cI_of (ls := [.ref 91, .int (oI x1)]) rfl ?_
  refine xG gb215 ?_
  refine s4 (x := x1) rfl ?_
  refine s0 ?_
  refine s6 (p := 91) rfl ?_
  refine s50 (v := A 91 1) sh91 (by decide) (by decide) (rdM hR.1 rfl) ?_
  refine s0 ?_
  refine s17 ?_
  obtain ⟨g1, hE⟩ := hE
  obtain ⟨g2, hE⟩ := hE
  refine sI rc210 rfl (Nat.le_of_ble_eq_true rfl) ?_
  refine k210 g1 (inRd rfl) g2 (fun c3 => ?_) (fun c3 => ?_)
  · replace hE := hE.1 c3
    refine s84 (by decide) ?_
    refine rqI_of ?_
    refine s67 (inRd rfl) (fun c4 => absurd c4 (by decide)) (fun _ => ?_)
    refine s4 (x := x2) rfl ?_
    refine s4 (x := x3) rfl ?_
    refine s4 (x := x4) rfl ?_
    refine sI rc249 rfl (Nat.le_of_ble_eq_true rfl) ?_
    refine cI_of (ls := [.int (oI x2), .int (oI x3), .int (oI x4)]) rfl ?_
    refine xG gb249.1 ?_
    refine s4 (x := x2) rfl ?_
    refine sI rc250 rfl (Nat.le_of_ble_eq_true rfl) ?_
    refine cI_of (ls := [.int (oI x2)]) rfl ?_
    refine xG gb250 ?_
    refine s4 (x := x2) rfl ?_
    refine s0 ?_
    refine s0 ?_
    obtain ⟨g5, hE⟩ := hE
    refine sI rc210 rfl (Nat.le_of_ble_eq_true rfl) ?_
    refine k210 g5 (inRd rfl) (inRd rfl) (fun c6 => ?_) (fun c6 => ?_)
    · replace hE := hE.1 c6
      refine s84 (by decide) ?_
      refine rqI_of ?_
      refine s67 (inRd rfl) (fun c7 => absurd c7 (by decide)) (fun _ => ?_)
      refine s4 (x := x3) rfl ?_
      refine sI rc250 rfl (Nat.le_of_ble_eq_true rfl) ?_
      refine cI_of (ls := [.int (oI x3)]) rfl ?_
      refine xG gb250 ?_
      refine s4 (x := x3) rfl ?_
      refine s0 ?_
      refine s0 ?_
      obtain ⟨g8, hE⟩ := hE
      refine sI rc210 rfl (Nat.le_of_ble_eq_true rfl) ?_
      refine k210 g8 (inRd rfl) (inRd rfl) (fun c9 => ?_) (fun c9 => ?_)
      · replace hE := hE.1 c9
        refine s84 (by decide) ?_
        refine rqI_of ?_
        refine s67 (inRd rfl) (fun c10 => absurd c10 (by decide)) (fun _ => ?_)
        refine s4 (x := x4) rfl ?_
        refine sI rc230 rfl (Nat.le_of_ble_eq_true rfl) ?_
        refine cI_of (ls := [.int (oI x4)]) rfl ?_
        refine xG gb230 ?_
        refine s4 (x := x4) rfl ?_
        refine s0 ?_
        refine s0 ?_
        obtain ⟨g11, hE⟩ := hE
        refine sI rc210 rfl (Nat.le_of_ble_eq_true rfl) ?_
        refine k210 g11 (inRd rfl) (inRd rfl) (fun c12 => ?_) (fun c12 => ?_)
        · replace hE := hE.1 c12
          refine s84 (by decide) ?_
          refine rqI_of ?_
          refine s67 (inRd rfl) (fun c13 => absurd c13 (by decide)) (fun _ => ?_)
          refine s0 ?_
          refine s60 ?_
          refine xG gb249.2.2 ?_
          refine s84 (by decide) ?_
          refine rqI_of ?_
          refine s68 (inRd rfl) (fun c14 => absurd c14 (by decide)) (fun _ => ?_)
          refine xG gb255.2.2 ?_
          refine s6 (p := 91) rfl ?_
          refine s4 (x := x1) rfl ?_
          refine s4 (x := x2) rfl ?_
          refine s4 (x := x4) rfl ?_
          obtain ⟨g15, hE⟩ := hE
          obtain ⟨g16, hE⟩ := hE
          obtain ⟨g17, hE⟩ := hE
          obtain ⟨g18, hE⟩ := hE
          obtain ⟨g19, hE⟩ := hE
          refine sI rc233 rfl (Nat.le_of_ble_eq_true rfl) ?_
          refine k233 hR g15 g16 g17 g18 g19 g11 (fun I20 q21 q22 => ?_)
          replace hE := hE I20 q21 q22
          refine s7 (ls' := [.ref 91, .int (oI x1), .int (oI x2), .int (oI x3), .int (oI x4), .int (oI (stS A x1 x2 x4))]) (Nat.le_of_ble_eq_true rfl) rfl ?_
          refine s6 (p := 91) rfl ?_
          refine s4 (x := x2) rfl ?_
          refine s4 (x := x4) rfl ?_
          refine sV rc251 rfl (Nat.le_of_ble_eq_true rfl) ?_
          refine k251R (q22) g15 g19 g11 (fun I23 q24 q25 => ?_)
          replace hE := hE I23 q24 q25
          refine s6 (p := 91) rfl ?_
          refine s4 (x := x1) rfl ?_
          refine s4 (x := x2) rfl ?_
          refine s4 (x := x4) rfl ?_
          refine sV rc252 rfl (Nat.le_of_ble_eq_true rfl) ?_
          refine k252R (RM.fr (q22) q24 rfl rfl (fun _ => rfl)) g15 g19 g1 g11 (fun I26 q27 q28 => ?_)
          replace hE := hE I26 q27 q28
          refine s6 (p := 91) rfl ?_
          refine s4 (x := x1) rfl ?_
          refine s4 (x := x2) rfl ?_
          refine s4 (x := x3) rfl ?_
          refine s4 (x := stS A x1 x2 x4) rfl ?_
          obtain ⟨g35, hE⟩ := hE
          obtain ⟨g36, hE⟩ := hE
          obtain ⟨n29, k30, k31, hE⟩ := hE
          refine sI rc256 rfl (Nat.le_of_ble_eq_true rfl) ?_
          refine k256 (RM.fr (RM.fr (q22) q24 rfl rfl (fun _ => rfl)) q27 rfl rfl (fun _ => rfl)) g15 g16 g17 g18 g19 g35 g36 k30 k31 (fun I32 q33 q34 => ?_)
          replace hE := hE I32 q33 q34
          refine s80 ?_
          exact rqI_of hE
        · replace hE := hE.2 c12
          refine s84 (by decide) ?_
          refine rqI_of ?_
          refine s67 (inRd rfl) (fun _ => ?_) (fun c37 => absurd (by decide) c37)
          refine xG gb249.2.1 ?_
          refine s0 ?_
          refine s79 ?_
          refine xG gb249.2.2 ?_
          refine s84 (by decide) ?_
          refine rqI_of ?_
          refine s68 (inRd rfl) (fun _ => ?_) (fun c38 => absurd (by decide) c38)
          refine s79 ?_
          refine xG gb255.2.1 ?_
          refine s0 ?_
          refine s80 ?_
          exact rqI_of hE
      · replace hE := hE.2 c9
        refine s84 (by decide) ?_
        refine rqI_of ?_
        refine s67 (inRd rfl) (fun _ => ?_) (fun c39 => absurd (by decide) c39)
        refine xG gb249.2.1 ?_
        refine s0 ?_
        refine s79 ?_
        refine xG gb249.2.2 ?_
        refine s84 (by decide) ?_
        refine rqI_of ?_
        refine s68 (inRd rfl) (fun _ => ?_) (fun c40 => absurd (by decide) c40)
        refine s79 ?_
        refine xG gb255.2.1 ?_
        refine s0 ?_
        refine s80 ?_
        exact rqI_of hE
    · replace hE := hE.2 c6
      refine s84 (by decide) ?_
      refine rqI_of ?_
      refine s67 (inRd rfl) (fun _ => ?_) (fun c41 => absurd (by decide) c41)
      refine xG gb249.2.1 ?_
      refine s0 ?_
      refine s79 ?_
      refine xG gb249.2.2 ?_
      refine s84 (by decide) ?_
      refine rqI_of ?_
      refine s68 (inRd rfl) (fun _ => ?_) (fun c42 => absurd (by decide) c42)
      refine s79 ?_
      refine xG gb255.2.1 ?_
      refine s0 ?_
      refine s80 ?_
      exact rqI_of hE
  · replace hE := hE.2 c3
    refine s84 (by decide) ?_
    refine rqI_of ?_
    refine s67 (inRd rfl) (fun _ => ?_) (fun c43 => absurd (by decide) c43)
    refine xG gb255.2.1 ?_
    refine s0 ?_
    refine s80 ?_
    exact rqI_of hE
noncomputable def o255 (A : aS) (x1 : Int) (x2 : Int) (x3 : Int) (x4 : Int) : Int × aS := (if 0 ≤ x1 ∧ x1 ≤ A 91 1 - 1 then (if 0 ≤ x2 ∧ x2 ≤ 7 then (if 0 ≤ x3 ∧ x3 ≤ 7 then (if 0 ≤ x4 ∧ x4 ≤ 799 then ((yrS A x1 x2 x3 (stS A x1 x2 x4) (x4)), A) else ((-1), A)) else ((-1), A)) else ((-1), A)) else ((-1), A))
theorem k255 {d L : Nat} {I : mI} {R : Nat → Nat → Option Nat} {S : List (Nat × Nat)} {A : aS} {K : Int32 → mM → Prop} {x1 : Int} {x2 : Int} {x3 : Int} {x4 : Int} (hR : RM I A) (hWfA : WfA A) (hWfC : WfC A) (hWfP : WfP A) (rx1 : inR x1) (rx2 : inR x2) (rx3 : inR x3) (rx4 : inR x4) (hK : ∀ I1, FM I I1 → RM I1 (o255 A x1 x2 x3 x4).2 → K (oI (o255 A x1 x2 x3 x4).1) (bd L I1 R S)) : CallI (d + 29) 255 [.ref 91, .int (oI x1), .int (oI x2), .int (oI x3), .int (oI x4)] (bd L I R S) K := by
  have ho : o255 A x1 x2 x3 x4 = (if 0 ≤ x1 ∧ x1 ≤ A 91 1 - 1 then (if 0 ≤ x2 ∧ x2 ≤ 7 then (if 0 ≤ x3 ∧ x3 ≤ 7 then (if 0 ≤ x4 ∧ x4 ≤ 799 then ((yrS A x1 x2 x3 (stS A x1 x2 x4) (x4)), A) else ((-1), A)) else ((-1), A)) else ((-1), A)) else ((-1), A)) := rfl
  have w0 := hWfA.1
  have w1 := hWfA.2.1
  have w2 := hWfA.2.2.1
  have w3 : 0 ≤ A 91 3 ∧ A 91 3 ≤ 850 := hWfA.2.2.2.1
  have wN := hWfA.2.2.2.1
  have ty := today_year hWfA
  refine e255 (d := d) hR ?_
  refine ⟨by first | assumption | exact inRd rfl | omega | exact ⟨by omega, by omega⟩ | (have q9 := stS_in hWfP (c := x1) (year := x2) (known := x4) (by omega); exact ⟨by omega, by omega⟩), ?_⟩
  refine ⟨by first | assumption | exact inRd rfl | omega | exact ⟨by omega, by omega⟩ | (have q9 := stS_in hWfP (c := x1) (year := x2) (known := x4) (by omega); exact ⟨by omega, by omega⟩), ?_⟩
  refine ⟨fun c82 => ?_, fun c82 => ?_⟩
  · rw [if_pos c82] at ho
    refine ⟨by first | assumption | exact inRd rfl | omega | exact ⟨by omega, by omega⟩ | (have q9 := stS_in hWfP (c := x1) (year := x2) (known := x4) (by omega); exact ⟨by omega, by omega⟩), ?_⟩
    refine ⟨fun c83 => ?_, fun c83 => ?_⟩
    · rw [if_pos c83] at ho
      refine ⟨by first | assumption | exact inRd rfl | omega | exact ⟨by omega, by omega⟩ | (have q9 := stS_in hWfP (c := x1) (year := x2) (known := x4) (by omega); exact ⟨by omega, by omega⟩), ?_⟩
      refine ⟨fun c84 => ?_, fun c84 => ?_⟩
      · rw [if_pos c84] at ho
        refine ⟨by first | assumption | exact inRd rfl | omega | exact ⟨by omega, by omega⟩ | (have q9 := stS_in hWfP (c := x1) (year := x2) (known := x4) (by omega); exact ⟨by omega, by omega⟩), ?_⟩
        refine ⟨fun c85 => ?_, fun c85 => ?_⟩
        · rw [if_pos c85] at ho
          refine ⟨by first | assumption | exact inRd rfl | omega | exact ⟨by omega, by omega⟩ | (have q9 := stS_in hWfP (c := x1) (year := x2) (known := x4) (by omega); exact ⟨by omega, by omega⟩), ?_⟩
          refine ⟨by first | assumption | exact inRd rfl | omega | exact ⟨by omega, by omega⟩ | (have q9 := stS_in hWfP (c := x1) (year := x2) (known := x4) (by omega); exact ⟨by omega, by omega⟩), ?_⟩
          refine ⟨by first | assumption | exact inRd rfl | omega | exact ⟨by omega, by omega⟩ | (have q9 := stS_in hWfP (c := x1) (year := x2) (known := x4) (by omega); exact ⟨by omega, by omega⟩), ?_⟩
          refine ⟨by first | assumption | exact inRd rfl | omega | exact ⟨by omega, by omega⟩ | (have q9 := stS_in hWfP (c := x1) (year := x2) (known := x4) (by omega); exact ⟨by omega, by omega⟩), ?_⟩
          refine ⟨by first | assumption | exact inRd rfl | omega | exact ⟨by omega, by omega⟩ | (have q9 := stS_in hWfP (c := x1) (year := x2) (known := x4) (by omega); exact ⟨by omega, by omega⟩), ?_⟩
          intro I20 q86_0 q86_1
          intro I23 q87_0 q87_1
          have hPS := q87_1
          intro I26 q88_0 q88_1
          have hPS := PShut.fr hPS q88_0 (fun _ => rfl)
          refine ⟨by first | assumption | exact inRd rfl | omega | exact ⟨by omega, by omega⟩ | (have q9 := stS_in hWfP (c := x1) (year := x2) (known := x4) (by omega); exact ⟨by omega, by omega⟩), ?_⟩
          refine ⟨by first | assumption | exact inRd rfl | omega | exact ⟨by omega, by omega⟩ | (have q9 := stS_in hWfP (c := x1) (year := x2) (known := x4) (by omega); exact ⟨by omega, by omega⟩), ?_⟩
          refine ⟨x4, by assumption, by assumption, ?_⟩
          intro I32 q89_0 q89_1
          have hPS := PShut.fr hPS q89_0 (fun _ => rfl)
          rw [ho] at hK
          exact hK _ (FM.trans (FM.trans (FM.trans (FM.trans (FM.refl _) (Fr.FM q86_0 rfl)) (Fr.FM q87_0 rfl)) (Fr.FM q88_0 rfl)) (Fr.FM q89_0 rfl)) (q89_1)
        · rw [if_neg c85] at ho
          rw [ho] at hK
          exact hK _ (FM.refl _) (hR)
      · rw [if_neg c84] at ho
        rw [ho] at hK
        exact hK _ (FM.refl _) (hR)
    · rw [if_neg c83] at ho
      rw [ho] at hK
      exact hK _ (FM.refl _) (hR)
  · rw [if_neg c82] at ho
    rw [ho] at hK
    exact hK _ (FM.refl _) (hR)
theorem dq {x : Int} (h : 0 ≤ x ∧ x ≤ 799) : (0 ≤ Int.tdiv x 100 ∧ Int.tdiv x 100 ≤ 7) ∧ 0 ≤ x - Int.tdiv x 100 * 100 ∧ x - Int.tdiv x 100 * 100 < 100 := by
  rw [Int.tdiv_eq_ediv_of_nonneg (by omega)]; omega
set_option maxRecDepth 4000 in
theorem e248 {d L : Nat} {I : Nat → Nat → Int32} {R : Nat → Nat → Option Nat} {S : List (Nat × Nat)} {K : Int32 → mM → Prop} {A : aS} (hR : RM I A) {x1 : Int} {x2 : Int} {x3 : Int} {x4 : Int} {x5 : Int} (hE : inR x1 ∧ (inR (A 91 1 - 1) ∧ (((0 ≤ x1 ∧ x1 ≤ A 91 1 - 1) → inR x2 ∧ (((0 ≤ x2 ∧ x2 ≤ 799) → inR x3 ∧ (((0 ≤ x3 ∧ x3 ≤ 1) → ((0 ≤ (0 : Int) ∧ (0 : Int) ≤ 7) → inR x4 ∧ (((0 ≤ x4 ∧ x4 ≤ 7) → inR x5 ∧ (((0 ≤ x5 ∧ x5 ≤ 799) → WfA A ∧ (WfC A ∧ (WfP A ∧ ((0 ≤ x1 ∧ x1 < A 91 1) ∧ ((0 ≤ Int.tdiv x2 100 ∧ Int.tdiv x2 100 ≤ 7) ∧ (∀ (I25 : mI), (Fr [150, 151] [(91, 87)] I I25) → (RM I25 A) → ∀ (I28 : mI), (Fr [116] [] I25 I28) → (PShut A (Int.tdiv x2 100) x5 I28) → ∀ (I31 : mI), (Fr [111, 112, 113, 114, 115] [] I28 I31) → (Pnt A x1 (Int.tdiv x2 100) x5 I31) → (0 ≤ x2 - Int.tdiv x2 100 * 100 ∧ x2 - Int.tdiv x2 100 * 100 < 100) ∧ ((0 ≤ x3 ∧ x3 ≤ 1) ∧ ((0 ≤ x4 ∧ x4 ≤ 7) ∧ (inR (stS A x1 (Int.tdiv x2 100) x5) ∧ (∃ n34 : Int, PShut A (Int.tdiv x2 100) n34 I31 ∧ Pnt A x1 (Int.tdiv x2 100) n34 I31 ∧ (∀ (I37 : mI), (Fr [150, 151] [(91, 87)] I31 I37) → (RM I37 A) → K (oI (qtS A x1 (Int.tdiv x2 100) (x2 - Int.tdiv x2 100 * 100) x3 x4 (stS A x1 (Int.tdiv x2 100) x5) n34)) (bd L I37 R S)))))))))))) ∧ (¬ (0 ≤ x5 ∧ x5 ≤ 799) → K (oI (-1)) (bd L I R S)))) ∧ (¬ (0 ≤ x4 ∧ x4 ≤ 7) → K (oI (-1)) (bd L I R S)))) ∧ (¬ (0 ≤ (0 : Int) ∧ (0 : Int) ≤ 7) → K (oI (-1)) (bd L I R S))) ∧ (¬ (0 ≤ x3 ∧ x3 ≤ 1) → K (oI (-1)) (bd L I R S)))) ∧ (¬ (0 ≤ x2 ∧ x2 ≤ 799) → K (oI (-1)) (bd L I R S)))) ∧ (¬ (0 ≤ x1 ∧ x1 ≤ A 91 1 - 1) → K (oI (-1)) (bd L I R S))))) : CallI (d + 29) 248 [.ref 91, .int (oI x1), .int (oI x2), .int (oI x3), .int (oI x4), .int (oI x5)] (bd L I R S) K := by
  refine cI_of (ls := [.ref 91, .int (oI x1), .int (oI x2), .int (oI x3), .int (oI x4), .int (oI x5), mUn, mUn]) rfl ?_
  refine xG gb248.1 ?_
  refine s6 (p := 91) rfl ?_
  refine s4 (x := x1) rfl ?_
  refine sI rc215 rfl (Nat.le_of_ble_eq_true rfl) ?_
  refine cI_of (ls := [.ref 91, .int (oI x1)]) rfl ?_
  refine xG gb215 ?_
  refine s4 (x := x1) rfl ?_
  refine s0 ?_
  refine s6 (p := 91) rfl ?_
  refine s50 (v := A 91 1) sh91 (by decide) (by decide) (rdM hR.1 rfl) ?_
  refine s0 ?_
  refine s17 ?_
  obtain ⟨g1, hE⟩ := hE
  obtain ⟨g2, hE⟩ := hE
  refine sI rc210 rfl (Nat.le_of_ble_eq_true rfl) ?_
  refine k210 g1 (inRd rfl) g2 (fun c3 => ?_) (fun c3 => ?_)
  · replace hE := hE.1 c3
    refine s84 (by decide) ?_
    refine rqI_of ?_
    refine s67 (inRd rfl) (fun c4 => absurd c4 (by decide)) (fun _ => ?_)
    refine s4 (x := x2) rfl ?_
    refine sI rc230 rfl (Nat.le_of_ble_eq_true rfl) ?_
    refine cI_of (ls := [.int (oI x2)]) rfl ?_
    refine xG gb230 ?_
    refine s4 (x := x2) rfl ?_
    refine s0 ?_
    refine s0 ?_
    obtain ⟨g5, hE⟩ := hE
    refine sI rc210 rfl (Nat.le_of_ble_eq_true rfl) ?_
    refine k210 g5 (inRd rfl) (inRd rfl) (fun c6 => ?_) (fun c6 => ?_)
    · replace hE := hE.1 c6
      refine s84 (by decide) ?_
      refine rqI_of ?_
      refine s67 (inRd rfl) (fun c7 => absurd c7 (by decide)) (fun _ => ?_)
      refine s4 (x := x3) rfl ?_
      refine s0 ?_
      refine s0 ?_
      obtain ⟨g8, hE⟩ := hE
      refine sI rc210 rfl (Nat.le_of_ble_eq_true rfl) ?_
      refine k210 g8 (inRd rfl) (inRd rfl) (fun c9 => ?_) (fun c9 => ?_)
      · replace hE := hE.1 c9
        refine s67 (inRd rfl) (fun c10 => absurd c10 (by decide)) (fun _ => ?_)
        refine s0 ?_
        refine s4 (x := x4) rfl ?_
        refine s4 (x := x5) rfl ?_
        refine sI rc249 rfl (Nat.le_of_ble_eq_true rfl) ?_
        refine cI_of (ls := [.int (oI 0), .int (oI x4), .int (oI x5)]) rfl ?_
        refine xG gb249.1 ?_
        refine s4 (x := 0) rfl ?_
        refine sI rc250 rfl (Nat.le_of_ble_eq_true rfl) ?_
        refine cI_of (ls := [.int (oI 0)]) rfl ?_
        refine xG gb250 ?_
        refine s4 (x := 0) rfl ?_
        refine s0 ?_
        refine s0 ?_
        refine sI rc210 rfl (Nat.le_of_ble_eq_true rfl) ?_
        refine k210 (inRd rfl) (inRd rfl) (inRd rfl) (fun c11 => ?_) (fun c11 => ?_)
        · replace hE := hE.1 c11
          refine s84 (by decide) ?_
          refine rqI_of ?_
          refine s67 (inRd rfl) (fun c12 => absurd c12 (by decide)) (fun _ => ?_)
          refine s4 (x := x4) rfl ?_
          refine sI rc250 rfl (Nat.le_of_ble_eq_true rfl) ?_
          refine cI_of (ls := [.int (oI x4)]) rfl ?_
          refine xG gb250 ?_
          refine s4 (x := x4) rfl ?_
          refine s0 ?_
          refine s0 ?_
          obtain ⟨g13, hE⟩ := hE
          refine sI rc210 rfl (Nat.le_of_ble_eq_true rfl) ?_
          refine k210 g13 (inRd rfl) (inRd rfl) (fun c14 => ?_) (fun c14 => ?_)
          · replace hE := hE.1 c14
            refine s84 (by decide) ?_
            refine rqI_of ?_
            refine s67 (inRd rfl) (fun c15 => absurd c15 (by decide)) (fun _ => ?_)
            refine s4 (x := x5) rfl ?_
            refine sI rc230 rfl (Nat.le_of_ble_eq_true rfl) ?_
            refine cI_of (ls := [.int (oI x5)]) rfl ?_
            refine xG gb230 ?_
            refine s4 (x := x5) rfl ?_
            refine s0 ?_
            refine s0 ?_
            obtain ⟨g16, hE⟩ := hE
            refine sI rc210 rfl (Nat.le_of_ble_eq_true rfl) ?_
            refine k210 g16 (inRd rfl) (inRd rfl) (fun c17 => ?_) (fun c17 => ?_)
            · replace hE := hE.1 c17
              refine s84 (by decide) ?_
              refine rqI_of ?_
              refine s67 (inRd rfl) (fun c18 => absurd c18 (by decide)) (fun _ => ?_)
              refine s0 ?_
              refine s60 ?_
              refine xG gb249.2.2 ?_
              refine s84 (by decide) ?_
              refine rqI_of ?_
              refine s68 (inRd rfl) (fun c19 => absurd c19 (by decide)) (fun _ => ?_)
              refine xG gb248.2.2 ?_
              refine s4 (x := x2) rfl ?_
              refine s0 ?_
              refine s19 g5 ⟨(inRd rfl), by decide⟩ ?_
              refine s7 (ls' := [.ref 91, .int (oI x1), .int (oI x2), .int (oI x3), .int (oI x4), .int (oI x5), .int (oI (Int.tdiv x2 100)), mUn]) (Nat.le_of_ble_eq_true rfl) rfl ?_
              refine s6 (p := 91) rfl ?_
              refine s4 (x := x1) rfl ?_
              refine s4 (x := Int.tdiv x2 100) rfl ?_
              refine s4 (x := x5) rfl ?_
              obtain ⟨g20, hE⟩ := hE
              obtain ⟨g21, hE⟩ := hE
              obtain ⟨g22, hE⟩ := hE
              obtain ⟨g23, hE⟩ := hE
              obtain ⟨g24, hE⟩ := hE
              refine sI rc233 rfl (Nat.le_of_ble_eq_true rfl) ?_
              refine k233 hR g20 g21 g22 g23 g24 g16 (fun I25 q26 q27 => ?_)
              replace hE := hE I25 q26 q27
              refine s7 (ls' := [.ref 91, .int (oI x1), .int (oI x2), .int (oI x3), .int (oI x4), .int (oI x5), .int (oI (Int.tdiv x2 100)), .int (oI (stS A x1 (Int.tdiv x2 100) x5))]) (Nat.le_of_ble_eq_true rfl) rfl ?_
              refine s6 (p := 91) rfl ?_
              refine s4 (x := Int.tdiv x2 100) rfl ?_
              refine s4 (x := x5) rfl ?_
              refine sV rc251 rfl (Nat.le_of_ble_eq_true rfl) ?_
              refine k251R (q27) g20 g24 g16 (fun I28 q29 q30 => ?_)
              replace hE := hE I28 q29 q30
              refine s6 (p := 91) rfl ?_
              refine s4 (x := x1) rfl ?_
              refine s4 (x := Int.tdiv x2 100) rfl ?_
              refine s4 (x := x5) rfl ?_
              refine sV rc252 rfl (Nat.le_of_ble_eq_true rfl) ?_
              refine k252R (RM.fr (q27) q29 rfl rfl (fun _ => rfl)) g20 g24 g1 g16 (fun I31 q32 q33 => ?_)
              replace hE := hE I31 q32 q33
              refine s6 (p := 91) rfl ?_
              refine s4 (x := x1) rfl ?_
              refine s4 (x := Int.tdiv x2 100) rfl ?_
              refine s4 (x := x2) rfl ?_
              refine s0 ?_
              refine s20 g5 ⟨(inRd rfl), by decide⟩ ?_
              refine s4 (x := x3) rfl ?_
              refine s4 (x := x4) rfl ?_
              refine s4 (x := stS A x1 (Int.tdiv x2 100) x5) rfl ?_
              obtain ⟨g40, hE⟩ := hE
              obtain ⟨g41, hE⟩ := hE
              obtain ⟨g42, hE⟩ := hE
              obtain ⟨g43, hE⟩ := hE
              obtain ⟨n34, k35, k36, hE⟩ := hE
              refine sI rc253 rfl (Nat.le_of_ble_eq_true rfl) ?_
              refine k253 (RM.fr (RM.fr (q27) q29 rfl rfl (fun _ => rfl)) q32 rfl rfl (fun _ => rfl)) g20 g21 g22 g23 g24 g40 g41 g42 g43 k35 k36 (fun I37 q38 q39 => ?_)
              replace hE := hE I37 q38 q39
              refine s80 ?_
              exact rqI_of hE
            · replace hE := hE.2 c17
              refine s84 (by decide) ?_
              refine rqI_of ?_
              refine s67 (inRd rfl) (fun _ => ?_) (fun c44 => absurd (by decide) c44)
              refine xG gb249.2.1 ?_
              refine s0 ?_
              refine s79 ?_
              refine xG gb249.2.2 ?_
              refine s84 (by decide) ?_
              refine rqI_of ?_
              refine s68 (inRd rfl) (fun _ => ?_) (fun c45 => absurd (by decide) c45)
              refine s79 ?_
              refine xG gb248.2.1 ?_
              refine s0 ?_
              refine s80 ?_
              exact rqI_of hE
          · replace hE := hE.2 c14
            refine s84 (by decide) ?_
            refine rqI_of ?_
            refine s67 (inRd rfl) (fun _ => ?_) (fun c46 => absurd (by decide) c46)
            refine xG gb249.2.1 ?_
            refine s0 ?_
            refine s79 ?_
            refine xG gb249.2.2 ?_
            refine s84 (by decide) ?_
            refine rqI_of ?_
            refine s68 (inRd rfl) (fun _ => ?_) (fun c47 => absurd (by decide) c47)
            refine s79 ?_
            refine xG gb248.2.1 ?_
            refine s0 ?_
            refine s80 ?_
            exact rqI_of hE
        · replace hE := hE.2 c11
          refine s84 (by decide) ?_
          refine rqI_of ?_
          refine s67 (inRd rfl) (fun _ => ?_) (fun c48 => absurd (by decide) c48)
          refine xG gb249.2.1 ?_
          refine s0 ?_
          refine s79 ?_
          refine xG gb249.2.2 ?_
          refine s84 (by decide) ?_
          refine rqI_of ?_
          refine s68 (inRd rfl) (fun _ => ?_) (fun c49 => absurd (by decide) c49)
          refine s79 ?_
          refine xG gb248.2.1 ?_
          refine s0 ?_
          refine s80 ?_
          exact rqI_of hE
      · replace hE := hE.2 c9
        refine s67 (inRd rfl) (fun _ => ?_) (fun c50 => absurd (by decide) c50)
        refine xG gb248.2.1 ?_
        refine s0 ?_
        refine s80 ?_
        exact rqI_of hE
    · replace hE := hE.2 c6
      refine s84 (by decide) ?_
      refine rqI_of ?_
      refine s67 (inRd rfl) (fun _ => ?_) (fun c51 => absurd (by decide) c51)
      refine xG gb248.2.1 ?_
      refine s0 ?_
      refine s80 ?_
      exact rqI_of hE
  · replace hE := hE.2 c3
    refine s84 (by decide) ?_
    refine rqI_of ?_
    refine s67 (inRd rfl) (fun _ => ?_) (fun c52 => absurd (by decide) c52)
    refine xG gb248.2.1 ?_
    refine s0 ?_
    refine s80 ?_
    exact rqI_of hE
noncomputable def o248 (A : aS) (x1 : Int) (x2 : Int) (x3 : Int) (x4 : Int) (x5 : Int) : Int × aS := (if 0 ≤ x1 ∧ x1 ≤ A 91 1 - 1 then (if 0 ≤ x2 ∧ x2 ≤ 799 then (if 0 ≤ x3 ∧ x3 ≤ 1 then (if 0 ≤ (0 : Int) ∧ (0 : Int) ≤ 7 then (if 0 ≤ x4 ∧ x4 ≤ 7 then (if 0 ≤ x5 ∧ x5 ≤ 799 then ((qtS A x1 (Int.tdiv x2 100) (x2 - Int.tdiv x2 100 * 100) x3 x4 (stS A x1 (Int.tdiv x2 100) x5) (x5)), A) else ((-1), A)) else ((-1), A)) else ((-1), A)) else ((-1), A)) else ((-1), A)) else ((-1), A))
theorem k248 {d L : Nat} {I : mI} {R : Nat → Nat → Option Nat} {S : List (Nat × Nat)} {A : aS} {K : Int32 → mM → Prop} {x1 : Int} {x2 : Int} {x3 : Int} {x4 : Int} {x5 : Int} (hR : RM I A) (hWfA : WfA A) (hWfC : WfC A) (hWfP : WfP A) (rx1 : inR x1) (rx2 : inR x2) (rx3 : inR x3) (rx4 : inR x4) (rx5 : inR x5) (hK : ∀ I1, FM I I1 → RM I1 (o248 A x1 x2 x3 x4 x5).2 → K (oI (o248 A x1 x2 x3 x4 x5).1) (bd L I1 R S)) : CallI (d + 29) 248 [.ref 91, .int (oI x1), .int (oI x2), .int (oI x3), .int (oI x4), .int (oI x5)] (bd L I R S) K := by
  have ho : o248 A x1 x2 x3 x4 x5 = (if 0 ≤ x1 ∧ x1 ≤ A 91 1 - 1 then (if 0 ≤ x2 ∧ x2 ≤ 799 then (if 0 ≤ x3 ∧ x3 ≤ 1 then (if 0 ≤ (0 : Int) ∧ (0 : Int) ≤ 7 then (if 0 ≤ x4 ∧ x4 ≤ 7 then (if 0 ≤ x5 ∧ x5 ≤ 799 then ((qtS A x1 (Int.tdiv x2 100) (x2 - Int.tdiv x2 100 * 100) x3 x4 (stS A x1 (Int.tdiv x2 100) x5) (x5)), A) else ((-1), A)) else ((-1), A)) else ((-1), A)) else ((-1), A)) else ((-1), A)) else ((-1), A)) := rfl
  have w0 := hWfA.1
  have w1 := hWfA.2.1
  have w2 := hWfA.2.2.1
  have w3 : 0 ≤ A 91 3 ∧ A 91 3 ≤ 850 := hWfA.2.2.2.1
  have wN := hWfA.2.2.2.1
  have ty := today_year hWfA
  refine e248 (d := d) hR ?_
  refine ⟨by first | assumption | exact inRd rfl | omega | exact ⟨by omega, by omega⟩ | exact (dq (by assumption)).1 | exact (dq (by assumption)).2 | (have q9 := stS_in hWfP (c := x1) (year := (Int.tdiv x2 100)) (known := x5) (by omega); exact ⟨by omega, by omega⟩), ?_⟩
  refine ⟨by first | assumption | exact inRd rfl | omega | exact ⟨by omega, by omega⟩ | exact (dq (by assumption)).1 | exact (dq (by assumption)).2 | (have q9 := stS_in hWfP (c := x1) (year := (Int.tdiv x2 100)) (known := x5) (by omega); exact ⟨by omega, by omega⟩), ?_⟩
  refine ⟨fun c90 => ?_, fun c90 => ?_⟩
  · rw [if_pos c90] at ho
    refine ⟨by first | assumption | exact inRd rfl | omega | exact ⟨by omega, by omega⟩ | exact (dq (by assumption)).1 | exact (dq (by assumption)).2 | (have q9 := stS_in hWfP (c := x1) (year := (Int.tdiv x2 100)) (known := x5) (by omega); exact ⟨by omega, by omega⟩), ?_⟩
    refine ⟨fun c91 => ?_, fun c91 => ?_⟩
    · rw [if_pos c91] at ho
      refine ⟨by first | assumption | exact inRd rfl | omega | exact ⟨by omega, by omega⟩ | exact (dq (by assumption)).1 | exact (dq (by assumption)).2 | (have q9 := stS_in hWfP (c := x1) (year := (Int.tdiv x2 100)) (known := x5) (by omega); exact ⟨by omega, by omega⟩), ?_⟩
      refine ⟨fun c92 => ?_, fun c92 => ?_⟩
      · rw [if_pos c92] at ho
        refine ⟨fun c93 => ?_, fun c93 => ?_⟩
        · rw [if_pos c93] at ho
          refine ⟨by first | assumption | exact inRd rfl | omega | exact ⟨by omega, by omega⟩ | exact (dq (by assumption)).1 | exact (dq (by assumption)).2 | (have q9 := stS_in hWfP (c := x1) (year := (Int.tdiv x2 100)) (known := x5) (by omega); exact ⟨by omega, by omega⟩), ?_⟩
          refine ⟨fun c94 => ?_, fun c94 => ?_⟩
          · rw [if_pos c94] at ho
            refine ⟨by first | assumption | exact inRd rfl | omega | exact ⟨by omega, by omega⟩ | exact (dq (by assumption)).1 | exact (dq (by assumption)).2 | (have q9 := stS_in hWfP (c := x1) (year := (Int.tdiv x2 100)) (known := x5) (by omega); exact ⟨by omega, by omega⟩), ?_⟩
            refine ⟨fun c95 => ?_, fun c95 => ?_⟩
            · rw [if_pos c95] at ho
              refine ⟨by first | assumption | exact inRd rfl | omega | exact ⟨by omega, by omega⟩ | exact (dq (by assumption)).1 | exact (dq (by assumption)).2 | (have q9 := stS_in hWfP (c := x1) (year := (Int.tdiv x2 100)) (known := x5) (by omega); exact ⟨by omega, by omega⟩), ?_⟩
              refine ⟨by first | assumption | exact inRd rfl | omega | exact ⟨by omega, by omega⟩ | exact (dq (by assumption)).1 | exact (dq (by assumption)).2 | (have q9 := stS_in hWfP (c := x1) (year := (Int.tdiv x2 100)) (known := x5) (by omega); exact ⟨by omega, by omega⟩), ?_⟩
              refine ⟨by first | assumption | exact inRd rfl | omega | exact ⟨by omega, by omega⟩ | exact (dq (by assumption)).1 | exact (dq (by assumption)).2 | (have q9 := stS_in hWfP (c := x1) (year := (Int.tdiv x2 100)) (known := x5) (by omega); exact ⟨by omega, by omega⟩), ?_⟩
              refine ⟨by first | assumption | exact inRd rfl | omega | exact ⟨by omega, by omega⟩ | exact (dq (by assumption)).1 | exact (dq (by assumption)).2 | (have q9 := stS_in hWfP (c := x1) (year := (Int.tdiv x2 100)) (known := x5) (by omega); exact ⟨by omega, by omega⟩), ?_⟩
              refine ⟨by first | assumption | exact inRd rfl | omega | exact ⟨by omega, by omega⟩ | exact (dq (by assumption)).1 | exact (dq (by assumption)).2 | (have q9 := stS_in hWfP (c := x1) (year := (Int.tdiv x2 100)) (known := x5) (by omega); exact ⟨by omega, by omega⟩), ?_⟩
              intro I25 q96_0 q96_1
              intro I28 q97_0 q97_1
              have hPS := q97_1
              intro I31 q98_0 q98_1
              have hPS := PShut.fr hPS q98_0 (fun _ => rfl)
              refine ⟨by first | assumption | exact inRd rfl | omega | exact ⟨by omega, by omega⟩ | exact (dq (by assumption)).1 | exact (dq (by assumption)).2 | (have q9 := stS_in hWfP (c := x1) (year := (Int.tdiv x2 100)) (known := x5) (by omega); exact ⟨by omega, by omega⟩), ?_⟩
              refine ⟨by first | assumption | exact inRd rfl | omega | exact ⟨by omega, by omega⟩ | exact (dq (by assumption)).1 | exact (dq (by assumption)).2 | (have q9 := stS_in hWfP (c := x1) (year := (Int.tdiv x2 100)) (known := x5) (by omega); exact ⟨by omega, by omega⟩), ?_⟩
              refine ⟨by first | assumption | exact inRd rfl | omega | exact ⟨by omega, by omega⟩ | exact (dq (by assumption)).1 | exact (dq (by assumption)).2 | (have q9 := stS_in hWfP (c := x1) (year := (Int.tdiv x2 100)) (known := x5) (by omega); exact ⟨by omega, by omega⟩), ?_⟩
              refine ⟨by first | assumption | exact inRd rfl | omega | exact ⟨by omega, by omega⟩ | exact (dq (by assumption)).1 | exact (dq (by assumption)).2 | (have q9 := stS_in hWfP (c := x1) (year := (Int.tdiv x2 100)) (known := x5) (by omega); exact ⟨by omega, by omega⟩), ?_⟩
              refine ⟨x5, by assumption, by assumption, ?_⟩
              intro I37 q99_0 q99_1
              have hPS := PShut.fr hPS q99_0 (fun _ => rfl)
              rw [ho] at hK
              exact hK _ (FM.trans (FM.trans (FM.trans (FM.trans (FM.refl _) (Fr.FM q96_0 rfl)) (Fr.FM q97_0 rfl)) (Fr.FM q98_0 rfl)) (Fr.FM q99_0 rfl)) (q99_1)
            · rw [if_neg c95] at ho
              rw [ho] at hK
              exact hK _ (FM.refl _) (hR)
          · rw [if_neg c94] at ho
            rw [ho] at hK
            exact hK _ (FM.refl _) (hR)
        · rw [if_neg c93] at ho
          rw [ho] at hK
          exact hK _ (FM.refl _) (hR)
      · rw [if_neg c92] at ho
        rw [ho] at hK
        exact hK _ (FM.refl _) (hR)
    · rw [if_neg c91] at ho
      rw [ho] at hK
      exact hK _ (FM.refl _) (hR)
  · rw [if_neg c90] at ho
    rw [ho] at hK
    exact hK _ (FM.refl _) (hR)
def WfU (A : aS) : Prop := 0 ≤ A 91 4 ∧ A 91 4 ≤ A 91 3
set_option maxRecDepth 4000 in
theorem e243 {d L : Nat} {I : Nat → Nat → Int32} {R : Nat → Nat → Option Nat} {S : List (Nat × Nat)} {K : Int32 → mM → Prop} {A : aS} (hR : RM I A) {x1 : Int} (hE : inR x1 ∧ (inR (A 91 3 - 1) ∧ (((0 ≤ x1 ∧ x1 ≤ A 91 3 - 1) → (0 ≤ x1 ∧ x1 < 850) ∧ (((A 109 x1.toNat = 5000) → K (oI 1) (bd L (u2 (u2 I 109 x1.toNat (oI (A 91 0))) 91 4 (oI (A 91 4 + 1))) R S)) ∧ (¬ (A 109 x1.toNat = 5000) → K (oI 0) (bd L I R S)))) ∧ (¬ (0 ≤ x1 ∧ x1 ≤ A 91 3 - 1) → K (oI 0) (bd L I R S))))) : CallI (d + 1) 243 [.ref 91, .int (oI x1)] (bd L I R S) K := by
  refine cI_of (ls := [.ref 91, .int (oI x1)]) rfl ?_
  refine xG gb243.1 ?_
  refine s4 (x := x1) rfl ?_
  refine s0 ?_
  refine s6 (p := 91) rfl ?_
  refine s50 (v := A 91 3) sh91 (by decide) (by decide) (rdM hR.1 rfl) ?_
  refine s0 ?_
  refine s17 ?_
  obtain ⟨g1, hE⟩ := hE
  obtain ⟨g2, hE⟩ := hE
  refine sI rc210 rfl (Nat.le_of_ble_eq_true rfl) ?_
  refine k210 g1 (inRd rfl) g2 (fun c3 => ?_) (fun c3 => ?_)
  · replace hE := hE.1 c3
    refine s67 (inRd rfl) (fun c4 => absurd c4 (by decide)) (fun _ => ?_)
    refine s6 (p := 91) rfl ?_
    refine s51 sh91 (by decide) (by decide) rf91_22 ?_
    refine s4 (x := x1) rfl ?_
    obtain ⟨g5, hE⟩ := hE
    refine s40 (v := A 109 x1.toNat) sh109 g5 rfl (rdM hR.1 rfl) ?_
    refine s0 ?_
    refine s61 (inA hR.1 (a := 109) (k := x1.toNat) rfl) (inRd rfl) (fun c6 => ?_) (fun c6 => ?_)
    · replace hE := hE.1 c6
      refine xG gb243.2.2 ?_
      refine s6 (p := 91) rfl ?_
      refine s51 sh91 (by decide) (by decide) rf91_22 ?_
      refine s4 (x := x1) rfl ?_
      refine s6 (p := 91) rfl ?_
      refine s50 (v := A 91 0) sh91 (by decide) (by decide) (rdM hR.1 rfl) ?_
      refine s44 sh109 (by decide) g5 rfl ?_
      refine s6 (p := 91) rfl ?_
      refine s13r ?_
      refine s50 (v := A 91 4) sh91 (by decide) (by decide) ((v2_ne (by decide)).trans (rdM hR.1 rfl)) ?_
      refine s0 ?_
      refine s16 ?_
      refine s52 sh91 (by decide) (by decide) ?_
      refine s0 ?_
      refine s84 (by decide) ?_
      exact rqI_of hE
    · replace hE := hE.2 c6
      refine s79 ?_
      refine xG gb243.2.1 ?_
      refine s0 ?_
      refine s84 (by decide) ?_
      exact rqI_of hE
  · replace hE := hE.2 c3
    refine s67 (inRd rfl) (fun _ => ?_) (fun c7 => absurd (by decide) c7)
    refine xG gb243.2.1 ?_
    refine s0 ?_
    refine s84 (by decide) ?_
    exact rqI_of hE
noncomputable def o243 (A : aS) (x1 : Int) : Int × aS := (if 0 ≤ x1 ∧ x1 ≤ A 91 3 - 1 then (if A 109 x1.toNat = 5000 then (1, (u2 (u2 A 109 x1.toNat ((A 91 0))) 91 4 ((A 91 4 + 1)))) else (0, A)) else (0, A))
theorem k243 {d L : Nat} {I : mI} {R : Nat → Nat → Option Nat} {S : List (Nat × Nat)} {A : aS} {K : Int32 → mM → Prop} {x1 : Int} (hR : RM I A) (hWfA : WfA A) (hWfU : WfU A) (rx1 : inR x1) (hK : ∀ I1, FM I I1 → RM I1 (o243 A x1).2 → K (oI (o243 A x1).1) (bd L I1 R S)) : CallI (d + 1) 243 [.ref 91, .int (oI x1)] (bd L I R S) K := by
  have ho : o243 A x1 = (if 0 ≤ x1 ∧ x1 ≤ A 91 3 - 1 then (if A 109 x1.toNat = 5000 then (1, (u2 (u2 A 109 x1.toNat ((A 91 0))) 91 4 ((A 91 4 + 1)))) else (0, A)) else (0, A)) := rfl
  have w0 := hWfA.1
  have w1 := hWfA.2.1
  have w2 := hWfA.2.2.1
  have w3 : 0 ≤ A 91 3 ∧ A 91 3 ≤ 850 := hWfA.2.2.2.1
  have wN := hWfA.2.2.2.1
  have ty := today_year hWfA
  have wu := hWfU
  unfold WfU at wu
  refine e243 (d := d) hR ?_
  refine ⟨by first | assumption | exact inRd rfl | omega | exact ⟨by omega, by omega⟩, ?_⟩
  refine ⟨by first | assumption | exact inRd rfl | omega | exact ⟨by omega, by omega⟩, ?_⟩
  refine ⟨fun c100 => ?_, fun c100 => ?_⟩
  · rw [if_pos c100] at ho
    refine ⟨by first | assumption | exact inRd rfl | omega | exact ⟨by omega, by omega⟩, ?_⟩
    refine ⟨fun c101 => ?_, fun c101 => ?_⟩
    · rw [if_pos c101] at ho
      rw [ho] at hK
      exact hK _ (FM.wr (FM.wr (FM.refl _) (by decide)) (by decide)) (RM.set (RM.set (hR) 109 x1.toNat (by first | assumption | exact inRd rfl | omega | exact ⟨by omega, by omega⟩) rfl) 91 4 (by first | assumption | exact inRd rfl | omega | exact ⟨by omega, by omega⟩) rfl)
    · rw [if_neg c101] at ho
      rw [ho] at hK
      exact hK _ (FM.refl _) (hR)
  · rw [if_neg c100] at ho
    rw [ho] at hK
    exact hK _ (FM.refl _) (hR)
