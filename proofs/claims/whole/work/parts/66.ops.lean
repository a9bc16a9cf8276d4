/-! the reference: more calls -/
set_option maxRecDepth 4000 in
theorem e259 {d L : Nat} {I : Nat → Nat → Int32} {R : Nat → Nat → Option Nat} {S : List (Nat × Nat)} {K : Int32 → mM → Prop} {A : aS} (hR : RM I A) {x1 : Int} {x2 : Int} {x3 : Int} {x4 : Int} {x5 : Int} (hE : inR x1 ∧ (inR (A 91 2 - 1) ∧ (((0 ≤ x1 ∧ x1 ≤ A 91 2 - 1) → inR x2 ∧ (((0 ≤ x2 ∧ x2 ≤ 7) → inR x3 ∧ (((0 ≤ x3 ∧ x3 ≤ 7) → inR x4 ∧ (((0 ≤ x4 ∧ x4 ≤ 799) → inR x5 ∧ (((0 ≤ x5 ∧ x5 ≤ 5) → WfA A ∧ (WfC A ∧ (WfP A ∧ (WfT A ∧ ((0 ≤ x1 ∧ x1 < 6) ∧ ((0 ≤ x2 ∧ x2 ≤ 7) ∧ ((0 ≤ x3 ∧ x3 ≤ 7) ∧ (∀ (I25 : mI), (Fr [111, 112, 113, 114, 115, 116, 117, 118, 119, 120, 150, 151] [(91, 34), (91, 35), (91, 36), (91, 37), (91, 38), (91, 39), (91, 87)] I I25) → (RM I25 A) → (LinesI I25 (gtL A x1 x2 x3 x4)) → (ld I25 91 35 = avS A x1 x2 x3 x4) → (ld I25 91 36 = opS A x1 x2 x4) → (ld I25 91 37 = puL A x1 x2 x4 (A 91 1).toNat) → (ld I25 91 38 = sfS A x1 x2 x3) → (x5 = 0 → K (oI (ld I25 91 35)) (bd L I25 R S)) ∧ (x5 = 1 → K (oI (ld I25 91 36)) (bd L I25 R S)) ∧ (x5 = 2 → K (oI (ld I25 91 37)) (bd L I25 R S)) ∧ (x5 = 3 → K (oI (ld I25 91 38)) (bd L I25 R S)) ∧ (x5 = 4 → K (oI (ld I25 91 39)) (bd L I25 R S)) ∧ (¬ x5 = 0 ∧ ¬ x5 = 1 ∧ ¬ x5 = 2 ∧ ¬ x5 = 3 ∧ ¬ x5 = 4 → K (oI (ld I25 91 34)) (bd L I25 R S)))))))))) ∧ (¬ (0 ≤ x5 ∧ x5 ≤ 5) → K (oI (-1)) (bd L I R S)))) ∧ (¬ (0 ≤ x4 ∧ x4 ≤ 799) → K (oI (-1)) (bd L I R S)))) ∧ (¬ (0 ≤ x3 ∧ x3 ≤ 7) → K (oI (-1)) (bd L I R S)))) ∧ (¬ (0 ≤ x2 ∧ x2 ≤ 7) → K (oI (-1)) (bd L I R S)))) ∧ (¬ (0 ≤ x1 ∧ x1 ≤ A 91 2 - 1) → K (oI (-1)) (bd L I R S))))) : CallI (d + 32) 259 [.ref 91, .int (oI x1), .int (oI x2), .int (oI x3), .int (oI x4), .int (oI x5)] (bd L I R S) K := by
  refine cI_of (ls := [.ref 91, .int (oI x1), .int (oI x2), .int (oI x3), .int (oI x4), .int (oI x5)]) rfl ?_
  refine xG gb259.1 ?_
  refine s6 (p := 91) rfl ?_
  refine s4 (x := x1) rfl ?_
  refine sI rc217 rfl (Nat.le_of_ble_eq_true rfl) ?_
  refine cI_of (ls := [.ref 91, .int (oI x1)]) rfl ?_
  refine xG gb217 ?_
  refine s4 (x := x1) rfl ?_
  refine s0 ?_
  refine s6 (p := 91) rfl ?_
  refine s50 (v := A 91 2) sh91 (by decide) (by decide) (rdM hR.1 rfl) ?_
  refine s0 ?_
  refine s17 ?_
  obtain ⟨g1, hE⟩ := hE
  obtain ⟨g2, hE⟩ := hE
  refine sI rc210 rfl (Nat.le_of_ble_eq_true rfl) ?_
  refine k210 g1 (inRd rfl) g2 (fun c3 => ?_) (fun c3 => ?_)
  · replace hE := hE.1 c3
    refine s84 (by decide) ?_
    refine rqI_of ?_
    refine s67 (inRd rfl) (fun c4 => absurd c4 (by decide)) (fun _ => ?_)
    refine s4 (x := x2) rfl ?_
    refine s4 (x := x3) rfl ?_
    refine s4 (x := x4) rfl ?_
    refine sI rc249 rfl (Nat.le_of_ble_eq_true rfl) ?_
    refine cI_of (ls := [.int (oI x2), .int (oI x3), .int (oI x4)]) rfl ?_
    refine xG gb249.1 ?_
    refine s4 (x := x2) rfl ?_
    refine sI rc250 rfl (Nat.le_of_ble_eq_true rfl) ?_
    refine cI_of (ls := [.int (oI x2)]) rfl ?_
    refine xG gb250 ?_
    refine s4 (x := x2) rfl ?_
    refine s0 ?_
    refine s0 ?_
    obtain ⟨g5, hE⟩ := hE
    refine sI rc210 rfl (Nat.le_of_ble_eq_true rfl) ?_
    refine k210 g5 (inRd rfl) (inRd rfl) (fun c6 => ?_) (fun c6 => ?_)
    · replace hE := hE.1 c6
      refine s84 (by decide) ?_
      refine rqI_of ?_
      refine s67 (inRd rfl) (fun c7 => absurd c7 (by decide)) (fun _ => ?_)
      refine s4 (x := x3) rfl ?_
      refine sI rc250 rfl (Nat.le_of_ble_eq_true rfl) ?_
      refine cI_of (ls := [.int (oI x3)]) rfl ?_
      refine xG gb250 ?_
      refine s4 (x := x3) rfl ?_
      refine s0 ?_
      refine s0 ?_
      obtain ⟨g8, hE⟩ := hE
      refine sI rc210 rfl (Nat.le_of_ble_eq_true rfl) ?_
      refine k210 g8 (inRd rfl) (inRd rfl) (fun c9 => ?_) (fun c9 => ?_)
      · replace hE := hE.1 c9
        refine s84 (by decide) ?_
        refine rqI_of ?_
        refine s67 (inRd rfl) (fun c10 => absurd c10 (by decide)) (fun _ => ?_)
        refine s4 (x := x4) rfl ?_
        refine sI rc230 rfl (Nat.le_of_ble_eq_true rfl) ?_
        refine cI_of (ls := [.int (oI x4)]) rfl ?_
        refine xG gb230 ?_
        refine s4 (x := x4) rfl ?_
        refine s0 ?_
        refine s0 ?_
        obtain ⟨g11, hE⟩ := hE
        refine sI rc210 rfl (Nat.le_of_ble_eq_true rfl) ?_
        refine k210 g11 (inRd rfl) (inRd rfl) (fun c12 => ?_) (fun c12 => ?_)
        · replace hE := hE.1 c12
          refine s84 (by decide) ?_
          refine rqI_of ?_
          refine s67 (inRd rfl) (fun c13 => absurd c13 (by decide)) (fun _ => ?_)
          refine s0 ?_
          refine s60 ?_
          refine xG gb249.2.2 ?_
          refine s84 (by decide) ?_
          refine rqI_of ?_
          refine s67 (inRd rfl) (fun c14 => absurd c14 (by decide)) (fun _ => ?_)
          refine s4 (x := x5) rfl ?_
          refine s0 ?_
          refine s0 ?_
          obtain ⟨g15, hE⟩ := hE
          refine sI rc210 rfl (Nat.le_of_ble_eq_true rfl) ?_
          refine k210 g15 (inRd rfl) (inRd rfl) (fun c16 => ?_) (fun c16 => ?_)
          · replace hE := hE.1 c16
            refine s68 (inRd rfl) (fun c17 => absurd c17 (by decide)) (fun _ => ?_)
            refine xG gb259.2.2.1 ?_
            refine s6 (p := 91) rfl ?_
            refine s4 (x := x1) rfl ?_
            refine s4 (x := x2) rfl ?_
            refine s4 (x := x3) rfl ?_
            refine s4 (x := x4) rfl ?_
            obtain ⟨g18, hE⟩ := hE
            obtain ⟨g19, hE⟩ := hE
            obtain ⟨g20, hE⟩ := hE
            obtain ⟨g21, hE⟩ := hE
            obtain ⟨g22, hE⟩ := hE
            obtain ⟨g23, hE⟩ := hE
            obtain ⟨g24, hE⟩ := hE
            refine sV rc260 rfl (Nat.le_of_ble_eq_true rfl) ?_
            refine k260 hR g18 g19 g20 g21 g22 g23 g24 g11 (fun I25 q26 q27 q28 q29 q30 q31 q32 => ?_)
            replace hE := hE I25 q26 q27 q28 q29 q30 q31 q32
            refine s4 (x := x5) rfl ?_
            refine s76 g15 ?_
            by_cases c33 : x5 = 0
            · replace hE := hE.1 c33
              rw [show mSel ((jSW.getD 259 []).getD 0 []) (x5 - 0) = 3 by rw [c33]; rfl]
              refine xG gb259.2.2.2.1 ?_
              refine s6 (p := 91) rfl ?_
              refine s50 (v := ld I25 91 35) sh91 (by decide) (by decide) (oI_ld _ _ _) ?_
              refine s80 ?_
              exact rqI_of hE
            replace hE := hE.2
            by_cases c34 : x5 = 1
            · replace hE := hE.1 c34
              rw [show mSel ((jSW.getD 259 []).getD 0 []) (x5 - 0) = 4 by rw [c34]; rfl]
              refine xG gb259.2.2.2.2.1 ?_
              refine s6 (p := 91) rfl ?_
              refine s50 (v := ld I25 91 36) sh91 (by decide) (by decide) (oI_ld _ _ _) ?_
              refine s80 ?_
              exact rqI_of hE
            replace hE := hE.2
            by_cases c35 : x5 = 2
            · replace hE := hE.1 c35
              rw [show mSel ((jSW.getD 259 []).getD 0 []) (x5 - 0) = 5 by rw [c35]; rfl]
              refine xG gb259.2.2.2.2.2.1 ?_
              refine s6 (p := 91) rfl ?_
              refine s50 (v := ld I25 91 37) sh91 (by decide) (by decide) (oI_ld _ _ _) ?_
              refine s80 ?_
              exact rqI_of hE
            replace hE := hE.2
            by_cases c36 : x5 = 3
            · replace hE := hE.1 c36
              rw [show mSel ((jSW.getD 259 []).getD 0 []) (x5 - 0) = 6 by rw [c36]; rfl]
              refine xG gb259.2.2.2.2.2.2.1 ?_
              refine s6 (p := 91) rfl ?_
              refine s50 (v := ld I25 91 38) sh91 (by decide) (by decide) (oI_ld _ _ _) ?_
              refine s80 ?_
              exact rqI_of hE
            replace hE := hE.2
            by_cases c37 : x5 = 4
            · replace hE := hE.1 c37
              rw [show mSel ((jSW.getD 259 []).getD 0 []) (x5 - 0) = 7 by rw [c37]; rfl]
              refine xG gb259.2.2.2.2.2.2.2.1 ?_
              refine s6 (p := 91) rfl ?_
              refine s50 (v := ld I25 91 39) sh91 (by decide) (by decide) (oI_ld _ _ _) ?_
              refine s80 ?_
              exact rqI_of hE
            replace hE := hE.2
            replace hE := hE ⟨c33, c34, c35, c36, c37⟩
            rw [show mSel ((jSW.getD 259 []).getD 0 []) (x5 - 0) = 8 by exact mSel_def (lo := 0) (vs := [0, 1, 2, 3, 4]) rfl (by intro v hv; simp only [List.mem_cons, List.not_mem_nil, or_false] at hv; omega)]
            refine xG gb259.2.2.2.2.2.2.2.2 ?_
            refine s6 (p := 91) rfl ?_
            refine s50 (v := ld I25 91 34) sh91 (by decide) (by decide) (oI_ld _ _ _) ?_
            refine s80 ?_
            exact rqI_of hE
          · replace hE := hE.2 c16
            refine s68 (inRd rfl) (fun _ => ?_) (fun c38 => absurd (by decide) c38)
            refine s79 ?_
            refine xG gb259.2.1 ?_
            refine s0 ?_
            refine s80 ?_
            exact rqI_of hE
        · replace hE := hE.2 c12
          refine s84 (by decide) ?_
          refine rqI_of ?_
          refine s67 (inRd rfl) (fun _ => ?_) (fun c39 => absurd (by decide) c39)
          refine xG gb249.2.1 ?_
          refine s0 ?_
          refine s79 ?_
          refine xG gb249.2.2 ?_
          refine s84 (by decide) ?_
          refine rqI_of ?_
          refine s67 (inRd rfl) (fun _ => ?_) (fun c40 => absurd (by decide) c40)
          refine xG gb259.2.1 ?_
          refine s0 ?_
          refine s80 ?_
          exact rqI_of hE
      · replace hE := hE.2 c9
        refine s84 (by decide) ?_
        refine rqI_of ?_
        refine s67 (inRd rfl) (fun _ => ?_) (fun c41 => absurd (by decide) c41)
        refine xG gb249.2.1 ?_
        refine s0 ?_
        refine s79 ?_
        refine xG gb249.2.2 ?_
        refine s84 (by decide) ?_
        refine rqI_of ?_
        refine s67 (inRd rfl) (fun _ => ?_) (fun c42 => absurd (by decide) c42)
        refine xG gb259.2.1 ?_
        refine s0 ?_
        refine s80 ?_
        exact rqI_of hE
    · replace hE := hE.2 c6
      refine s84 (by decide) ?_
      refine rqI_of ?_
      refine s67 (inRd rfl) (fun _ => ?_) (fun c43 => absurd (by decide) c43)
      refine xG gb249.2.1 ?_
      refine s0 ?_
      refine s79 ?_
      refine xG gb249.2.2 ?_
      refine s84 (by decide) ?_
      refine rqI_of ?_
      refine s67 (inRd rfl) (fun _ => ?_) (fun c44 => absurd (by decide) c44)
      refine xG gb259.2.1 ?_
      refine s0 ?_
      refine s80 ?_
      exact rqI_of hE
  · replace hE := hE.2 c3
    refine s84 (by decide) ?_
    refine rqI_of ?_
    refine s67 (inRd rfl) (fun _ => ?_) (fun c45 => absurd (by decide) c45)
    refine xG gb259.2.1 ?_
    refine s0 ?_
    refine s80 ?_
    exact rqI_of hE
noncomputable def o259 (A : aS) (x1 : Int) (x2 : Int) (x3 : Int) (x4 : Int) (x5 : Int) : Int × aS := (if 0 ≤ x1 ∧ x1 ≤ A 91 2 - 1 then (if 0 ≤ x2 ∧ x2 ≤ 7 then (if 0 ≤ x3 ∧ x3 ≤ 7 then (if 0 ≤ x4 ∧ x4 ≤ 799 then (if 0 ≤ x5 ∧ x5 ≤ 5 then (if x5 = 0 then ((avS A x1 x2 x3 x4), A) else (if x5 = 1 then ((opS A x1 x2 x4), A) else (if x5 = 2 then ((puL A x1 x2 x4 (A 91 1).toNat), A) else (if x5 = 3 then ((sfS A x1 x2 x3), A) else (if x5 = 4 then ((lnSum (gtL A x1 x2 x3 x4)), A) else ((((gtL A x1 x2 x3 x4).length : Int)), A)))))) else ((-1), A)) else ((-1), A)) else ((-1), A)) else ((-1), A)) else ((-1), A))
set_option maxRecDepth 4000 in
theorem k259 {d L : Nat} {I : mI} {R : Nat → Nat → Option Nat} {S : List (Nat × Nat)} {A : aS} {K : Int32 → mM → Prop} {x1 : Int} {x2 : Int} {x3 : Int} {x4 : Int} {x5 : Int} (hR : RM I A) (hWfA : WfA A) (hWfC : WfC A) (hWfP : WfP A) (hWfT : WfT A) (rx1 : inR x1) (rx2 : inR x2) (rx3 : inR x3) (rx4 : inR x4) (rx5 : inR x5) (hK : ∀ I1, FM I I1 → RM I1 (o259 A x1 x2 x3 x4 x5).2 → K (oI (o259 A x1 x2 x3 x4 x5).1) (bd L I1 R S)) : CallI (d + 32) 259 [.ref 91, .int (oI x1), .int (oI x2), .int (oI x3), .int (oI x4), .int (oI x5)] (bd L I R S) K := by
  have ho : o259 A x1 x2 x3 x4 x5 = (if 0 ≤ x1 ∧ x1 ≤ A 91 2 - 1 then (if 0 ≤ x2 ∧ x2 ≤ 7 then (if 0 ≤ x3 ∧ x3 ≤ 7 then (if 0 ≤ x4 ∧ x4 ≤ 799 then (if 0 ≤ x5 ∧ x5 ≤ 5 then (if x5 = 0 then ((avS A x1 x2 x3 x4), A) else (if x5 = 1 then ((opS A x1 x2 x4), A) else (if x5 = 2 then ((puL A x1 x2 x4 (A 91 1).toNat), A) else (if x5 = 3 then ((sfS A x1 x2 x3), A) else (if x5 = 4 then ((lnSum (gtL A x1 x2 x3 x4)), A) else ((((gtL A x1 x2 x3 x4).length : Int)), A)))))) else ((-1), A)) else ((-1), A)) else ((-1), A)) else ((-1), A)) else ((-1), A)) := rfl
  have w0 := hWfA.1
  have w1 := hWfA.2.1
  have w2 := hWfA.2.2.1
  have w3 : 0 ≤ A 91 3 ∧ A 91 3 ≤ 850 := hWfA.2.2.2.1
  have wN := hWfA.2.2.2.1
  have ty := today_year hWfA
  refine e259 (d := d) hR ?_
  refine ⟨by first | assumption | exact inRd rfl | omega | exact ⟨by omega, by omega⟩, ?_⟩
  refine ⟨by first | assumption | exact inRd rfl | omega | exact ⟨by omega, by omega⟩, ?_⟩
  refine ⟨fun c1 => ?_, fun c1 => ?_⟩
  · rw [if_pos c1] at ho
    refine ⟨by first | assumption | exact inRd rfl | omega | exact ⟨by omega, by omega⟩, ?_⟩
    refine ⟨fun c2 => ?_, fun c2 => ?_⟩
    · rw [if_pos c2] at ho
      refine ⟨by first | assumption | exact inRd rfl | omega | exact ⟨by omega, by omega⟩, ?_⟩
      refine ⟨fun c3 => ?_, fun c3 => ?_⟩
      · rw [if_pos c3] at ho
        refine ⟨by first | assumption | exact inRd rfl | omega | exact ⟨by omega, by omega⟩, ?_⟩
        refine ⟨fun c4 => ?_, fun c4 => ?_⟩
        · rw [if_pos c4] at ho
          refine ⟨by first | assumption | exact inRd rfl | omega | exact ⟨by omega, by omega⟩, ?_⟩
          refine ⟨fun c5 => ?_, fun c5 => ?_⟩
          · rw [if_pos c5] at ho
            refine ⟨by first | assumption | exact inRd rfl | omega | exact ⟨by omega, by omega⟩, ?_⟩
            refine ⟨by first | assumption | exact inRd rfl | omega | exact ⟨by omega, by omega⟩, ?_⟩
            refine ⟨by first | assumption | exact inRd rfl | omega | exact ⟨by omega, by omega⟩, ?_⟩
            refine ⟨by first | assumption | exact inRd rfl | omega | exact ⟨by omega, by omega⟩, ?_⟩
            refine ⟨by first | assumption | exact inRd rfl | omega | exact ⟨by omega, by omega⟩, ?_⟩
            refine ⟨by first | assumption | exact inRd rfl | omega | exact ⟨by omega, by omega⟩, ?_⟩
            refine ⟨by first | assumption | exact inRd rfl | omega | exact ⟨by omega, by omega⟩, ?_⟩
            intro I25 q6_0 q6_1 q6_2 q6_3 q6_4 q6_5 q6_6
            obtain ⟨li1, li2, li3, li4⟩ := q6_2
            have li3 := (oI_ld _ _ _).symm.trans li3
            try simp only [q6_3, q6_4, q6_5, q6_6, li1, li3]
            refine ⟨fun c7 => ?_, fun c7 => ?_, fun c7 => ?_, fun c7 => ?_, fun c7 => ?_, fun c7 => ?_⟩
            · rw [if_pos c7] at ho
              rw [ho] at hK
              exact hK _ (FM.trans (FM.refl _) (Fr.FM q6_0 rfl)) (q6_1)
            · rw [if_neg (by omega), if_pos c7] at ho
              rw [ho] at hK
              exact hK _ (FM.trans (FM.refl _) (Fr.FM q6_0 rfl)) (q6_1)
            · rw [if_neg (by omega), if_neg (by omega), if_pos c7] at ho
              rw [ho] at hK
              exact hK _ (FM.trans (FM.refl _) (Fr.FM q6_0 rfl)) (q6_1)
            · rw [if_neg (by omega), if_neg (by omega), if_neg (by omega), if_pos c7] at ho
              rw [ho] at hK
              exact hK _ (FM.trans (FM.refl _) (Fr.FM q6_0 rfl)) (q6_1)
            · rw [if_neg (by omega), if_neg (by omega), if_neg (by omega), if_neg (by omega), if_pos c7] at ho
              rw [ho] at hK
              exact hK _ (FM.trans (FM.refl _) (Fr.FM q6_0 rfl)) (q6_1)
            · rw [if_neg (by omega), if_neg (by omega), if_neg (by omega), if_neg (by omega), if_neg (by omega)] at ho
              rw [ho] at hK
              exact hK _ (FM.trans (FM.refl _) (Fr.FM q6_0 rfl)) (q6_1)
          · rw [if_neg c5] at ho
            rw [ho] at hK
            exact hK _ (FM.refl _) (hR)
        · rw [if_neg c4] at ho
          rw [ho] at hK
          exact hK _ (FM.refl _) (hR)
      · rw [if_neg c3] at ho
        rw [ho] at hK
        exact hK _ (FM.refl _) (hR)
    · rw [if_neg c2] at ho
      rw [ho] at hK
      exact hK _ (FM.refl _) (hR)
  · rw [if_neg c1] at ho
    rw [ho] at hK
    exact hK _ (FM.refl _) (hR)
set_option maxRecDepth 4000 in
theorem e265 {d L : Nat} {I : Nat → Nat → Int32} {R : Nat → Nat → Option Nat} {S : List (Nat × Nat)} {K : Int32 → mM → Prop} {A : aS} (hR : RM I A) {x1 : Int} {x2 : Int} {x3 : Int} {x4 : Int} {x5 : Int} {x6 : Int} (hE : inR x1 ∧ (inR (A 91 2 - 1) ∧ (((0 ≤ x1 ∧ x1 ≤ A 91 2 - 1) → inR x2 ∧ (((0 ≤ x2 ∧ x2 ≤ 7) → inR x3 ∧ (((0 ≤ x3 ∧ x3 ≤ 7) → inR x4 ∧ (((0 ≤ x4 ∧ x4 ≤ 799) → inR x6 ∧ (((0 ≤ x6 ∧ x6 ≤ 2) → WfA A ∧ (WfC A ∧ (WfP A ∧ (WfT A ∧ ((0 ≤ x1 ∧ x1 < 6) ∧ ((0 ≤ x2 ∧ x2 ≤ 7) ∧ ((0 ≤ x3 ∧ x3 ≤ 7) ∧ (∀ (I25 : mI), (Fr [111, 112, 113, 114, 115, 116, 117, 118, 119, 120, 150, 151] [(91, 34), (91, 35), (91, 36), (91, 37), (91, 38), (91, 39), (91, 87)] I I25) → (RM I25 A) → (LinesI I25 (gtL A x1 x2 x3 x4)) → (ld I25 91 35 = avS A x1 x2 x3 x4) → (ld I25 91 36 = opS A x1 x2 x4) → (ld I25 91 37 = puL A x1 x2 x4 (A 91 1).toNat) → (ld I25 91 38 = sfS A x1 x2 x3) → inR x5 ∧ (inR (ld I25 91 34 - 1) ∧ (((0 ≤ x5 ∧ x5 ≤ ld I25 91 34 - 1) → ((x6 = 0) → (0 ≤ x5 ∧ x5 < 2600) ∧ (K (oI (ld I25 117 x5.toNat)) (bd L I25 R S))) ∧ (¬ (x6 = 0) → ((x6 = 1) → (0 ≤ x5 ∧ x5 < 2600) ∧ (K (oI (ld I25 118 x5.toNat)) (bd L I25 R S))) ∧ (¬ (x6 = 1) → (0 ≤ x5 ∧ x5 < 2600) ∧ (K (oI (ld I25 119 x5.toNat)) (bd L I25 R S))))) ∧ (¬ (0 ≤ x5 ∧ x5 ≤ ld I25 91 34 - 1) → K (oI (-1000000)) (bd L I25 R S)))))))))))) ∧ (¬ (0 ≤ x6 ∧ x6 ≤ 2) → K (oI (-1000000)) (bd L I R S)))) ∧ (¬ (0 ≤ x4 ∧ x4 ≤ 799) → K (oI (-1000000)) (bd L I R S)))) ∧ (¬ (0 ≤ x3 ∧ x3 ≤ 7) → K (oI (-1000000)) (bd L I R S)))) ∧ (¬ (0 ≤ x2 ∧ x2 ≤ 7) → K (oI (-1000000)) (bd L I R S)))) ∧ (¬ (0 ≤ x1 ∧ x1 ≤ A 91 2 - 1) → K (oI (-1000000)) (bd L I R S))))) : CallI (d + 32) 265 [.ref 91, .int (oI x1), .int (oI x2), .int (oI x3), .int (oI x4), .int (oI x5), .int (oI x6)] (bd L I R S) K := by
  refine cI_of (ls := [.ref 91, .int (oI x1), .int (oI x2), .int (oI x3), .int (oI x4), .int (oI x5), .int (oI x6)]) rfl ?_
  refine xG gb265.1 ?_
  refine s6 (p := 91) rfl ?_
  refine s4 (x := x1) rfl ?_
  refine sI rc217 rfl (Nat.le_of_ble_eq_true rfl) ?_
  refine cI_of (ls := [.ref 91, .int (oI x1)]) rfl ?_
  refine xG gb217 ?_
  refine s4 (x := x1) rfl ?_
  refine s0 ?_
  refine s6 (p := 91) rfl ?_
  refine s50 (v := A 91 2) sh91 (by decide) (by decide) (rdM hR.1 rfl) ?_
  refine s0 ?_
  refine s17 ?_
  obtain ⟨g1, hE⟩ := hE
  obtain ⟨g2, hE⟩ := hE
  refine sI rc210 rfl (Nat.le_of_ble_eq_true rfl) ?_
  refine k210 g1 (inRd rfl) g2 (fun c3 => ?_) (fun c3 => ?_)
  · replace hE := hE.1 c3
    refine s84 (by decide) ?_
    refine rqI_of ?_
    refine s67 (inRd rfl) (fun c4 => absurd c4 (by decide)) (fun _ => ?_)
    refine s4 (x := x2) rfl ?_
    refine s4 (x := x3) rfl ?_
    refine s4 (x := x4) rfl ?_
    refine sI rc249 rfl (Nat.le_of_ble_eq_true rfl) ?_
    refine cI_of (ls := [.int (oI x2), .int (oI x3), .int (oI x4)]) rfl ?_
    refine xG gb249.1 ?_
    refine s4 (x := x2) rfl ?_
    refine sI rc250 rfl (Nat.le_of_ble_eq_true rfl) ?_
    refine cI_of (ls := [.int (oI x2)]) rfl ?_
    refine xG gb250 ?_
    refine s4 (x := x2) rfl ?_
    refine s0 ?_
    refine s0 ?_
    obtain ⟨g5, hE⟩ := hE
    refine sI rc210 rfl (Nat.le_of_ble_eq_true rfl) ?_
    refine k210 g5 (inRd rfl) (inRd rfl) (fun c6 => ?_) (fun c6 => ?_)
    · replace hE := hE.1 c6
      refine s84 (by decide) ?_
      refine rqI_of ?_
      refine s67 (inRd rfl) (fun c7 => absurd c7 (by decide)) (fun _ => ?_)
      refine s4 (x := x3) rfl ?_
      refine sI rc250 rfl (Nat.le_of_ble_eq_true rfl) ?_
      refine cI_of (ls := [.int (oI x3)]) rfl ?_
      refine xG gb250 ?_
      refine s4 (x := x3) rfl ?_
      refine s0 ?_
      refine s0 ?_
      obtain ⟨g8, hE⟩ := hE
      refine sI rc210 rfl (Nat.le_of_ble_eq_true rfl) ?_
      refine k210 g8 (inRd rfl) (inRd rfl) (fun c9 => ?_) (fun c9 => ?_)
      · replace hE := hE.1 c9
        refine s84 (by decide) ?_
        refine rqI_of ?_
        refine s67 (inRd rfl) (fun c10 => absurd c10 (by decide)) (fun _ => ?_)
        refine s4 (x := x4) rfl ?_
        refine sI rc230 rfl (Nat.le_of_ble_eq_true rfl) ?_
        refine cI_of (ls := [.int (oI x4)]) rfl ?_
        refine xG gb230 ?_
        refine s4 (x := x4) rfl ?_
        refine s0 ?_
        refine s0 ?_
        obtain ⟨g11, hE⟩ := hE
        refine sI rc210 rfl (Nat.le_of_ble_eq_true rfl) ?_
        refine k210 g11 (inRd rfl) (inRd rfl) (fun c12 => ?_) (fun c12 => ?_)
        · replace hE := hE.1 c12
          refine s84 (by decide) ?_
          refine rqI_of ?_
          refine s67 (inRd rfl) (fun c13 => absurd c13 (by decide)) (fun _ => ?_)
          refine s0 ?_
          refine s60 ?_
          refine xG gb249.2.2 ?_
          refine s84 (by decide) ?_
          refine rqI_of ?_
          refine s67 (inRd rfl) (fun c14 => absurd c14 (by decide)) (fun _ => ?_)
          refine s4 (x := x6) rfl ?_
          refine s0 ?_
          refine s0 ?_
          obtain ⟨g15, hE⟩ := hE
          refine sI rc210 rfl (Nat.le_of_ble_eq_true rfl) ?_
          refine k210 g15 (inRd rfl) (inRd rfl) (fun c16 => ?_) (fun c16 => ?_)
          · replace hE := hE.1 c16
            refine s68 (inRd rfl) (fun c17 => absurd c17 (by decide)) (fun _ => ?_)
            refine xG gb265.2.2.1 ?_
            refine s6 (p := 91) rfl ?_
            refine s4 (x := x1) rfl ?_
            refine s4 (x := x2) rfl ?_
            refine s4 (x := x3) rfl ?_
            refine s4 (x := x4) rfl ?_
            obtain ⟨g18, hE⟩ := hE
            obtain ⟨g19, hE⟩ := hE
            obtain ⟨g20, hE⟩ := hE
            obtain ⟨g21, hE⟩ := hE
            obtain ⟨g22, hE⟩ := hE
            obtain ⟨g23, hE⟩ := hE
            obtain ⟨g24, hE⟩ := hE
            refine sV rc260 rfl (Nat.le_of_ble_eq_true rfl) ?_
            refine k260 hR g18 g19 g20 g21 g22 g23 g24 g11 (fun I25 q26 q27 q28 q29 q30 q31 q32 => ?_)
            replace hE := hE I25 q26 q27 q28 q29 q30 q31 q32
            refine s4 (x := x5) rfl ?_
            refine s0 ?_
            refine s6 (p := 91) rfl ?_
            refine s50 (v := ld I25 91 34) sh91 (by decide) (by decide) (oI_ld _ _ _) ?_
            refine s0 ?_
            refine s17 ?_
            obtain ⟨g33, hE⟩ := hE
            obtain ⟨g34, hE⟩ := hE
            refine sI rc210 rfl (Nat.le_of_ble_eq_true rfl) ?_
            refine k210 g33 (inRd rfl) g34 (fun c35 => ?_) (fun c35 => ?_)
            · replace hE := hE.1 c35
              refine s68 (inRd rfl) (fun c36 => absurd c36 (by decide)) (fun _ => ?_)
              refine xG gb265.2.2.2.1 ?_
              refine s4 (x := x6) rfl ?_
              refine s68 g15 (fun c37 => ?_) (fun c37 => ?_)
              · replace hE := hE.1 c37
                refine s6 (p := 91) rfl ?_
                refine s51 sh91 (by decide) (by decide) rf91_30 ?_
                refine s4 (x := x5) rfl ?_
                obtain ⟨g38, hE⟩ := hE
                refine s40 (v := ld I25 117 x5.toNat) sh117 g38 rfl (oI_ld _ _ _) ?_
                refine s60 ?_
                refine xG gb265.2.2.2.2.2.2 ?_
                refine s80 ?_
                exact rqI_of hE
              · replace hE := hE.2 c37
                refine xG gb265.2.2.2.2.1 ?_
                refine s4 (x := x6) rfl ?_
                refine s0 ?_
                refine s62 g15 (inRd rfl) (fun c39 => ?_) (fun c39 => ?_)
                · replace hE := hE.1 c39
                  refine s6 (p := 91) rfl ?_
                  refine s51 sh91 (by decide) (by decide) rf91_31 ?_
                  refine s4 (x := x5) rfl ?_
                  obtain ⟨g40, hE⟩ := hE
                  refine s40 (v := ld I25 118 x5.toNat) sh118 g40 rfl (oI_ld _ _ _) ?_
                  refine s60 ?_
                  refine xG gb265.2.2.2.2.2.2 ?_
                  refine s80 ?_
                  exact rqI_of hE
                · replace hE := hE.2 c39
                  refine xG gb265.2.2.2.2.2.1 ?_
                  refine s6 (p := 91) rfl ?_
                  refine s51 sh91 (by decide) (by decide) rf91_32 ?_
                  refine s4 (x := x5) rfl ?_
                  obtain ⟨g41, hE⟩ := hE
                  refine s40 (v := ld I25 119 x5.toNat) sh119 g41 rfl (oI_ld _ _ _) ?_
                  refine s79 ?_
                  refine xG gb265.2.2.2.2.2.2 ?_
                  refine s80 ?_
                  exact rqI_of hE
            · replace hE := hE.2 c35
              refine s68 (inRd rfl) (fun _ => ?_) (fun c42 => absurd (by decide) c42)
              refine s0 ?_
              refine s80 ?_
              exact rqI_of hE
          · replace hE := hE.2 c16
            refine s68 (inRd rfl) (fun _ => ?_) (fun c43 => absurd (by decide) c43)
            refine s79 ?_
            refine xG gb265.2.1 ?_
            refine s0 ?_
            refine s80 ?_
            exact rqI_of hE
        · replace hE := hE.2 c12
          refine s84 (by decide) ?_
          refine rqI_of ?_
          refine s67 (inRd rfl) (fun _ => ?_) (fun c44 => absurd (by decide) c44)
          refine xG gb249.2.1 ?_
          refine s0 ?_
          refine s79 ?_
          refine xG gb249.2.2 ?_
          refine s84 (by decide) ?_
          refine rqI_of ?_
          refine s67 (inRd rfl) (fun _ => ?_) (fun c45 => absurd (by decide) c45)
          refine xG gb265.2.1 ?_
          refine s0 ?_
          refine s80 ?_
          exact rqI_of hE
      · replace hE := hE.2 c9
        refine s84 (by decide) ?_
        refine rqI_of ?_
        refine s67 (inRd rfl) (fun _ => ?_) (fun c46 => absurd (by decide) c46)
        refine xG gb249.2.1 ?_
        refine s0 ?_
        refine s79 ?_
        refine xG gb249.2.2 ?_
        refine s84 (by decide) ?_
        refine rqI_of ?_
        refine s67 (inRd rfl) (fun _ => ?_) (fun c47 => absurd (by decide) c47)
        refine xG gb265.2.1 ?_
        refine s0 ?_
        refine s80 ?_
        exact rqI_of hE
    · replace hE := hE.2 c6
      refine s84 (by decide) ?_
      refine rqI_of ?_
      refine s67 (inRd rfl) (fun _ => ?_) (fun c48 => absurd (by decide) c48)
      refine xG gb249.2.1 ?_
      refine s0 ?_
      refine s79 ?_
      refine xG gb249.2.2 ?_
      refine s84 (by decide) ?_
      refine rqI_of ?_
      refine s67 (inRd rfl) (fun _ => ?_) (fun c49 => absurd (by decide) c49)
      refine xG gb265.2.1 ?_
      refine s0 ?_
      refine s80 ?_
      exact rqI_of hE
  · replace hE := hE.2 c3
    refine s84 (by decide) ?_
    refine rqI_of ?_
    refine s67 (inRd rfl) (fun _ => ?_) (fun c50 => absurd (by decide) c50)
    refine xG gb265.2.1 ?_
    refine s0 ?_
    refine s80 ?_
    exact rqI_of hE
noncomputable def o265 (A : aS) (x1 : Int) (x2 : Int) (x3 : Int) (x4 : Int) (x5 : Int) (x6 : Int) : Int × aS := (if 0 ≤ x1 ∧ x1 ≤ A 91 2 - 1 then (if 0 ≤ x2 ∧ x2 ≤ 7 then (if 0 ≤ x3 ∧ x3 ≤ 7 then (if 0 ≤ x4 ∧ x4 ≤ 799 then (if 0 ≤ x6 ∧ x6 ≤ 2 then (if 0 ≤ x5 ∧ x5 ≤ ((gtL A x1 x2 x3 x4).length : Int) - 1 then (if x6 = 0 then ((((gtL A x1 x2 x3 x4).getD x5.toNat (0, 0, 0)).1), A) else (if x6 = 1 then ((((gtL A x1 x2 x3 x4).getD x5.toNat (0, 0, 0)).2.1), A) else ((((gtL A x1 x2 x3 x4).getD x5.toNat (0, 0, 0)).2.2), A))) else ((-1000000), A)) else ((-1000000), A)) else ((-1000000), A)) else ((-1000000), A)) else ((-1000000), A)) else ((-1000000), A))
set_option maxRecDepth 4000 in
theorem k265 {d L : Nat} {I : mI} {R : Nat → Nat → Option Nat} {S : List (Nat × Nat)} {A : aS} {K : Int32 → mM → Prop} {x1 : Int} {x2 : Int} {x3 : Int} {x4 : Int} {x5 : Int} {x6 : Int} (hR : RM I A) (hWfA : WfA A) (hWfC : WfC A) (hWfP : WfP A) (hWfT : WfT A) (rx1 : inR x1) (rx2 : inR x2) (rx3 : inR x3) (rx4 : inR x4) (rx5 : inR x5) (rx6 : inR x6) (hK : ∀ I1, FM I I1 → RM I1 (o265 A x1 x2 x3 x4 x5 x6).2 → K (oI (o265 A x1 x2 x3 x4 x5 x6).1) (bd L I1 R S)) : CallI (d + 32) 265 [.ref 91, .int (oI x1), .int (oI x2), .int (oI x3), .int (oI x4), .int (oI x5), .int (oI x6)] (bd L I R S) K := by
  have ho : o265 A x1 x2 x3 x4 x5 x6 = (if 0 ≤ x1 ∧ x1 ≤ A 91 2 - 1 then (if 0 ≤ x2 ∧ x2 ≤ 7 then (if 0 ≤ x3 ∧ x3 ≤ 7 then (if 0 ≤ x4 ∧ x4 ≤ 799 then (if 0 ≤ x6 ∧ x6 ≤ 2 then (if 0 ≤ x5 ∧ x5 ≤ ((gtL A x1 x2 x3 x4).length : Int) - 1 then (if x6 = 0 then ((((gtL A x1 x2 x3 x4).getD x5.toNat (0, 0, 0)).1), A) else (if x6 = 1 then ((((gtL A x1 x2 x3 x4).getD x5.toNat (0, 0, 0)).2.1), A) else ((((gtL A x1 x2 x3 x4).getD x5.toNat (0, 0, 0)).2.2), A))) else ((-1000000), A)) else ((-1000000), A)) else ((-1000000), A)) else ((-1000000), A)) else ((-1000000), A)) else ((-1000000), A)) := rfl
  have w0 := hWfA.1
  have w1 := hWfA.2.1
  have w2 := hWfA.2.2.1
  have w3 : 0 ≤ A 91 3 ∧ A 91 3 ≤ 850 := hWfA.2.2.2.1
  have wN := hWfA.2.2.2.1
  have ty := today_year hWfA
  refine e265 (d := d) hR ?_
  refine ⟨by first | assumption | exact inRd rfl | omega | exact ⟨by omega, by omega⟩, ?_⟩
  refine ⟨by first | assumption | exact inRd rfl | omega | exact ⟨by omega, by omega⟩, ?_⟩
  refine ⟨fun c8 => ?_, fun c8 => ?_⟩
  · rw [if_pos c8] at ho
    refine ⟨by first | assumption | exact inRd rfl | omega | exact ⟨by omega, by omega⟩, ?_⟩
    refine ⟨fun c9 => ?_, fun c9 => ?_⟩
    · rw [if_pos c9] at ho
      refine ⟨by first | assumption | exact inRd rfl | omega | exact ⟨by omega, by omega⟩, ?_⟩
      refine ⟨fun c10 => ?_, fun c10 => ?_⟩
      · rw [if_pos c10] at ho
        refine ⟨by first | assumption | exact inRd rfl | omega | exact ⟨by omega, by omega⟩, ?_⟩
        refine ⟨fun c11 => ?_, fun c11 => ?_⟩
        · rw [if_pos c11] at ho
          refine ⟨by first | assumption | exact inRd rfl | omega | exact ⟨by omega, by omega⟩, ?_⟩
          refine ⟨fun c12 => ?_, fun c12 => ?_⟩
          · rw [if_pos c12] at ho
            refine ⟨by first | assumption | exact inRd rfl | omega | exact ⟨by omega, by omega⟩, ?_⟩
            refine ⟨by first | assumption | exact inRd rfl | omega | exact ⟨by omega, by omega⟩, ?_⟩
            refine ⟨by first | assumption | exact inRd rfl | omega | exact ⟨by omega, by omega⟩, ?_⟩
            refine ⟨by first | assumption | exact inRd rfl | omega | exact ⟨by omega, by omega⟩, ?_⟩
            refine ⟨by first | assumption | exact inRd rfl | omega | exact ⟨by omega, by omega⟩, ?_⟩
            refine ⟨by first | assumption | exact inRd rfl | omega | exact ⟨by omega, by omega⟩, ?_⟩
            refine ⟨by first | assumption | exact inRd rfl | omega | exact ⟨by omega, by omega⟩, ?_⟩
            intro I25 q13_0 q13_1 q13_2 q13_3 q13_4 q13_5 q13_6
            obtain ⟨li1, li2, li3, li4⟩ := q13_2
            have li3 := (oI_ld _ _ _).symm.trans li3
            try simp only [q13_3, q13_4, q13_5, q13_6, li1, li3]
            refine ⟨by first | assumption | exact inRd rfl | omega | exact ⟨by omega, by omega⟩, ?_⟩
            refine ⟨by first | assumption | exact inRd rfl | omega | exact ⟨by omega, by omega⟩, ?_⟩
            refine ⟨fun c14 => ?_, fun c14 => ?_⟩
            · rw [if_pos c14] at ho
              refine ⟨fun c15 => ?_, fun c15 => ?_⟩
              · rw [if_pos c15] at ho
                refine ⟨by first | assumption | exact inRd rfl | omega | exact ⟨by omega, by omega⟩, ?_⟩
                try rw [(li4 x5.toNat (by omega)).1]
                try rw [(li4 x5.toNat (by omega)).2.1]
                try rw [(li4 x5.toNat (by omega)).2.2]
                rw [ho] at hK
                exact hK _ (FM.trans (FM.refl _) (Fr.FM q13_0 rfl)) (q13_1)
              · rw [if_neg c15] at ho
                refine ⟨fun c16 => ?_, fun c16 => ?_⟩
                · rw [if_pos c16] at ho
                  refine ⟨by first | assumption | exact inRd rfl | omega | exact ⟨by omega, by omega⟩, ?_⟩
                  try rw [(li4 x5.toNat (by omega)).1]
                  try rw [(li4 x5.toNat (by omega)).2.1]
                  try rw [(li4 x5.toNat (by omega)).2.2]
                  rw [ho] at hK
                  exact hK _ (FM.trans (FM.refl _) (Fr.FM q13_0 rfl)) (q13_1)
                · rw [if_neg c16] at ho
                  refine ⟨by first | assumption | exact inRd rfl | omega | exact ⟨by omega, by omega⟩, ?_⟩
                  try rw [(li4 x5.toNat (by omega)).1]
                  try rw [(li4 x5.toNat (by omega)).2.1]
                  try rw [(li4 x5.toNat (by omega)).2.2]
                  rw [ho] at hK
                  exact hK _ (FM.trans (FM.refl _) (Fr.FM q13_0 rfl)) (q13_1)
            · rw [if_neg c14] at ho
              try rw [(li4 x5.toNat (by omega)).1]
              try rw [(li4 x5.toNat (by omega)).2.1]
              try rw [(li4 x5.toNat (by omega)).2.2]
              rw [ho] at hK
              exact hK _ (FM.trans (FM.refl _) (Fr.FM q13_0 rfl)) (q13_1)
          · rw [if_neg c12] at ho
            try rw [(li4 x5.toNat (by omega)).1]
            try rw [(li4 x5.toNat (by omega)).2.1]
            try rw [(li4 x5.toNat (by omega)).2.2]
            rw [ho] at hK
            exact hK _ (FM.refl _) (hR)
        · rw [if_neg c11] at ho
          try rw [(li4 x5.toNat (by omega)).1]
          try rw [(li4 x5.toNat (by omega)).2.1]
          try rw [(li4 x5.toNat (by omega)).2.2]
          rw [ho] at hK
          exact hK _ (FM.refl _) (hR)
      · rw [if_neg c10] at ho
        try rw [(li4 x5.toNat (by omega)).1]
        try rw [(li4 x5.toNat (by omega)).2.1]
        try rw [(li4 x5.toNat (by omega)).2.2]
        rw [ho] at hK
        exact hK _ (FM.refl _) (hR)
    · rw [if_neg c9] at ho
      try rw [(li4 x5.toNat (by omega)).1]
      try rw [(li4 x5.toNat (by omega)).2.1]
      try rw [(li4 x5.toNat (by omega)).2.2]
      rw [ho] at hK
      exact hK _ (FM.refl _) (hR)
  · rw [if_neg c8] at ho
    try rw [(li4 x5.toNat (by omega)).1]
    try rw [(li4 x5.toNat (by omega)).2.1]
    try rw [(li4 x5.toNat (by omega)).2.2]
    rw [ho] at hK
    exact hK _ (FM.refl _) (hR)
noncomputable def o276 (A : aS) (x1 : Int) (x2 : Int) (x3 : Int) : Int × aS := (if 0 ≤ x1 ∧ x1 ≤ A 91 2 - 1 then (if 0 ≤ x2 ∧ x2 ≤ 200 then (if 0 ≤ x3 ∧ x3 ≤ 2 then (if x3 = 0 then ((mfS (fun t => hrS A (yrT A) t) (wsL A (yrT A) (rwN A x1)) x2), A) else (if x3 = 1 then (((x2 - lfP A (yrT A) x2 (rwN A x1) (rwN A x1).length)), A) else (if x3 = 2 then ((((rwN A x1).length : Int) - (enP A (yrT A) x2 (rwN A x1) (rwN A x1).length)), A) else ((stP A (yrT A) x2 (rwN A x1) (rwN A x1).length (x3 - 10).toNat), A)))) else (if 10 ≤ x3 ∧ x3 ≤ 9 + (A 91 1) then (if x3 = 0 then ((mfS (fun t => hrS A (yrT A) t) (wsL A (yrT A) (rwN A x1)) x2), A) else (if x3 = 1 then (((x2 - lfP A (yrT A) x2 (rwN A x1) (rwN A x1).length)), A) else (if x3 = 2 then ((((rwN A x1).length : Int) - (enP A (yrT A) x2 (rwN A x1) (rwN A x1).length)), A) else ((stP A (yrT A) x2 (rwN A x1) (rwN A x1).length (x3 - 10).toNat), A)))) else ((-1), A))) else ((-1), A)) else ((-1), A))
set_option maxRecDepth 4000 in
theorem k276 {d L : Nat} {I : mI} {R : Nat → Nat → Option Nat} {S : List (Nat × Nat)} {A : aS} {K : Int32 → mM → Prop} {x1 : Int} {x2 : Int} {x3 : Int} (hR : RM I A) (hWfA : WfA A) (hWfC : WfC A) (hWfP : WfP A) (rx1 : inR x1) (rx2 : inR x2) (rx3 : inR x3) (hK : ∀ I1, FM I I1 → RM I1 (o276 A x1 x2 x3).2 → K (oI (o276 A x1 x2 x3).1) (bd L I1 R S)) : CallI (d + 32) 276 [.ref 91, .int (oI x1), .int (oI x2), .int (oI x3)] (bd L I R S) K := by
  have ho : o276 A x1 x2 x3 = (if 0 ≤ x1 ∧ x1 ≤ A 91 2 - 1 then (if 0 ≤ x2 ∧ x2 ≤ 200 then (if 0 ≤ x3 ∧ x3 ≤ 2 then (if x3 = 0 then ((mfS (fun t => hrS A (yrT A) t) (wsL A (yrT A) (rwN A x1)) x2), A) else (if x3 = 1 then (((x2 - lfP A (yrT A) x2 (rwN A x1) (rwN A x1).length)), A) else (if x3 = 2 then ((((rwN A x1).length : Int) - (enP A (yrT A) x2 (rwN A x1) (rwN A x1).length)), A) else ((stP A (yrT A) x2 (rwN A x1) (rwN A x1).length (x3 - 10).toNat), A)))) else (if 10 ≤ x3 ∧ x3 ≤ 9 + (A 91 1) then (if x3 = 0 then ((mfS (fun t => hrS A (yrT A) t) (wsL A (yrT A) (rwN A x1)) x2), A) else (if x3 = 1 then (((x2 - lfP A (yrT A) x2 (rwN A x1) (rwN A x1).length)), A) else (if x3 = 2 then ((((rwN A x1).length : Int) - (enP A (yrT A) x2 (rwN A x1) (rwN A x1).length)), A) else ((stP A (yrT A) x2 (rwN A x1) (rwN A x1).length (x3 - 10).toNat), A)))) else ((-1), A))) else ((-1), A)) else ((-1), A)) := rfl
  have w0 := hWfA.1
  have w1 := hWfA.2.1
  have w2 := hWfA.2.2.1
  have w3 : 0 ≤ A 91 3 ∧ A 91 3 ≤ 850 := hWfA.2.2.2.1
  have wN := hWfA.2.2.2.1
  have ty := today_year hWfA
  refine e276 (d := d) hR ?_
  refine ⟨by first | assumption | exact inRd rfl | omega | exact ⟨by omega, by omega⟩, ?_⟩
  refine ⟨by first | assumption | exact inRd rfl | omega | exact ⟨by omega, by omega⟩, ?_⟩
  refine ⟨fun c17 => ?_, fun c17 => ?_⟩
  · rw [if_pos c17] at ho
    refine ⟨by first | assumption | exact inRd rfl | omega | exact ⟨by omega, by omega⟩, ?_⟩
    refine ⟨fun c18 => ?_, fun c18 => ?_⟩
    · rw [if_pos c18] at ho
      refine ⟨by first | assumption | exact inRd rfl | omega | exact ⟨by omega, by omega⟩, ?_⟩
      refine ⟨fun c19 => ?_, fun c19 => ?_⟩
      · rw [if_pos c19] at ho
        refine ⟨by first | assumption | exact inRd rfl | omega | exact ⟨by omega, by omega⟩, ?_⟩
        refine ⟨by first | assumption | exact inRd rfl | omega | exact ⟨by omega, by omega⟩, ?_⟩
        refine ⟨by first | assumption | exact inRd rfl | omega | exact ⟨by omega, by omega⟩, ?_⟩
        refine ⟨by first | assumption | exact inRd rfl | omega | exact ⟨by omega, by omega⟩, ?_⟩
        intro I15 q20_0 q20_1 q20_2
        obtain ⟨en1, en2, en3, en4, en5⟩ := q20_2
        simp only [en1, en2, en3, en4]
        refine ⟨fun c21 => ?_, fun c21 => ?_⟩
        · rw [if_pos c21] at ho
          refine ⟨by first | assumption | exact inRd rfl | omega | exact ⟨by omega, by omega⟩, ?_⟩
          try rw [en5 (x3 - 10).toNat (by omega)]
          rw [ho] at hK
          exact hK _ (FM.trans (FM.refl _) (Fr.FM q20_0 rfl)) (q20_1)
        · rw [if_neg c21] at ho
          refine ⟨fun c22 => ?_, fun c22 => ?_⟩
          · rw [if_pos c22] at ho
            try rw [en5 (x3 - 10).toNat (by omega)]
            rw [ho] at hK
            exact hK _ (FM.trans (FM.refl _) (Fr.FM q20_0 rfl)) (q20_1)
          · rw [if_neg c22] at ho
            refine ⟨fun c23 => ?_, fun c23 => ?_⟩
            · rw [if_pos c23] at ho
              try rw [en5 (x3 - 10).toNat (by omega)]
              rw [ho] at hK
              exact hK _ (FM.trans (FM.refl _) (Fr.FM q20_0 rfl)) (q20_1)
            · rw [if_neg c23] at ho
              refine ⟨by first | assumption | exact inRd rfl | omega | exact ⟨by omega, by omega⟩, ?_⟩
              try rw [en5 (x3 - 10).toNat (by omega)]
              rw [ho] at hK
              exact hK _ (FM.trans (FM.refl _) (Fr.FM q20_0 rfl)) (q20_1)
      · rw [if_neg c19] at ho
        refine ⟨by first | assumption | exact inRd rfl | omega | exact ⟨by omega, by omega⟩, ?_⟩
        refine ⟨fun c24 => ?_, fun c24 => ?_⟩
        · rw [if_pos c24] at ho
          refine ⟨by first | assumption | exact inRd rfl | omega | exact ⟨by omega, by omega⟩, ?_⟩
          refine ⟨by first | assumption | exact inRd rfl | omega | exact ⟨by omega, by omega⟩, ?_⟩
          refine ⟨by first | assumption | exact inRd rfl | omega | exact ⟨by omega, by omega⟩, ?_⟩
          refine ⟨by first | assumption | exact inRd rfl | omega | exact ⟨by omega, by omega⟩, ?_⟩
          intro I32 q25_0 q25_1 q25_2
          obtain ⟨en1, en2, en3, en4, en5⟩ := q25_2
          simp only [en1, en2, en3, en4]
          refine ⟨fun c26 => ?_, fun c26 => ?_⟩
          · rw [if_pos c26] at ho
            refine ⟨by first | assumption | exact inRd rfl | omega | exact ⟨by omega, by omega⟩, ?_⟩
            try rw [en5 (x3 - 10).toNat (by omega)]
            rw [ho] at hK
            exact hK _ (FM.trans (FM.refl _) (Fr.FM q25_0 rfl)) (q25_1)
          · rw [if_neg c26] at ho
            refine ⟨fun c27 => ?_, fun c27 => ?_⟩
            · rw [if_pos c27] at ho
              try rw [en5 (x3 - 10).toNat (by omega)]
              rw [ho] at hK
              exact hK _ (FM.trans (FM.refl _) (Fr.FM q25_0 rfl)) (q25_1)
            · rw [if_neg c27] at ho
              refine ⟨fun c28 => ?_, fun c28 => ?_⟩
              · rw [if_pos c28] at ho
                try rw [en5 (x3 - 10).toNat (by omega)]
                rw [ho] at hK
                exact hK _ (FM.trans (FM.refl _) (Fr.FM q25_0 rfl)) (q25_1)
              · rw [if_neg c28] at ho
                refine ⟨by first | assumption | exact inRd rfl | omega | exact ⟨by omega, by omega⟩, ?_⟩
                try rw [en5 (x3 - 10).toNat (by omega)]
                rw [ho] at hK
                exact hK _ (FM.trans (FM.refl _) (Fr.FM q25_0 rfl)) (q25_1)
        · rw [if_neg c24] at ho
          try rw [en5 (x3 - 10).toNat (by omega)]
          rw [ho] at hK
          exact hK _ (FM.refl _) (hR)
    · rw [if_neg c18] at ho
      try rw [en5 (x3 - 10).toNat (by omega)]
      rw [ho] at hK
      exact hK _ (FM.refl _) (hR)
  · rw [if_neg c17] at ho
    try rw [en5 (x3 - 10).toNat (by omega)]
    rw [ho] at hK
    exact hK _ (FM.refl _) (hR)
theorem nb0 {A : aS} (hB : WfB A) {x : Int} (h0 : x = 0) (h : ¬ A 110 (3 + x).toNat = 60) : (0 ≤ A 91 3 ∧ A 91 3 < 850) ∧ inR (A 110 (3 + x).toNat + 1) := by
  subst h0
  unfold WfB at hB
  have e : ((3 : Int) + 0).toNat = 3 := rfl
  rw [e] at h ⊢
  exact ⟨by omega, by omega, by omega⟩
theorem nb1 {A : aS} (hB : WfB A) {x : Int} (hx : 0 ≤ x ∧ x ≤ 2) (h0 : ¬ x = 0) (h : ¬ A 110 (3 + x).toNat = 30) : (0 ≤ A 91 3 ∧ A 91 3 < 850) ∧ inR (A 110 (3 + x).toNat + 1) := by
  unfold WfB at hB
  have : x = 1 ∨ x = 2 := by omega
  rcases this with rfl | rfl
  · have e : ((3 : Int) + 1).toNat = 4 := rfl
    rw [e] at h ⊢
    exact ⟨by omega, by omega, by omega⟩
  · have e : ((3 : Int) + 2).toNat = 5 := rfl
    rw [e] at h ⊢
    exact ⟨by omega, by omega, by omega⟩
theorem fsS_inR {A : aS} (hC : WfC A) {h : Nat → Int} {y kind key : Int} : inR (fsS A h y kind key) := by
  rcases fsS_prop hC (h := h) (y := y) (kind := kind) (key := key) with q | ⟨m, s, q1, q2, q3, q4⟩
  · rw [q]; exact inRd rfl
  · rw [q1]; exact ⟨by omega, by omega⟩
theorem age_in {x a : Int} (hx : 0 ≤ x ∧ x ≤ 799) (ha : -1500 ≤ a ∧ a ≤ 799) : inR (Int.tdiv (x - a) 100) ∧ inR (max 0 (Int.tdiv (x - a) 100)) := by
  have := tdiv_bd (x := x - a) (a := 8) (b := 23) (by omega) (by omega) (by decide) (by decide)
  unfold inR
  omega
set_option maxRecDepth 4000 in
theorem e232 {d L : Nat} {I : Nat → Nat → Int32} {R : Nat → Nat → Option Nat} {S : List (Nat × Nat)} {K : Int32 → mM → Prop} {A : aS} (hR : RM I A) {x1 : Int} {x2 : Int} {x3 : Int} {x4 : Int} {x5 : Int} (hE : inR x1 ∧ (inR (A 91 1 - 1) ∧ (((0 ≤ x1 ∧ x1 ≤ A 91 1 - 1) → inR x2 ∧ (((0 ≤ x2 ∧ x2 ≤ 2) → ((x2 = 0) → inR x3 ∧ (((0 ≤ x3 ∧ x3 ≤ 5) → inR x4 ∧ (((0 ≤ x4 ∧ x4 ≤ 799) → inR x5 ∧ (((0 ≤ x5 ∧ x5 ≤ 799) → ((x5 < x4) → K (oI (-1)) (bd L I R S)) ∧ (¬ (x5 < x4) → (0 ≤ 3 + x2 ∧ 3 + x2 < 7) ∧ (((A 110 (3 + x2).toNat = 60) → K (oI (-1)) (bd L I R S)) ∧ (¬ (A 110 (3 + x2).toNat = 60) → ((x2 = 1) → WfA A ∧ (WfC A ∧ (WfP A ∧ ((0 ≤ x1 ∧ x1 < A 91 1) ∧ ((0 ≤ Int.tdiv x4 100 ∧ Int.tdiv x4 100 ≤ 7) ∧ (∀ (I28 : mI), (Fr [150, 151] [(91, 87)] I I28) → (RM I28 A) → ∀ (I31 : mI), (Fr [150] [] I28 I31) → (∀ j : Nat, j < 12 → ld I31 150 j = 0) → (0 ≤ x1 ∧ x1 < 40) ∧ (inR (x4 - (A 92 x1.toNat)) ∧ (inR (Int.tdiv (x4 - (A 92 x1.toNat)) 100) ∧ (∃ e37 : Nat → Int, EnvI (u2 (u2 (u2 I31 150 0 (oI (max 0 (Int.tdiv (x4 - (A 92 x1.toNat)) 100)))) 150 1 (oI (stS A x1 (Int.tdiv x4 100) (A 91 0)))) 150 3 (oI (Int.tdiv x4 100))) e37 ∧ (∀ (I39 : mI), (Fr [151] [(91, 87)] (u2 (u2 (u2 I31 150 0 (oI (max 0 (Int.tdiv (x4 - (A 92 x1.toNat)) 100)))) 150 1 (oI (stS A x1 (Int.tdiv x4 100) (A 91 0)))) 150 3 (oI (Int.tdiv x4 100))) I39) → (RM I39 A) → inR (fsS A e37 (Int.tdiv x4 100) 9 (-1)) ∧ (((fsS A e37 (Int.tdiv x4 100) 9 (-1) = (-1)) → K (oI (-2)) (bd L I39 R S)) ∧ (¬ (fsS A e37 (Int.tdiv x4 100) 9 (-1) = (-1)) → (0 ≤ A 91 3 ∧ A 91 3 < 850) ∧ (K (oI (A 91 3 + 1 - 1)) (bd L (u2 (u2 (u2 (u2 (u2 (u2 (u2 (u2 (u2 I39 103 (A 91 3).toNat (oI (3 + x2))) 104 (A 91 3).toNat (oI x1)) 105 (A 91 3).toNat (oI x4)) 106 (A 91 3).toNat (oI x5)) 107 (A 91 3).toNat (oI x3)) 108 (A 91 3).toNat (oI (A 91 0))) 109 (A 91 3).toNat (oI 5000)) 110 (3 + x2).toNat (oI (A 110 (3 + x2).toNat + 1))) 91 3 (oI (A 91 3 + 1))) R S)))))))))))))) ∧ (¬ (x2 = 1) → (0 ≤ A 91 3 ∧ A 91 3 < 850) ∧ (K (oI (A 91 3 + 1 - 1)) (bd L (u2 (u2 (u2 (u2 (u2 (u2 (u2 (u2 (u2 I 103 (A 91 3).toNat (oI (3 + x2))) 104 (A 91 3).toNat (oI x1)) 105 (A 91 3).toNat (oI x4)) 106 (A 91 3).toNat (oI x5)) 107 (A 91 3).toNat (oI x3)) 108 (A 91 3).toNat (oI (A 91 0))) 109 (A 91 3).toNat (oI 5000)) 110 (3 + x2).toNat (oI (A 110 (3 + x2).toNat + 1))) 91 3 (oI (A 91 3 + 1))) R S))))))) ∧ (¬ (0 ≤ x5 ∧ x5 ≤ 799) → K (oI (-1)) (bd L I R S)))) ∧ (¬ (0 ≤ x4 ∧ x4 ≤ 799) → K (oI (-1)) (bd L I R S)))) ∧ (¬ (0 ≤ x3 ∧ x3 ≤ 5) → K (oI (-1)) (bd L I R S)))) ∧ (¬ (x2 = 0) → inR x4 ∧ (((0 ≤ x4 ∧ x4 ≤ 799) → inR x5 ∧ (((0 ≤ x5 ∧ x5 ≤ 799) → ((x5 < x4) → K (oI (-1)) (bd L I R S)) ∧ (¬ (x5 < x4) → (0 ≤ 3 + x2 ∧ 3 + x2 < 7) ∧ (((A 110 (3 + x2).toNat = 30) → K (oI (-1)) (bd L I R S)) ∧ (¬ (A 110 (3 + x2).toNat = 30) → ((x2 = 1) → WfA A ∧ (WfC A ∧ (WfP A ∧ ((0 ≤ x1 ∧ x1 < A 91 1) ∧ ((0 ≤ Int.tdiv x4 100 ∧ Int.tdiv x4 100 ≤ 7) ∧ (∀ (I65 : mI), (Fr [150, 151] [(91, 87)] I I65) → (RM I65 A) → ∀ (I68 : mI), (Fr [150] [] I65 I68) → (∀ j : Nat, j < 12 → ld I68 150 j = 0) → (0 ≤ x1 ∧ x1 < 40) ∧ (inR (x4 - (A 92 x1.toNat)) ∧ (inR (Int.tdiv (x4 - (A 92 x1.toNat)) 100) ∧ (∃ e74 : Nat → Int, EnvI (u2 (u2 (u2 I68 150 0 (oI (max 0 (Int.tdiv (x4 - (A 92 x1.toNat)) 100)))) 150 1 (oI (stS A x1 (Int.tdiv x4 100) (A 91 0)))) 150 3 (oI (Int.tdiv x4 100))) e74 ∧ (∀ (I76 : mI), (Fr [151] [(91, 87)] (u2 (u2 (u2 I68 150 0 (oI (max 0 (Int.tdiv (x4 - (A 92 x1.toNat)) 100)))) 150 1 (oI (stS A x1 (Int.tdiv x4 100) (A 91 0)))) 150 3 (oI (Int.tdiv x4 100))) I76) → (RM I76 A) → inR (fsS A e74 (Int.tdiv x4 100) 9 (-1)) ∧ (((fsS A e74 (Int.tdiv x4 100) 9 (-1) = (-1)) → K (oI (-2)) (bd L I76 R S)) ∧ (¬ (fsS A e74 (Int.tdiv x4 100) 9 (-1) = (-1)) → (0 ≤ A 91 3 ∧ A 91 3 < 850) ∧ (K (oI (A 91 3 + 1 - 1)) (bd L (u2 (u2 (u2 (u2 (u2 (u2 (u2 (u2 (u2 I76 103 (A 91 3).toNat (oI (3 + x2))) 104 (A 91 3).toNat (oI x1)) 105 (A 91 3).toNat (oI x4)) 106 (A 91 3).toNat (oI x5)) 107 (A 91 3).toNat (oI x3)) 108 (A 91 3).toNat (oI (A 91 0))) 109 (A 91 3).toNat (oI 5000)) 110 (3 + x2).toNat (oI (A 110 (3 + x2).toNat + 1))) 91 3 (oI (A 91 3 + 1))) R S)))))))))))))) ∧ (¬ (x2 = 1) → (0 ≤ A 91 3 ∧ A 91 3 < 850) ∧ (K (oI (A 91 3 + 1 - 1)) (bd L (u2 (u2 (u2 (u2 (u2 (u2 (u2 (u2 (u2 I 103 (A 91 3).toNat (oI (3 + x2))) 104 (A 91 3).toNat (oI x1)) 105 (A 91 3).toNat (oI x4)) 106 (A 91 3).toNat (oI x5)) 107 (A 91 3).toNat (oI x3)) 108 (A 91 3).toNat (oI (A 91 0))) 109 (A 91 3).toNat (oI 5000)) 110 (3 + x2).toNat (oI (A 110 (3 + x2).toNat + 1))) 91 3 (oI (A 91 3 + 1))) R S))))))) ∧ (¬ (0 ≤ x5 ∧ x5 ≤ 799) → K (oI (-1)) (bd L I R S)))) ∧ (¬ (0 ≤ x4 ∧ x4 ≤ 799) → K (oI (-1)) (bd L I R S))))) ∧ (¬ (0 ≤ x2 ∧ x2 ≤ 2) → K (oI (-1)) (bd L I R S)))) ∧ (¬ (0 ≤ x1 ∧ x1 ≤ A 91 1 - 1) → K (oI (-1)) (bd L I R S))))) : CallI (d + 29) 232 [.ref 91, .int (oI x1), .int (oI x2), .int (oI x3), .int (oI x4), .int (oI x5)] (bd L I R S) K := by
  refine cI_of (ls := [.ref 91, .int (oI x1), .int (oI x2), .int (oI x3), .int (oI x4), .int (oI x5), mUn]) rfl ?_
  refine xG gb232.1 ?_
  refine s6 (p := 91) rfl ?_
  refine s4 (x := x1) rfl ?_
  refine sI rc215 rfl (Nat.le_of_ble_eq_true rfl) ?_
  refine cI_of (ls := [.ref 91, .int (oI x1)]) rfl ?_
  refine xG gb215 ?_
  refine s4 (x := x1) rfl ?_
  refine s0 ?_
  refine s6 (p := 91) rfl ?_
  refine s50 (v := A 91 1) sh91 (by decide) (by decide) (rdM hR.1 rfl) ?_
  refine s0 ?_
  refine s17 ?_
  obtain ⟨g1, hE⟩ := hE
  obtain ⟨g2, hE⟩ := hE
  refine sI rc210 rfl (Nat.le_of_ble_eq_true rfl) ?_
  refine k210 g1 (inRd rfl) g2 (fun c3 => ?_) (fun c3 => ?_)
  · replace hE := hE.1 c3
    refine s84 (by decide) ?_
    refine rqI_of ?_
    refine s67 (inRd rfl) (fun c4 => absurd c4 (by decide)) (fun _ => ?_)
    refine s4 (x := x2) rfl ?_
    refine s0 ?_
    refine s0 ?_
    obtain ⟨g5, hE⟩ := hE
    refine sI rc210 rfl (Nat.le_of_ble_eq_true rfl) ?_
    refine k210 g5 (inRd rfl) (inRd rfl) (fun c6 => ?_) (fun c6 => ?_)
    · replace hE := hE.1 c6
      refine s67 (inRd rfl) (fun c7 => absurd c7 (by decide)) (fun _ => ?_)
      refine s4 (x := x2) rfl ?_
      refine s68 g5 (fun c8 => ?_) (fun c8 => ?_)
      · replace hE := hE.1 c8
        refine s4 (x := x3) rfl ?_
        refine s0 ?_
        refine s0 ?_
        obtain ⟨g9, hE⟩ := hE
        refine sI rc210 rfl (Nat.le_of_ble_eq_true rfl) ?_
        refine k210 g9 (inRd rfl) (inRd rfl) (fun c10 => ?_) (fun c10 => ?_)
        · replace hE := hE.1 c10
          refine s67 (inRd rfl) (fun c11 => absurd c11 (by decide)) (fun _ => ?_)
          refine s79 ?_
          refine xG gb232.2.1 ?_
          refine s4 (x := x4) rfl ?_
          refine sI rc230 rfl (Nat.le_of_ble_eq_true rfl) ?_
          refine cI_of (ls := [.int (oI x4)]) rfl ?_
          refine xG gb230 ?_
          refine s4 (x := x4) rfl ?_
          refine s0 ?_
          refine s0 ?_
          obtain ⟨g12, hE⟩ := hE
          refine sI rc210 rfl (Nat.le_of_ble_eq_true rfl) ?_
          refine k210 g12 (inRd rfl) (inRd rfl) (fun c13 => ?_) (fun c13 => ?_)
          · replace hE := hE.1 c13
            refine s84 (by decide) ?_
            refine rqI_of ?_
            refine s67 (inRd rfl) (fun c14 => absurd c14 (by decide)) (fun _ => ?_)
            refine s4 (x := x5) rfl ?_
            refine sI rc230 rfl (Nat.le_of_ble_eq_true rfl) ?_
            refine cI_of (ls := [.int (oI x5)]) rfl ?_
            refine xG gb230 ?_
            refine s4 (x := x5) rfl ?_
            refine s0 ?_
            refine s0 ?_
            obtain ⟨g15, hE⟩ := hE
            refine sI rc210 rfl (Nat.le_of_ble_eq_true rfl) ?_
            refine k210 g15 (inRd rfl) (inRd rfl) (fun c16 => ?_) (fun c16 => ?_)
            · replace hE := hE.1 c16
              refine s84 (by decide) ?_
              refine rqI_of ?_
              refine s67 (inRd rfl) (fun c17 => absurd c17 (by decide)) (fun _ => ?_)
              refine s4 (x := x4) rfl ?_
              refine s4 (x := x5) rfl ?_
              refine s65 g12 g15 (fun c18 => ?_) (fun c18 => ?_)
              · replace hE := hE.1 c18
                refine xG gb232.2.2.2.2.1 ?_
                refine s0 ?_
                refine s80 ?_
                exact rqI_of hE
              · replace hE := hE.2 c18
                refine s6 (p := 91) rfl ?_
                refine s51 sh91 (by decide) (by decide) rf91_23 ?_
                refine s0 ?_
                refine s4 (x := x2) rfl ?_
                refine s16 ?_
                obtain ⟨g19, hE⟩ := hE
                refine s40 (v := A 110 (3 + x2).toNat) sh110 g19 rfl (rdM hR.1 rfl) ?_
                refine s4 (x := x2) rfl ?_
                refine s68 g5 (fun _ => ?_) (fun c20 => absurd c8 c20)
                refine s0 ?_
                refine s60 ?_
                refine xG gb232.2.2.2.1 ?_
                refine s62 (inA hR.1 (a := 110) (k := (3 + x2).toNat) rfl) (inRd rfl) (fun c21 => ?_) (fun c21 => ?_)
                · replace hE := hE.1 c21
                  refine s79 ?_
                  refine xG gb232.2.2.2.2.1 ?_
                  refine s0 ?_
                  refine s80 ?_
                  exact rqI_of hE
                · replace hE := hE.2 c21
                  refine xG gb232.2.2.2.2.2.1 ?_
                  refine s4 (x := x2) rfl ?_
                  refine s0 ?_
                  refine s62 g5 (inRd rfl) (fun c22 => ?_) (fun c22 => ?_)
                  · replace hE := hE.1 c22
                    refine s6 (p := 91) rfl ?_
                    refine s4 (x := x1) rfl ?_
                    refine s4 (x := x4) rfl ?_
                    refine s0 ?_
                    refine s19 g12 ⟨(inRd rfl), by decide⟩ ?_
                    refine s6 (p := 91) rfl ?_
                    refine s50 (v := A 91 0) sh91 (by decide) (by decide) (rdM hR.1 rfl) ?_
                    obtain ⟨g23, hE⟩ := hE
                    obtain ⟨g24, hE⟩ := hE
                    obtain ⟨g25, hE⟩ := hE
                    obtain ⟨g26, hE⟩ := hE
                    obtain ⟨g27, hE⟩ := hE
                    refine sI rc233 rfl (Nat.le_of_ble_eq_true rfl) ?_
                    refine k233 hR g23 g24 g25 g26 g27 (inA hR.1 (a := 91) (k := 0) rfl) (fun I28 q29 q30 => ?_)
                    replace hE := hE I28 q29 q30
                    refine s7 (ls' := [.ref 91, .int (oI x1), .int (oI x2), .int (oI x3), .int (oI x4), .int (oI x5), .int (oI (stS A x1 (Int.tdiv x4 100) (A 91 0)))]) (Nat.le_of_ble_eq_true rfl) rfl ?_
                    refine s6 (p := 91) rfl ?_
                    refine sV rc236 rfl (Nat.le_of_ble_eq_true rfl) ?_
                    refine k236R (q30) (fun I31 q32 q33 => ?_)
                    replace hE := hE I31 q32 q33
                    refine s6 (p := 91) rfl ?_
                    refine s51 sh91 (by decide) (by decide) rf91_85 ?_
                    refine s0 ?_
                    refine s6 (p := 91) rfl ?_
                    refine s4 (x := x1) rfl ?_
                    refine s4 (x := x4) rfl ?_
                    refine sI rc237 rfl (Nat.le_of_ble_eq_true rfl) ?_
                    refine cI_of (ls := [.ref 91, .int (oI x1), .int (oI x4)]) rfl ?_
                    refine xG gb237 ?_
                    refine s0 ?_
                    refine s4 (x := x4) rfl ?_
                    refine s6 (p := 91) rfl ?_
                    refine s51 sh91 (by decide) (by decide) rf91_5 ?_
                    refine s4 (x := x1) rfl ?_
                    obtain ⟨g34, hE⟩ := hE
                    refine s40 (v := A 92 x1.toNat) sh92 g34 rfl (rdM (RM.fr (q30) q32 rfl rfl (fun _ => rfl)).1 rfl) ?_
                    refine s17 ?_
                    refine s0 ?_
                    obtain ⟨g35, hE⟩ := hE
                    refine s19 g35 ⟨(inRd rfl), by decide⟩ ?_
                    obtain ⟨g36, hE⟩ := hE
                    refine sI rc346 rfl (Nat.le_of_ble_eq_true rfl) ?_
                    refine k346 (inRd rfl) g36 ?_
                    refine s80 ?_
                    refine rqI_of ?_
                    refine s44 sh150 (by decide) (⟨by decide, by decide⟩ : (0 : Int) ≤ 0 ∧ (0 : Int) < 12) rfl ?_
                    refine s6 (p := 91) rfl ?_
                    refine s51 sh91 (by decide) (by decide) rf91_85 ?_
                    refine s0 ?_
                    refine s4 (x := stS A x1 (Int.tdiv x4 100) (A 91 0)) rfl ?_
                    refine s44 sh150 (by decide) (⟨by decide, by decide⟩ : (0 : Int) ≤ 1 ∧ (1 : Int) < 12) rfl ?_
                    refine s6 (p := 91) rfl ?_
                    refine s51 sh91 (by decide) (by decide) rf91_85 ?_
                    refine s0 ?_
                    refine s4 (x := x4) rfl ?_
                    refine s0 ?_
                    refine s19 g12 ⟨(inRd rfl), by decide⟩ ?_
                    refine s44 sh150 (by decide) (⟨by decide, by decide⟩ : (0 : Int) ≤ 3 ∧ (3 : Int) < 12) rfl ?_
                    refine s6 (p := 91) rfl ?_
                    refine s4 (x := x4) rfl ?_
                    refine s0 ?_
                    refine s19 g12 ⟨(inRd rfl), by decide⟩ ?_
                    refine s0 ?_
                    refine s0 ?_
                    obtain ⟨e37, k38, hE⟩ := hE
                    refine sI rc220 rfl (Nat.le_of_ble_eq_true rfl) ?_
                    refine k220 k38 (RM.scr (RM.scr (RM.scr (RM.fr (q30) q32 rfl rfl (fun _ => rfl)) rfl) rfl) rfl) g24 g27 (inRd rfl) (inRd rfl) (fun I39 q40 q41 => ?_)
                    replace hE := hE I39 q40 q41
                    refine s0 ?_
                    obtain ⟨g42, hE⟩ := hE
                    refine s62 g42 (inRd rfl) (fun c43 => ?_) (fun c43 => ?_)
                    · replace hE := hE.1 c43
                      refine s0 ?_
                      refine s80 ?_
                      exact rqI_of hE
                    · replace hE := hE.2 c43
                      refine xG gb232.2.2.2.2.2.2 ?_
                      refine s6 (p := 91) rfl ?_
                      refine s0 ?_
                      refine s4 (x := x2) rfl ?_
                      refine s16 ?_
                      refine s4 (x := x1) rfl ?_
                      refine s4 (x := x4) rfl ?_
                      refine s4 (x := x5) rfl ?_
                      refine s4 (x := x3) rfl ?_
                      refine sI rc228 rfl (Nat.le_of_ble_eq_true rfl) ?_
                      refine cI_of (ls := [.ref 91, .int (oI (3 + x2)), .int (oI x1), .int (oI x4), .int (oI x5), .int (oI x3)]) rfl ?_
                      refine xG gb228 ?_
                      refine s6 (p := 91) rfl ?_
                      refine s51 sh91 (by decide) (by decide) rf91_16 ?_
                      refine s6 (p := 91) rfl ?_
                      refine s50 (v := A 91 3) sh91 (by decide) (by decide) (rdM q41.1 rfl) ?_
                      refine s4 (x := 3 + x2) rfl ?_
                      obtain ⟨g44, hE⟩ := hE
                      refine s44 sh103 (by decide) g44 rfl ?_
                      refine s6 (p := 91) rfl ?_
                      refine s51 sh91 (by decide) (by decide) rf91_17 ?_
                      refine s6 (p := 91) rfl ?_
                      refine s50 (v := A 91 3) sh91 (by decide) (by decide) ((v2_ne (by decide)).trans (rdM q41.1 rfl)) ?_
                      refine s4 (x := x1) rfl ?_
                      refine s44 sh104 (by decide) g44 rfl ?_
                      refine s6 (p := 91) rfl ?_
                      refine s51 sh91 (by decide) (by decide) rf91_18 ?_
                      refine s6 (p := 91) rfl ?_
                      refine s50 (v := A 91 3) sh91 (by decide) (by decide) ((v2_ne (by decide)).trans ((v2_ne (by decide)).trans (rdM q41.1 rfl))) ?_
                      refine s4 (x := x4) rfl ?_
                      refine s44 sh105 (by decide) g44 rfl ?_
                      refine s6 (p := 91) rfl ?_
                      refine s51 sh91 (by decide) (by decide) rf91_19 ?_
                      refine s6 (p := 91) rfl ?_
                      refine s50 (v := A 91 3) sh91 (by decide) (by decide) ((v2_ne (by decide)).trans ((v2_ne (by decide)).trans ((v2_ne (by decide)).trans (rdM q41.1 rfl)))) ?_
                      refine s4 (x := x5) rfl ?_
                      refine s44 sh106 (by decide) g44 rfl ?_
                      refine s6 (p := 91) rfl ?_
                      refine s51 sh91 (by decide) (by decide) rf91_20 ?_
                      refine s6 (p := 91) rfl ?_
                      refine s50 (v := A 91 3) sh91 (by decide) (by decide) ((v2_ne (by decide)).trans ((v2_ne (by decide)).trans ((v2_ne (by decide)).trans ((v2_ne (by decide)).trans (rdM q41.1 rfl))))) ?_
                      refine s4 (x := x3) rfl ?_
                      refine s44 sh107 (by decide) g44 rfl ?_
                      refine s6 (p := 91) rfl ?_
                      refine s51 sh91 (by decide) (by decide) rf91_21 ?_
                      refine s6 (p := 91) rfl ?_
                      refine s50 (v := A 91 3) sh91 (by decide) (by decide) ((v2_ne (by decide)).trans ((v2_ne (by decide)).trans ((v2_ne (by decide)).trans ((v2_ne (by decide)).trans ((v2_ne (by decide)).trans (rdM q41.1 rfl)))))) ?_
                      refine s6 (p := 91) rfl ?_
                      refine s50 (v := A 91 0) sh91 (by decide) (by decide) ((v2_ne (by decide)).trans ((v2_ne (by decide)).trans ((v2_ne (by decide)).trans ((v2_ne (by decide)).trans ((v2_ne (by decide)).trans (rdM q41.1 rfl)))))) ?_
                      refine s44 sh108 (by decide) g44 rfl ?_
                      refine s6 (p := 91) rfl ?_
                      refine s51 sh91 (by decide) (by decide) rf91_22 ?_
                      refine s6 (p := 91) rfl ?_
                      refine s50 (v := A 91 3) sh91 (by decide) (by decide) ((v2_ne (by decide)).trans ((v2_ne (by decide)).trans ((v2_ne (by decide)).trans ((v2_ne (by decide)).trans ((v2_ne (by decide)).trans ((v2_ne (by decide)).trans (rdM q41.1 rfl))))))) ?_
                      refine s0 ?_
                      refine s44 sh109 (by decide) g44 rfl ?_
                      refine s6 (p := 91) rfl ?_
                      refine s51 sh91 (by decide) (by decide) rf91_23 ?_
                      refine s4 (x := 3 + x2) rfl ?_
                      refine s14 ?_
                      refine s40 (v := A 110 (3 + x2).toNat) sh110 g19 rfl ((v2_ne (by decide)).trans ((v2_ne (by decide)).trans ((v2_ne (by decide)).trans ((v2_ne (by decide)).trans ((v2_ne (by decide)).trans ((v2_ne (by decide)).trans ((v2_ne (by decide)).trans (rdM q41.1 rfl)))))))) ?_
                      refine s0 ?_
                      refine s16 ?_
                      refine s44 sh110 (by decide) g19 rfl ?_
                      refine s6 (p := 91) rfl ?_
                      refine s13r ?_
                      refine s50 (v := A 91 3) sh91 (by decide) (by decide) ((v2_ne (by decide)).trans ((v2_ne (by decide)).trans ((v2_ne (by decide)).trans ((v2_ne (by decide)).trans ((v2_ne (by decide)).trans ((v2_ne (by decide)).trans ((v2_ne (by decide)).trans ((v2_ne (by decide)).trans (rdM q41.1 rfl))))))))) ?_
                      refine s0 ?_
                      refine s16 ?_
                      refine s52 sh91 (by decide) (by decide) ?_
                      refine s6 (p := 91) rfl ?_
                      refine s50 (v := A 91 3 + 1) sh91 (by decide) (by decide) (v2_eq) ?_
                      refine s0 ?_
                      refine s17 ?_
                      refine s80 ?_
                      refine rqI_of ?_
                      refine s80 ?_
                      exact rqI_of hE
                  · replace hE := hE.2 c22
                    refine xG gb232.2.2.2.2.2.2 ?_
                    refine s6 (p := 91) rfl ?_
                    refine s0 ?_
                    refine s4 (x := x2) rfl ?_
                    refine s16 ?_
                    refine s4 (x := x1) rfl ?_
                    refine s4 (x := x4) rfl ?_
                    refine s4 (x := x5) rfl ?_
                    refine s4 (x := x3) rfl ?_
                    refine sI rc228 rfl (Nat.le_of_ble_eq_true rfl) ?_
                    refine cI_of (ls := [.ref 91, .int (oI (3 + x2)), .int (oI x1), .int (oI x4), .int (oI x5), .int (oI x3)]) rfl ?_
                    refine xG gb228 ?_
                    refine s6 (p := 91) rfl ?_
                    refine s51 sh91 (by decide) (by decide) rf91_16 ?_
                    refine s6 (p := 91) rfl ?_
                    refine s50 (v := A 91 3) sh91 (by decide) (by decide) (rdM hR.1 rfl) ?_
                    refine s4 (x := 3 + x2) rfl ?_
                    obtain ⟨g45, hE⟩ := hE
                    refine s44 sh103 (by decide) g45 rfl ?_
                    refine s6 (p := 91) rfl ?_
                    refine s51 sh91 (by decide) (by decide) rf91_17 ?_
                    refine s6 (p := 91) rfl ?_
                    refine s50 (v := A 91 3) sh91 (by decide) (by decide) ((v2_ne (by decide)).trans (rdM hR.1 rfl)) ?_
                    refine s4 (x := x1) rfl ?_
                    refine s44 sh104 (by decide) g45 rfl ?_
                    refine s6 (p := 91) rfl ?_
                    refine s51 sh91 (by decide) (by decide) rf91_18 ?_
                    refine s6 (p := 91) rfl ?_
                    refine s50 (v := A 91 3) sh91 (by decide) (by decide) ((v2_ne (by decide)).trans ((v2_ne (by decide)).trans (rdM hR.1 rfl))) ?_
                    refine s4 (x := x4) rfl ?_
                    refine s44 sh105 (by decide) g45 rfl ?_
                    refine s6 (p := 91) rfl ?_
                    refine s51 sh91 (by decide) (by decide) rf91_19 ?_
                    refine s6 (p := 91) rfl ?_
                    refine s50 (v := A 91 3) sh91 (by decide) (by decide) ((v2_ne (by decide)).trans ((v2_ne (by decide)).trans ((v2_ne (by decide)).trans (rdM hR.1 rfl)))) ?_
                    refine s4 (x := x5) rfl ?_
                    refine s44 sh106 (by decide) g45 rfl ?_
                    refine s6 (p := 91) rfl ?_
                    refine s51 sh91 (by decide) (by decide) rf91_20 ?_
                    refine s6 (p := 91) rfl ?_
                    refine s50 (v := A 91 3) sh91 (by decide) (by decide) ((v2_ne (by decide)).trans ((v2_ne (by decide)).trans ((v2_ne (by decide)).trans ((v2_ne (by decide)).trans (rdM hR.1 rfl))))) ?_
                    refine s4 (x := x3) rfl ?_
                    refine s44 sh107 (by decide) g45 rfl ?_
                    refine s6 (p := 91) rfl ?_
                    refine s51 sh91 (by decide) (by decide) rf91_21 ?_
                    refine s6 (p := 91) rfl ?_
                    refine s50 (v := A 91 3) sh91 (by decide) (by decide) ((v2_ne (by decide)).trans ((v2_ne (by decide)).trans ((v2_ne (by decide)).trans ((v2_ne (by decide)).trans ((v2_ne (by decide)).trans (rdM hR.1 rfl)))))) ?_
                    refine s6 (p := 91) rfl ?_
                    refine s50 (v := A 91 0) sh91 (by decide) (by decide) ((v2_ne (by decide)).trans ((v2_ne (by decide)).trans ((v2_ne (by decide)).trans ((v2_ne (by decide)).trans ((v2_ne (by decide)).trans (rdM hR.1 rfl)))))) ?_
                    refine s44 sh108 (by decide) g45 rfl ?_
                    refine s6 (p := 91) rfl ?_
                    refine s51 sh91 (by decide) (by decide) rf91_22 ?_
                    refine s6 (p := 91) rfl ?_
                    refine s50 (v := A 91 3) sh91 (by decide) (by decide) ((v2_ne (by decide)).trans ((v2_ne (by decide)).trans ((v2_ne (by decide)).trans ((v2_ne (by decide)).trans ((v2_ne (by decide)).trans ((v2_ne (by decide)).trans (rdM hR.1 rfl))))))) ?_
                    refine s0 ?_
                    refine s44 sh109 (by decide) g45 rfl ?_
                    refine s6 (p := 91) rfl ?_
                    refine s51 sh91 (by decide) (by decide) rf91_23 ?_
                    refine s4 (x := 3 + x2) rfl ?_
                    refine s14 ?_
                    refine s40 (v := A 110 (3 + x2).toNat) sh110 g19 rfl ((v2_ne (by decide)).trans ((v2_ne (by decide)).trans ((v2_ne (by decide)).trans ((v2_ne (by decide)).trans ((v2_ne (by decide)).trans ((v2_ne (by decide)).trans ((v2_ne (by decide)).trans (rdM hR.1 rfl)))))))) ?_
                    refine s0 ?_
                    refine s16 ?_
                    refine s44 sh110 (by decide) g19 rfl ?_
                    refine s6 (p := 91) rfl ?_
                    refine s13r ?_
                    refine s50 (v := A 91 3) sh91 (by decide) (by decide) ((v2_ne (by decide)).trans ((v2_ne (by decide)).trans ((v2_ne (by decide)).trans ((v2_ne (by decide)).trans ((v2_ne (by decide)).trans ((v2_ne (by decide)).trans ((v2_ne (by decide)).trans ((v2_ne (by decide)).trans (rdM hR.1 rfl))))))))) ?_
                    refine s0 ?_
                    refine s16 ?_
                    refine s52 sh91 (by decide) (by decide) ?_
                    refine s6 (p := 91) rfl ?_
                    refine s50 (v := A 91 3 + 1) sh91 (by decide) (by decide) (v2_eq) ?_
                    refine s0 ?_
                    refine s17 ?_
                    refine s80 ?_
                    refine rqI_of ?_
                    refine s80 ?_
                    exact rqI_of hE
            · replace hE := hE.2 c16
              refine s84 (by decide) ?_
              refine rqI_of ?_
              refine s67 (inRd rfl) (fun _ => ?_) (fun c46 => absurd (by decide) c46)
              refine xG gb232.2.2.2.2.1 ?_
              refine s0 ?_
              refine s80 ?_
              exact rqI_of hE
          · replace hE := hE.2 c13
            refine s84 (by decide) ?_
            refine rqI_of ?_
            refine s67 (inRd rfl) (fun _ => ?_) (fun c47 => absurd (by decide) c47)
            refine xG gb232.2.2.2.2.1 ?_
            refine s0 ?_
            refine s80 ?_
            exact rqI_of hE
        · replace hE := hE.2 c10
          refine s67 (inRd rfl) (fun _ => ?_) (fun c48 => absurd (by decide) c48)
          refine xG gb232.2.2.2.2.1 ?_
          refine s0 ?_
          refine s80 ?_
          exact rqI_of hE
      · replace hE := hE.2 c8
        refine xG gb232.2.1 ?_
        refine s4 (x := x4) rfl ?_
        refine sI rc230 rfl (Nat.le_of_ble_eq_true rfl) ?_
        refine cI_of (ls := [.int (oI x4)]) rfl ?_
        refine xG gb230 ?_
        refine s4 (x := x4) rfl ?_
        refine s0 ?_
        refine s0 ?_
        obtain ⟨g49, hE⟩ := hE
        refine sI rc210 rfl (Nat.le_of_ble_eq_true rfl) ?_
        refine k210 g49 (inRd rfl) (inRd rfl) (fun c50 => ?_) (fun c50 => ?_)
        · replace hE := hE.1 c50
          refine s84 (by decide) ?_
          refine rqI_of ?_
          refine s67 (inRd rfl) (fun c51 => absurd c51 (by decide)) (fun _ => ?_)
          refine s4 (x := x5) rfl ?_
          refine sI rc230 rfl (Nat.le_of_ble_eq_true rfl) ?_
          refine cI_of (ls := [.int (oI x5)]) rfl ?_
          refine xG gb230 ?_
          refine s4 (x := x5) rfl ?_
          refine s0 ?_
          refine s0 ?_
          obtain ⟨g52, hE⟩ := hE
          refine sI rc210 rfl (Nat.le_of_ble_eq_true rfl) ?_
          refine k210 g52 (inRd rfl) (inRd rfl) (fun c53 => ?_) (fun c53 => ?_)
          · replace hE := hE.1 c53
            refine s84 (by decide) ?_
            refine rqI_of ?_
            refine s67 (inRd rfl) (fun c54 => absurd c54 (by decide)) (fun _ => ?_)
            refine s4 (x := x4) rfl ?_
            refine s4 (x := x5) rfl ?_
            refine s65 g49 g52 (fun c55 => ?_) (fun c55 => ?_)
            · replace hE := hE.1 c55
              refine xG gb232.2.2.2.2.1 ?_
              refine s0 ?_
              refine s80 ?_
              exact rqI_of hE
            · replace hE := hE.2 c55
              refine s6 (p := 91) rfl ?_
              refine s51 sh91 (by decide) (by decide) rf91_23 ?_
              refine s0 ?_
              refine s4 (x := x2) rfl ?_
              refine s16 ?_
              obtain ⟨g56, hE⟩ := hE
              refine s40 (v := A 110 (3 + x2).toNat) sh110 g56 rfl (rdM hR.1 rfl) ?_
              refine s4 (x := x2) rfl ?_
              refine s68 g5 (fun c57 => absurd c57 c8) (fun _ => ?_)
              refine xG gb232.2.2.1 ?_
              refine s0 ?_
              refine s79 ?_
              refine xG gb232.2.2.2.1 ?_
              refine s62 (inA hR.1 (a := 110) (k := (3 + x2).toNat) rfl) (inRd rfl) (fun c58 => ?_) (fun c58 => ?_)
              · replace hE := hE.1 c58
                refine s79 ?_
                refine xG gb232.2.2.2.2.1 ?_
                refine s0 ?_
                refine s80 ?_
                exact rqI_of hE
              · replace hE := hE.2 c58
                refine xG gb232.2.2.2.2.2.1 ?_
                refine s4 (x := x2) rfl ?_
                refine s0 ?_
                refine s62 g5 (inRd rfl) (fun c59 => ?_) (fun c59 => ?_)
                · replace hE := hE.1 c59
                  refine s6 (p := 91) rfl ?_
                  refine s4 (x := x1) rfl ?_
                  refine s4 (x := x4) rfl ?_
                  refine s0 ?_
                  refine s19 g49 ⟨(inRd rfl), by decide⟩ ?_
                  refine s6 (p := 91) rfl ?_
                  refine s50 (v := A 91 0) sh91 (by decide) (by decide) (rdM hR.1 rfl) ?_
                  obtain ⟨g60, hE⟩ := hE
                  obtain ⟨g61, hE⟩ := hE
                  obtain ⟨g62, hE⟩ := hE
                  obtain ⟨g63, hE⟩ := hE
                  obtain ⟨g64, hE⟩ := hE
                  refine sI rc233 rfl (Nat.le_of_ble_eq_true rfl) ?_
                  refine k233 hR g60 g61 g62 g63 g64 (inA hR.1 (a := 91) (k := 0) rfl) (fun I65 q66 q67 => ?_)
                  replace hE := hE I65 q66 q67
                  refine s7 (ls' := [.ref 91, .int (oI x1), .int (oI x2), .int (oI x3), .int (oI x4), .int (oI x5), .int (oI (stS A x1 (Int.tdiv x4 100) (A 91 0)))]) (Nat.le_of_ble_eq_true rfl) rfl ?_
                  refine s6 (p := 91) rfl ?_
                  refine sV rc236 rfl (Nat.le_of_ble_eq_true rfl) ?_
                  refine k236R (q67) (fun I68 q69 q70 => ?_)
                  replace hE := hE I68 q69 q70
                  refine s6 (p := 91) rfl ?_
                  refine s51 sh91 (by decide) (by decide) rf91_85 ?_
                  refine s0 ?_
                  refine s6 (p := 91) rfl ?_
                  refine s4 (x := x1) rfl ?_
                  refine s4 (x := x4) rfl ?_
                  refine sI rc237 rfl (Nat.le_of_ble_eq_true rfl) ?_
                  refine cI_of (ls := [.ref 91, .int (oI x1), .int (oI x4)]) rfl ?_
                  refine xG gb237 ?_
                  refine s0 ?_
                  refine s4 (x := x4) rfl ?_
                  refine s6 (p := 91) rfl ?_
                  refine s51 sh91 (by decide) (by decide) rf91_5 ?_
                  refine s4 (x := x1) rfl ?_
                  obtain ⟨g71, hE⟩ := hE
                  refine s40 (v := A 92 x1.toNat) sh92 g71 rfl (rdM (RM.fr (q67) q69 rfl rfl (fun _ => rfl)).1 rfl) ?_
                  refine s17 ?_
                  refine s0 ?_
                  obtain ⟨g72, hE⟩ := hE
                  refine s19 g72 ⟨(inRd rfl), by decide⟩ ?_
                  obtain ⟨g73, hE⟩ := hE
                  refine sI rc346 rfl (Nat.le_of_ble_eq_true rfl) ?_
                  refine k346 (inRd rfl) g73 ?_
                  refine s80 ?_
                  refine rqI_of ?_
                  refine s44 sh150 (by decide) (⟨by decide, by decide⟩ : (0 : Int) ≤ 0 ∧ (0 : Int) < 12) rfl ?_
                  refine s6 (p := 91) rfl ?_
                  refine s51 sh91 (by decide) (by decide) rf91_85 ?_
                  refine s0 ?_
                  refine s4 (x := stS A x1 (Int.tdiv x4 100) (A 91 0)) rfl ?_
                  refine s44 sh150 (by decide) (⟨by decide, by decide⟩ : (0 : Int) ≤ 1 ∧ (1 : Int) < 12) rfl ?_
                  refine s6 (p := 91) rfl ?_
                  refine s51 sh91 (by decide) (by decide) rf91_85 ?_
                  refine s0 ?_
                  refine s4 (x := x4) rfl ?_
                  refine s0 ?_
                  refine s19 g49 ⟨(inRd rfl), by decide⟩ ?_
                  refine s44 sh150 (by decide) (⟨by decide, by decide⟩ : (0 : Int) ≤ 3 ∧ (3 : Int) < 12) rfl ?_
                  refine s6 (p := 91) rfl ?_
                  refine s4 (x := x4) rfl ?_
                  refine s0 ?_
                  refine s19 g49 ⟨(inRd rfl), by decide⟩ ?_
                  refine s0 ?_
                  refine s0 ?_
                  obtain ⟨e74, k75, hE⟩ := hE
                  refine sI rc220 rfl (Nat.le_of_ble_eq_true rfl) ?_
                  refine k220 k75 (RM.scr (RM.scr (RM.scr (RM.fr (q67) q69 rfl rfl (fun _ => rfl)) rfl) rfl) rfl) g61 g64 (inRd rfl) (inRd rfl) (fun I76 q77 q78 => ?_)
                  replace hE := hE I76 q77 q78
                  refine s0 ?_
                  obtain ⟨g79, hE⟩ := hE
                  refine s62 g79 (inRd rfl) (fun c80 => ?_) (fun c80 => ?_)
                  · replace hE := hE.1 c80
                    refine s0 ?_
                    refine s80 ?_
                    exact rqI_of hE
                  · replace hE := hE.2 c80
                    refine xG gb232.2.2.2.2.2.2 ?_
                    refine s6 (p := 91) rfl ?_
                    refine s0 ?_
                    refine s4 (x := x2) rfl ?_
                    refine s16 ?_
                    refine s4 (x := x1) rfl ?_
                    refine s4 (x := x4) rfl ?_
                    refine s4 (x := x5) rfl ?_
                    refine s4 (x := x3) rfl ?_
                    refine sI rc228 rfl (Nat.le_of_ble_eq_true rfl) ?_
                    refine cI_of (ls := [.ref 91, .int (oI (3 + x2)), .int (oI x1), .int (oI x4), .int (oI x5), .int (oI x3)]) rfl ?_
                    refine xG gb228 ?_
                    refine s6 (p := 91) rfl ?_
                    refine s51 sh91 (by decide) (by decide) rf91_16 ?_
                    refine s6 (p := 91) rfl ?_
                    refine s50 (v := A 91 3) sh91 (by decide) (by decide) (rdM q78.1 rfl) ?_
                    refine s4 (x := 3 + x2) rfl ?_
                    obtain ⟨g81, hE⟩ := hE
                    refine s44 sh103 (by decide) g81 rfl ?_
                    refine s6 (p := 91) rfl ?_
                    refine s51 sh91 (by decide) (by decide) rf91_17 ?_
                    refine s6 (p := 91) rfl ?_
                    refine s50 (v := A 91 3) sh91 (by decide) (by decide) ((v2_ne (by decide)).trans (rdM q78.1 rfl)) ?_
                    refine s4 (x := x1) rfl ?_
                    refine s44 sh104 (by decide) g81 rfl ?_
                    refine s6 (p := 91) rfl ?_
                    refine s51 sh91 (by decide) (by decide) rf91_18 ?_
                    refine s6 (p := 91) rfl ?_
                    refine s50 (v := A 91 3) sh91 (by decide) (by decide) ((v2_ne (by decide)).trans ((v2_ne (by decide)).trans (rdM q78.1 rfl))) ?_
                    refine s4 (x := x4) rfl ?_
                    refine s44 sh105 (by decide) g81 rfl ?_
                    refine s6 (p := 91) rfl ?_
                    refine s51 sh91 (by decide) (by decide) rf91_19 ?_
                    refine s6 (p := 91) rfl ?_
                    refine s50 (v := A 91 3) sh91 (by decide) (by decide) ((v2_ne (by decide)).trans ((v2_ne (by decide)).trans ((v2_ne (by decide)).trans (rdM q78.1 rfl)))) ?_
                    refine s4 (x := x5) rfl ?_
                    refine s44 sh106 (by decide) g81 rfl ?_
                    refine s6 (p := 91) rfl ?_
                    refine s51 sh91 (by decide) (by decide) rf91_20 ?_
                    refine s6 (p := 91) rfl ?_
                    refine s50 (v := A 91 3) sh91 (by decide) (by decide) ((v2_ne (by decide)).trans ((v2_ne (by decide)).trans ((v2_ne (by decide)).trans ((v2_ne (by decide)).trans (rdM q78.1 rfl))))) ?_
                    refine s4 (x := x3) rfl ?_
                    refine s44 sh107 (by decide) g81 rfl ?_
                    refine s6 (p := 91) rfl ?_
                    refine s51 sh91 (by decide) (by decide) rf91_21 ?_
                    refine s6 (p := 91) rfl ?_
                    refine s50 (v := A 91 3) sh91 (by decide) (by decide) ((v2_ne (by decide)).trans ((v2_ne (by decide)).trans ((v2_ne (by decide)).trans ((v2_ne (by decide)).trans ((v2_ne (by decide)).trans (rdM q78.1 rfl)))))) ?_
                    refine s6 (p := 91) rfl ?_
                    refine s50 (v := A 91 0) sh91 (by decide) (by decide) ((v2_ne (by decide)).trans ((v2_ne (by decide)).trans ((v2_ne (by decide)).trans ((v2_ne (by decide)).trans ((v2_ne (by decide)).trans (rdM q78.1 rfl)))))) ?_
                    refine s44 sh108 (by decide) g81 rfl ?_
                    refine s6 (p := 91) rfl ?_
                    refine s51 sh91 (by decide) (by decide) rf91_22 ?_
                    refine s6 (p := 91) rfl ?_
                    refine s50 (v := A 91 3) sh91 (by decide) (by decide) ((v2_ne (by decide)).trans ((v2_ne (by decide)).trans ((v2_ne (by decide)).trans ((v2_ne (by decide)).trans ((v2_ne (by decide)).trans ((v2_ne (by decide)).trans (rdM q78.1 rfl))))))) ?_
                    refine s0 ?_
                    refine s44 sh109 (by decide) g81 rfl ?_
                    refine s6 (p := 91) rfl ?_
                    refine s51 sh91 (by decide) (by decide) rf91_23 ?_
                    refine s4 (x := 3 + x2) rfl ?_
                    refine s14 ?_
                    refine s40 (v := A 110 (3 + x2).toNat) sh110 g56 rfl ((v2_ne (by decide)).trans ((v2_ne (by decide)).trans ((v2_ne (by decide)).trans ((v2_ne (by decide)).trans ((v2_ne (by decide)).trans ((v2_ne (by decide)).trans ((v2_ne (by decide)).trans (rdM q78.1 rfl)))))))) ?_
                    refine s0 ?_
                    refine s16 ?_
                    refine s44 sh110 (by decide) g56 rfl ?_
                    refine s6 (p := 91) rfl ?_
                    refine s13r ?_
                    refine s50 (v := A 91 3) sh91 (by decide) (by decide) ((v2_ne (by decide)).trans ((v2_ne (by decide)).trans ((v2_ne (by decide)).trans ((v2_ne (by decide)).trans ((v2_ne (by decide)).trans ((v2_ne (by decide)).trans ((v2_ne (by decide)).trans ((v2_ne (by decide)).trans (rdM q78.1 rfl))))))))) ?_
                    refine s0 ?_
                    refine s16 ?_
                    refine s52 sh91 (by decide) (by decide) ?_
                    refine s6 (p := 91) rfl ?_
                    refine s50 (v := A 91 3 + 1) sh91 (by decide) (by decide) (v2_eq) ?_
                    refine s0 ?_
                    refine s17 ?_
                    refine s80 ?_
                    refine rqI_of ?_
                    refine s80 ?_
                    exact rqI_of hE
                · replace hE := hE.2 c59
                  refine xG gb232.2.2.2.2.2.2 ?_
                  refine s6 (p := 91) rfl ?_
                  refine s0 ?_
                  refine s4 (x := x2) rfl ?_
                  refine s16 ?_
                  refine s4 (x := x1) rfl ?_
                  refine s4 (x := x4) rfl ?_
                  refine s4 (x := x5) rfl ?_
                  refine s4 (x := x3) rfl ?_
                  refine sI rc228 rfl (Nat.le_of_ble_eq_true rfl) ?_
                  refine cI_of (ls := [.ref 91, .int (oI (3 + x2)), .int (oI x1), .int (oI x4), .int (oI x5), .int (oI x3)]) rfl ?_
                  refine xG gb228 ?_
                  refine s6 (p := 91) rfl ?_
                  refine s51 sh91 (by decide) (by decide) rf91_16 ?_
                  refine s6 (p := 91) rfl ?_
                  refine s50 (v := A 91 3) sh91 (by decide) (by decide) (rdM hR.1 rfl) ?_
                  refine s4 (x := 3 + x2) rfl ?_
                  obtain ⟨g82, hE⟩ := hE
                  refine s44 sh103 (by decide) g82 rfl ?_
                  refine s6 (p := 91) rfl ?_
                  refine s51 sh91 (by decide) (by decide) rf91_17 ?_
                  refine s6 (p := 91) rfl ?_
                  refine s50 (v := A 91 3) sh91 (by decide) (by decide) ((v2_ne (by decide)).trans (rdM hR.1 rfl)) ?_
                  refine s4 (x := x1) rfl ?_
                  refine s44 sh104 (by decide) g82 rfl ?_
                  refine s6 (p := 91) rfl ?_
                  refine s51 sh91 (by decide) (by decide) rf91_18 ?_
                  refine s6 (p := 91) rfl ?_
                  refine s50 (v := A 91 3) sh91 (by decide) (by decide) ((v2_ne (by decide)).trans ((v2_ne (by decide)).trans (rdM hR.1 rfl))) ?_
                  refine s4 (x := x4) rfl ?_
                  refine s44 sh105 (by decide) g82 rfl ?_
                  refine s6 (p := 91) rfl ?_
                  refine s51 sh91 (by decide) (by decide) rf91_19 ?_
                  refine s6 (p := 91) rfl ?_
                  refine s50 (v := A 91 3) sh91 (by decide) (by decide) ((v2_ne (by decide)).trans ((v2_ne (by decide)).trans ((v2_ne (by decide)).trans (rdM hR.1 rfl)))) ?_
                  refine s4 (x := x5) rfl ?_
                  refine s44 sh106 (by decide) g82 rfl ?_
                  refine s6 (p := 91) rfl ?_
                  refine s51 sh91 (by decide) (by decide) rf91_20 ?_
                  refine s6 (p := 91) rfl ?_
                  refine s50 (v := A 91 3) sh91 (by decide) (by decide) ((v2_ne (by decide)).trans ((v2_ne (by decide)).trans ((v2_ne (by decide)).trans ((v2_ne (by decide)).trans (rdM hR.1 rfl))))) ?_
                  refine s4 (x := x3) rfl ?_
                  refine s44 sh107 (by decide) g82 rfl ?_
                  refine s6 (p := 91) rfl ?_
                  refine s51 sh91 (by decide) (by decide) rf91_21 ?_
                  refine s6 (p := 91) rfl ?_
                  refine s50 (v := A 91 3) sh91 (by decide) (by decide) ((v2_ne (by decide)).trans ((v2_ne (by decide)).trans ((v2_ne (by decide)).trans ((v2_ne (by decide)).trans ((v2_ne (by decide)).trans (rdM hR.1 rfl)))))) ?_
                  refine s6 (p := 91) rfl ?_
                  refine s50 (v := A 91 0) sh91 (by decide) (by decide) ((v2_ne (by decide)).trans ((v2_ne (by decide)).trans ((v2_ne (by decide)).trans ((v2_ne (by decide)).trans ((v2_ne (by decide)).trans (rdM hR.1 rfl)))))) ?_
                  refine s44 sh108 (by decide) g82 rfl ?_
                  refine s6 (p := 91) rfl ?_
                  refine s51 sh91 (by decide) (by decide) rf91_22 ?_
                  refine s6 (p := 91) rfl ?_
                  refine s50 (v := A 91 3) sh91 (by decide) (by decide) ((v2_ne (by decide)).trans ((v2_ne (by decide)).trans ((v2_ne (by decide)).trans ((v2_ne (by decide)).trans ((v2_ne (by decide)).trans ((v2_ne (by decide)).trans (rdM hR.1 rfl))))))) ?_
                  refine s0 ?_
                  refine s44 sh109 (by decide) g82 rfl ?_
                  refine s6 (p := 91) rfl ?_
                  refine s51 sh91 (by decide) (by decide) rf91_23 ?_
                  refine s4 (x := 3 + x2) rfl ?_
                  refine s14 ?_
                  refine s40 (v := A 110 (3 + x2).toNat) sh110 g56 rfl ((v2_ne (by decide)).trans ((v2_ne (by decide)).trans ((v2_ne (by decide)).trans ((v2_ne (by decide)).trans ((v2_ne (by decide)).trans ((v2_ne (by decide)).trans ((v2_ne (by decide)).trans (rdM hR.1 rfl)))))))) ?_
                  refine s0 ?_
                  refine s16 ?_
                  refine s44 sh110 (by decide) g56 rfl ?_
                  refine s6 (p := 91) rfl ?_
                  refine s13r ?_
                  refine s50 (v := A 91 3) sh91 (by decide) (by decide) ((v2_ne (by decide)).trans ((v2_ne (by decide)).trans ((v2_ne (by decide)).trans ((v2_ne (by decide)).trans ((v2_ne (by decide)).trans ((v2_ne (by decide)).trans ((v2_ne (by decide)).trans ((v2_ne (by decide)).trans (rdM hR.1 rfl))))))))) ?_
                  refine s0 ?_
                  refine s16 ?_
                  refine s52 sh91 (by decide) (by decide) ?_
                  refine s6 (p := 91) rfl ?_
                  refine s50 (v := A 91 3 + 1) sh91 (by decide) (by decide) (v2_eq) ?_
                  refine s0 ?_
                  refine s17 ?_
                  refine s80 ?_
                  refine rqI_of ?_
                  refine s80 ?_
                  exact rqI_of hE
          · replace hE := hE.2 c53
            refine s84 (by decide) ?_
            refine rqI_of ?_
            refine s67 (inRd rfl) (fun _ => ?_) (fun c83 => absurd (by decide) c83)
            refine xG gb232.2.2.2.2.1 ?_
            refine s0 ?_
            refine s80 ?_
            exact rqI_of hE
        · replace hE := hE.2 c50
          refine s84 (by decide) ?_
          refine rqI_of ?_
          refine s67 (inRd rfl) (fun _ => ?_) (fun c84 => absurd (by decide) c84)
          refine xG gb232.2.2.2.2.1 ?_
          refine s0 ?_
          refine s80 ?_
          exact rqI_of hE
    · replace hE := hE.2 c6
      refine s67 (inRd rfl) (fun _ => ?_) (fun c85 => absurd (by decide) c85)
      refine xG gb232.2.2.2.2.1 ?_
      refine s0 ?_
      refine s80 ?_
      exact rqI_of hE
  · replace hE := hE.2 c3
    refine s84 (by decide) ?_
    refine rqI_of ?_
    refine s67 (inRd rfl) (fun _ => ?_) (fun c86 => absurd (by decide) c86)
    refine xG gb232.2.2.2.2.1 ?_
    refine s0 ?_
    refine s80 ?_
    exact rqI_of hE
noncomputable def o232 (A : aS) (x1 : Int) (x2 : Int) (x3 : Int) (x4 : Int) (x5 : Int) : Int × aS := (if 0 ≤ x1 ∧ x1 ≤ A 91 1 - 1 then (if 0 ≤ x2 ∧ x2 ≤ 2 then (if x2 = 0 then (if 0 ≤ x3 ∧ x3 ≤ 5 then (if 0 ≤ x4 ∧ x4 ≤ 799 then (if 0 ≤ x5 ∧ x5 ≤ 799 then (if x5 < x4 then ((-1), A) else (if A 110 (3 + x2).toNat = 60 then ((-1), A) else (if x2 = 1 then (if fsS A (putE (putE (putE zE 0 (max 0 (Int.tdiv (x4 - (A 92 x1.toNat)) 100))) 1 (stS A x1 (Int.tdiv x4 100) (A 91 0))) 3 (Int.tdiv x4 100)) (Int.tdiv x4 100) 9 (-1) = (-1) then ((-2), A) else ((A 91 3 + 1 - 1), (u2 (u2 (u2 (u2 (u2 (u2 (u2 (u2 (u2 A 103 (A 91 3).toNat ((3 + x2))) 104 (A 91 3).toNat (x1)) 105 (A 91 3).toNat (x4)) 106 (A 91 3).toNat (x5)) 107 (A 91 3).toNat (x3)) 108 (A 91 3).toNat ((A 91 0))) 109 (A 91 3).toNat (5000)) 110 (3 + x2).toNat ((A 110 (3 + x2).toNat + 1))) 91 3 ((A 91 3 + 1))))) else ((A 91 3 + 1 - 1), (u2 (u2 (u2 (u2 (u2 (u2 (u2 (u2 (u2 A 103 (A 91 3).toNat ((3 + x2))) 104 (A 91 3).toNat (x1)) 105 (A 91 3).toNat (x4)) 106 (A 91 3).toNat (x5)) 107 (A 91 3).toNat (x3)) 108 (A 91 3).toNat ((A 91 0))) 109 (A 91 3).toNat (5000)) 110 (3 + x2).toNat ((A 110 (3 + x2).toNat + 1))) 91 3 ((A 91 3 + 1))))))) else ((-1), A)) else ((-1), A)) else ((-1), A)) else (if 0 ≤ x4 ∧ x4 ≤ 799 then (if 0 ≤ x5 ∧ x5 ≤ 799 then (if x5 < x4 then ((-1), A) else (if A 110 (3 + x2).toNat = 30 then ((-1), A) else (if x2 = 1 then (if fsS A (putE (putE (putE zE 0 (max 0 (Int.tdiv (x4 - (A 92 x1.toNat)) 100))) 1 (stS A x1 (Int.tdiv x4 100) (A 91 0))) 3 (Int.tdiv x4 100)) (Int.tdiv x4 100) 9 (-1) = (-1) then ((-2), A) else ((A 91 3 + 1 - 1), (u2 (u2 (u2 (u2 (u2 (u2 (u2 (u2 (u2 A 103 (A 91 3).toNat ((3 + x2))) 104 (A 91 3).toNat (x1)) 105 (A 91 3).toNat (x4)) 106 (A 91 3).toNat (x5)) 107 (A 91 3).toNat (x3)) 108 (A 91 3).toNat ((A 91 0))) 109 (A 91 3).toNat (5000)) 110 (3 + x2).toNat ((A 110 (3 + x2).toNat + 1))) 91 3 ((A 91 3 + 1))))) else ((A 91 3 + 1 - 1), (u2 (u2 (u2 (u2 (u2 (u2 (u2 (u2 (u2 A 103 (A 91 3).toNat ((3 + x2))) 104 (A 91 3).toNat (x1)) 105 (A 91 3).toNat (x4)) 106 (A 91 3).toNat (x5)) 107 (A 91 3).toNat (x3)) 108 (A 91 3).toNat ((A 91 0))) 109 (A 91 3).toNat (5000)) 110 (3 + x2).toNat ((A 110 (3 + x2).toNat + 1))) 91 3 ((A 91 3 + 1))))))) else ((-1), A)) else ((-1), A))) else ((-1), A)) else ((-1), A))
set_option maxRecDepth 4000 in
theorem k232 {d L : Nat} {I : mI} {R : Nat → Nat → Option Nat} {S : List (Nat × Nat)} {A : aS} {K : Int32 → mM → Prop} {x1 : Int} {x2 : Int} {x3 : Int} {x4 : Int} {x5 : Int} (hR : RM I A) (hWfA : WfA A) (hWfC : WfC A) (hWfP : WfP A) (hWfB : WfB A) (rx1 : inR x1) (rx2 : inR x2) (rx3 : inR x3) (rx4 : inR x4) (rx5 : inR x5) (hK : ∀ I1, FM I I1 → RM I1 (o232 A x1 x2 x3 x4 x5).2 → K (oI (o232 A x1 x2 x3 x4 x5).1) (bd L I1 R S)) : CallI (d + 29) 232 [.ref 91, .int (oI x1), .int (oI x2), .int (oI x3), .int (oI x4), .int (oI x5)] (bd L I R S) K := by
  have ho : o232 A x1 x2 x3 x4 x5 = (if 0 ≤ x1 ∧ x1 ≤ A 91 1 - 1 then (if 0 ≤ x2 ∧ x2 ≤ 2 then (if x2 = 0 then (if 0 ≤ x3 ∧ x3 ≤ 5 then (if 0 ≤ x4 ∧ x4 ≤ 799 then (if 0 ≤ x5 ∧ x5 ≤ 799 then (if x5 < x4 then ((-1), A) else (if A 110 (3 + x2).toNat = 60 then ((-1), A) else (if x2 = 1 then (if fsS A (putE (putE (putE zE 0 (max 0 (Int.tdiv (x4 - (A 92 x1.toNat)) 100))) 1 (stS A x1 (Int.tdiv x4 100) (A 91 0))) 3 (Int.tdiv x4 100)) (Int.tdiv x4 100) 9 (-1) = (-1) then ((-2), A) else ((A 91 3 + 1 - 1), (u2 (u2 (u2 (u2 (u2 (u2 (u2 (u2 (u2 A 103 (A 91 3).toNat ((3 + x2))) 104 (A 91 3).toNat (x1)) 105 (A 91 3).toNat (x4)) 106 (A 91 3).toNat (x5)) 107 (A 91 3).toNat (x3)) 108 (A 91 3).toNat ((A 91 0))) 109 (A 91 3).toNat (5000)) 110 (3 + x2).toNat ((A 110 (3 + x2).toNat + 1))) 91 3 ((A 91 3 + 1))))) else ((A 91 3 + 1 - 1), (u2 (u2 (u2 (u2 (u2 (u2 (u2 (u2 (u2 A 103 (A 91 3).toNat ((3 + x2))) 104 (A 91 3).toNat (x1)) 105 (A 91 3).toNat (x4)) 106 (A 91 3).toNat (x5)) 107 (A 91 3).toNat (x3)) 108 (A 91 3).toNat ((A 91 0))) 109 (A 91 3).toNat (5000)) 110 (3 + x2).toNat ((A 110 (3 + x2).toNat + 1))) 91 3 ((A 91 3 + 1))))))) else ((-1), A)) else ((-1), A)) else ((-1), A)) else (if 0 ≤ x4 ∧ x4 ≤ 799 then (if 0 ≤ x5 ∧ x5 ≤ 799 then (if x5 < x4 then ((-1), A) else (if A 110 (3 + x2).toNat = 30 then ((-1), A) else (if x2 = 1 then (if fsS A (putE (putE (putE zE 0 (max 0 (Int.tdiv (x4 - (A 92 x1.toNat)) 100))) 1 (stS A x1 (Int.tdiv x4 100) (A 91 0))) 3 (Int.tdiv x4 100)) (Int.tdiv x4 100) 9 (-1) = (-1) then ((-2), A) else ((A 91 3 + 1 - 1), (u2 (u2 (u2 (u2 (u2 (u2 (u2 (u2 (u2 A 103 (A 91 3).toNat ((3 + x2))) 104 (A 91 3).toNat (x1)) 105 (A 91 3).toNat (x4)) 106 (A 91 3).toNat (x5)) 107 (A 91 3).toNat (x3)) 108 (A 91 3).toNat ((A 91 0))) 109 (A 91 3).toNat (5000)) 110 (3 + x2).toNat ((A 110 (3 + x2).toNat + 1))) 91 3 ((A 91 3 + 1))))) else ((A 91 3 + 1 - 1), (u2 (u2 (u2 (u2 (u2 (u2 (u2 (u2 (u2 A 103 (A 91 3).toNat ((3 + x2))) 104 (A 91 3).toNat (x1)) 105 (A 91 3).toNat (x4)) 106 (A 91 3).toNat (x5)) 107 (A 91 3).toNat (x3)) 108 (A 91 3).toNat ((A 91 0))) 109 (A 91 3).toNat (5000)) 110 (3 + x2).toNat ((A 110 (3 + x2).toNat + 1))) 91 3 ((A 91 3 + 1))))))) else ((-1), A)) else ((-1), A))) else ((-1), A)) else ((-1), A)) := rfl
  have w0 := hWfA.1
  have w1 := hWfA.2.1
  have w2 := hWfA.2.2.1
  have w3 : 0 ≤ A 91 3 ∧ A 91 3 ≤ 850 := hWfA.2.2.2.1
  have wN := hWfA.2.2.2.1
  have ty := today_year hWfA
  have wb := hWfB
  unfold WfB at wb
  refine e232 (d := d) hR ?_
  refine ⟨by first | assumption | exact inRd rfl | omega | exact ⟨by omega, by omega⟩ | exact (dq (by assumption)).1 | exact (nb0 hWfB (by assumption) (by assumption)).1 | exact (nb0 hWfB (by assumption) (by assumption)).2 | exact (nb1 hWfB (by assumption) (by assumption) (by assumption)).1 | exact (nb1 hWfB (by assumption) (by assumption) (by assumption)).2 | exact fsS_inR hWfC | exact (age_in (by assumption) (hWfP x1.toNat (by omega)).1).1 | exact (age_in (by assumption) (hWfP x1.toNat (by omega)).1).2 | (have q9 := (hWfP x1.toNat (by omega)).1; exact ⟨by omega, by omega⟩) | (have q9 := (dq (x := x4) (by assumption)).1; exact ⟨by omega, by omega⟩) | (have q9 := stS_in hWfP (c := x1) (year := (Int.tdiv x4 100)) (known := (A 91 0)) (by omega); exact ⟨by omega, by omega⟩), ?_⟩
  refine ⟨by first | assumption | exact inRd rfl | omega | exact ⟨by omega, by omega⟩ | exact (dq (by assumption)).1 | exact (nb0 hWfB (by assumption) (by assumption)).1 | exact (nb0 hWfB (by assumption) (by assumption)).2 | exact (nb1 hWfB (by assumption) (by assumption) (by assumption)).1 | exact (nb1 hWfB (by assumption) (by assumption) (by assumption)).2 | exact fsS_inR hWfC | exact (age_in (by assumption) (hWfP x1.toNat (by omega)).1).1 | exact (age_in (by assumption) (hWfP x1.toNat (by omega)).1).2 | (have q9 := (hWfP x1.toNat (by omega)).1; exact ⟨by omega, by omega⟩) | (have q9 := (dq (x := x4) (by assumption)).1; exact ⟨by omega, by omega⟩) | (have q9 := stS_in hWfP (c := x1) (year := (Int.tdiv x4 100)) (known := (A 91 0)) (by omega); exact ⟨by omega, by omega⟩), ?_⟩
  refine ⟨fun c29 => ?_, fun c29 => ?_⟩
  · rw [if_pos c29] at ho
    refine ⟨by first | assumption | exact inRd rfl | omega | exact ⟨by omega, by omega⟩ | exact (dq (by assumption)).1 | exact (nb0 hWfB (by assumption) (by assumption)).1 | exact (nb0 hWfB (by assumption) (by assumption)).2 | exact (nb1 hWfB (by assumption) (by assumption) (by assumption)).1 | exact (nb1 hWfB (by assumption) (by assumption) (by assumption)).2 | exact fsS_inR hWfC | exact (age_in (by assumption) (hWfP x1.toNat (by omega)).1).1 | exact (age_in (by assumption) (hWfP x1.toNat (by omega)).1).2 | (have q9 := (hWfP x1.toNat (by omega)).1; exact ⟨by omega, by omega⟩) | (have q9 := (dq (x := x4) (by assumption)).1; exact ⟨by omega, by omega⟩) | (have q9 := stS_in hWfP (c := x1) (year := (Int.tdiv x4 100)) (known := (A 91 0)) (by omega); exact ⟨by omega, by omega⟩), ?_⟩
    refine ⟨fun c30 => ?_, fun c30 => ?_⟩
    · rw [if_pos c30] at ho
      refine ⟨fun c31 => ?_, fun c31 => ?_⟩
      · rw [if_pos c31] at ho
        refine ⟨by first | assumption | exact inRd rfl | omega | exact ⟨by omega, by omega⟩ | exact (dq (by assumption)).1 | exact (nb0 hWfB (by assumption) (by assumption)).1 | exact (nb0 hWfB (by assumption) (by assumption)).2 | exact (nb1 hWfB (by assumption) (by assumption) (by assumption)).1 | exact (nb1 hWfB (by assumption) (by assumption) (by assumption)).2 | exact fsS_inR hWfC | exact (age_in (by assumption) (hWfP x1.toNat (by omega)).1).1 | exact (age_in (by assumption) (hWfP x1.toNat (by omega)).1).2 | (have q9 := (hWfP x1.toNat (by omega)).1; exact ⟨by omega, by omega⟩) | (have q9 := (dq (x := x4) (by assumption)).1; exact ⟨by omega, by omega⟩) | (have q9 := stS_in hWfP (c := x1) (year := (Int.tdiv x4 100)) (known := (A 91 0)) (by omega); exact ⟨by omega, by omega⟩), ?_⟩
        refine ⟨fun c32 => ?_, fun c32 => ?_⟩
        · rw [if_pos c32] at ho
          refine ⟨by first | assumption | exact inRd rfl | omega | exact ⟨by omega, by omega⟩ | exact (dq (by assumption)).1 | exact (nb0 hWfB (by assumption) (by assumption)).1 | exact (nb0 hWfB (by assumption) (by assumption)).2 | exact (nb1 hWfB (by assumption) (by assumption) (by assumption)).1 | exact (nb1 hWfB (by assumption) (by assumption) (by assumption)).2 | exact fsS_inR hWfC | exact (age_in (by assumption) (hWfP x1.toNat (by omega)).1).1 | exact (age_in (by assumption) (hWfP x1.toNat (by omega)).1).2 | (have q9 := (hWfP x1.toNat (by omega)).1; exact ⟨by omega, by omega⟩) | (have q9 := (dq (x := x4) (by assumption)).1; exact ⟨by omega, by omega⟩) | (have q9 := stS_in hWfP (c := x1) (year := (Int.tdiv x4 100)) (known := (A 91 0)) (by omega); exact ⟨by omega, by omega⟩), ?_⟩
          refine ⟨fun c33 => ?_, fun c33 => ?_⟩
          · rw [if_pos c33] at ho
            refine ⟨by first | assumption | exact inRd rfl | omega | exact ⟨by omega, by omega⟩ | exact (dq (by assumption)).1 | exact (nb0 hWfB (by assumption) (by assumption)).1 | exact (nb0 hWfB (by assumption) (by assumption)).2 | exact (nb1 hWfB (by assumption) (by assumption) (by assumption)).1 | exact (nb1 hWfB (by assumption) (by assumption) (by assumption)).2 | exact fsS_inR hWfC | exact (age_in (by assumption) (hWfP x1.toNat (by omega)).1).1 | exact (age_in (by assumption) (hWfP x1.toNat (by omega)).1).2 | (have q9 := (hWfP x1.toNat (by omega)).1; exact ⟨by omega, by omega⟩) | (have q9 := (dq (x := x4) (by assumption)).1; exact ⟨by omega, by omega⟩) | (have q9 := stS_in hWfP (c := x1) (year := (Int.tdiv x4 100)) (known := (A 91 0)) (by omega); exact ⟨by omega, by omega⟩), ?_⟩
            refine ⟨fun c34 => ?_, fun c34 => ?_⟩
            · rw [if_pos c34] at ho
              refine ⟨fun c35 => ?_, fun c35 => ?_⟩
              · rw [if_pos c35] at ho
                rw [ho] at hK
                exact hK _ (FM.refl _) (hR)
              · rw [if_neg c35] at ho
                refine ⟨by first | assumption | exact inRd rfl | omega | exact ⟨by omega, by omega⟩ | exact (dq (by assumption)).1 | exact (nb0 hWfB (by assumption) (by assumption)).1 | exact (nb0 hWfB (by assumption) (by assumption)).2 | exact (nb1 hWfB (by assumption) (by assumption) (by assumption)).1 | exact (nb1 hWfB (by assumption) (by assumption) (by assumption)).2 | exact fsS_inR hWfC | exact (age_in (by assumption) (hWfP x1.toNat (by omega)).1).1 | exact (age_in (by assumption) (hWfP x1.toNat (by omega)).1).2 | (have q9 := (hWfP x1.toNat (by omega)).1; exact ⟨by omega, by omega⟩) | (have q9 := (dq (x := x4) (by assumption)).1; exact ⟨by omega, by omega⟩) | (have q9 := stS_in hWfP (c := x1) (year := (Int.tdiv x4 100)) (known := (A 91 0)) (by omega); exact ⟨by omega, by omega⟩), ?_⟩
                refine ⟨fun c36 => ?_, fun c36 => ?_⟩
                · rw [if_pos c36] at ho
                  rw [ho] at hK
                  exact hK _ (FM.refl _) (hR)
                · rw [if_neg c36] at ho
                  refine ⟨fun c37 => ?_, fun c37 => ?_⟩
                  · rw [if_pos c37] at ho
                    refine ⟨by first | assumption | exact inRd rfl | omega | exact ⟨by omega, by omega⟩ | exact (dq (by assumption)).1 | exact (nb0 hWfB (by assumption) (by assumption)).1 | exact (nb0 hWfB (by assumption) (by assumption)).2 | exact (nb1 hWfB (by assumption) (by assumption) (by assumption)).1 | exact (nb1 hWfB (by assumption) (by assumption) (by assumption)).2 | exact fsS_inR hWfC | exact (age_in (by assumption) (hWfP x1.toNat (by omega)).1).1 | exact (age_in (by assumption) (hWfP x1.toNat (by omega)).1).2 | (have q9 := (hWfP x1.toNat (by omega)).1; exact ⟨by omega, by omega⟩) | (have q9 := (dq (x := x4) (by assumption)).1; exact ⟨by omega, by omega⟩) | (have q9 := stS_in hWfP (c := x1) (year := (Int.tdiv x4 100)) (known := (A 91 0)) (by omega); exact ⟨by omega, by omega⟩), ?_⟩
                    refine ⟨by first | assumption | exact inRd rfl | omega | exact ⟨by omega, by omega⟩ | exact (dq (by assumption)).1 | exact (nb0 hWfB (by assumption) (by assumption)).1 | exact (nb0 hWfB (by assumption) (by assumption)).2 | exact (nb1 hWfB (by assumption) (by assumption) (by assumption)).1 | exact (nb1 hWfB (by assumption) (by assumption) (by assumption)).2 | exact fsS_inR hWfC | exact (age_in (by assumption) (hWfP x1.toNat (by omega)).1).1 | exact (age_in (by assumption) (hWfP x1.toNat (by omega)).1).2 | (have q9 := (hWfP x1.toNat (by omega)).1; exact ⟨by omega, by omega⟩) | (have q9 := (dq (x := x4) (by assumption)).1; exact ⟨by omega, by omega⟩) | (have q9 := stS_in hWfP (c := x1) (year := (Int.tdiv x4 100)) (known := (A 91 0)) (by omega); exact ⟨by omega, by omega⟩), ?_⟩
                    refine ⟨by first | assumption | exact inRd rfl | omega | exact ⟨by omega, by omega⟩ | exact (dq (by assumption)).1 | exact (nb0 hWfB (by assumption) (by assumption)).1 | exact (nb0 hWfB (by assumption) (by assumption)).2 | exact (nb1 hWfB (by assumption) (by assumption) (by assumption)).1 | exact (nb1 hWfB (by assumption) (by assumption) (by assumption)).2 | exact fsS_inR hWfC | exact (age_in (by assumption) (hWfP x1.toNat (by omega)).1).1 | exact (age_in (by assumption) (hWfP x1.toNat (by omega)).1).2 | (have q9 := (hWfP x1.toNat (by omega)).1; exact ⟨by omega, by omega⟩) | (have q9 := (dq (x := x4) (by assumption)).1; exact ⟨by omega, by omega⟩) | (have q9 := stS_in hWfP (c := x1) (year := (Int.tdiv x4 100)) (known := (A 91 0)) (by omega); exact ⟨by omega, by omega⟩), ?_⟩
                    refine ⟨by first | assumption | exact inRd rfl | omega | exact ⟨by omega, by omega⟩ | exact (dq (by assumption)).1 | exact (nb0 hWfB (by assumption) (by assumption)).1 | exact (nb0 hWfB (by assumption) (by assumption)).2 | exact (nb1 hWfB (by assumption) (by assumption) (by assumption)).1 | exact (nb1 hWfB (by assumption) (by assumption) (by assumption)).2 | exact fsS_inR hWfC | exact (age_in (by assumption) (hWfP x1.toNat (by omega)).1).1 | exact (age_in (by assumption) (hWfP x1.toNat (by omega)).1).2 | (have q9 := (hWfP x1.toNat (by omega)).1; exact ⟨by omega, by omega⟩) | (have q9 := (dq (x := x4) (by assumption)).1; exact ⟨by omega, by omega⟩) | (have q9 := stS_in hWfP (c := x1) (year := (Int.tdiv x4 100)) (known := (A 91 0)) (by omega); exact ⟨by omega, by omega⟩), ?_⟩
                    refine ⟨by first | assumption | exact inRd rfl | omega | exact ⟨by omega, by omega⟩ | exact (dq (by assumption)).1 | exact (nb0 hWfB (by assumption) (by assumption)).1 | exact (nb0 hWfB (by assumption) (by assumption)).2 | exact (nb1 hWfB (by assumption) (by assumption) (by assumption)).1 | exact (nb1 hWfB (by assumption) (by assumption) (by assumption)).2 | exact fsS_inR hWfC | exact (age_in (by assumption) (hWfP x1.toNat (by omega)).1).1 | exact (age_in (by assumption) (hWfP x1.toNat (by omega)).1).2 | (have q9 := (hWfP x1.toNat (by omega)).1; exact ⟨by omega, by omega⟩) | (have q9 := (dq (x := x4) (by assumption)).1; exact ⟨by omega, by omega⟩) | (have q9 := stS_in hWfP (c := x1) (year := (Int.tdiv x4 100)) (known := (A 91 0)) (by omega); exact ⟨by omega, by omega⟩), ?_⟩
                    intro I28 q38_0 q38_1
                    intro I31 q39_0 q39_1
                    refine ⟨by first | assumption | exact inRd rfl | omega | exact ⟨by omega, by omega⟩ | exact (dq (by assumption)).1 | exact (nb0 hWfB (by assumption) (by assumption)).1 | exact (nb0 hWfB (by assumption) (by assumption)).2 | exact (nb1 hWfB (by assumption) (by assumption) (by assumption)).1 | exact (nb1 hWfB (by assumption) (by assumption) (by assumption)).2 | exact fsS_inR hWfC | exact (age_in (by assumption) (hWfP x1.toNat (by omega)).1).1 | exact (age_in (by assumption) (hWfP x1.toNat (by omega)).1).2 | (have q9 := (hWfP x1.toNat (by omega)).1; exact ⟨by omega, by omega⟩) | (have q9 := (dq (x := x4) (by assumption)).1; exact ⟨by omega, by omega⟩) | (have q9 := stS_in hWfP (c := x1) (year := (Int.tdiv x4 100)) (known := (A 91 0)) (by omega); exact ⟨by omega, by omega⟩), ?_⟩
                    refine ⟨by first | assumption | exact inRd rfl | omega | exact ⟨by omega, by omega⟩ | exact (dq (by assumption)).1 | exact (nb0 hWfB (by assumption) (by assumption)).1 | exact (nb0 hWfB (by assumption) (by assumption)).2 | exact (nb1 hWfB (by assumption) (by assumption) (by assumption)).1 | exact (nb1 hWfB (by assumption) (by assumption) (by assumption)).2 | exact fsS_inR hWfC | exact (age_in (by assumption) (hWfP x1.toNat (by omega)).1).1 | exact (age_in (by assumption) (hWfP x1.toNat (by omega)).1).2 | (have q9 := (hWfP x1.toNat (by omega)).1; exact ⟨by omega, by omega⟩) | (have q9 := (dq (x := x4) (by assumption)).1; exact ⟨by omega, by omega⟩) | (have q9 := stS_in hWfP (c := x1) (year := (Int.tdiv x4 100)) (known := (A 91 0)) (by omega); exact ⟨by omega, by omega⟩), ?_⟩
                    refine ⟨by first | assumption | exact inRd rfl | omega | exact ⟨by omega, by omega⟩ | exact (dq (by assumption)).1 | exact (nb0 hWfB (by assumption) (by assumption)).1 | exact (nb0 hWfB (by assumption) (by assumption)).2 | exact (nb1 hWfB (by assumption) (by assumption) (by assumption)).1 | exact (nb1 hWfB (by assumption) (by assumption) (by assumption)).2 | exact fsS_inR hWfC | exact (age_in (by assumption) (hWfP x1.toNat (by omega)).1).1 | exact (age_in (by assumption) (hWfP x1.toNat (by omega)).1).2 | (have q9 := (hWfP x1.toNat (by omega)).1; exact ⟨by omega, by omega⟩) | (have q9 := (dq (x := x4) (by assumption)).1; exact ⟨by omega, by omega⟩) | (have q9 := stS_in hWfP (c := x1) (year := (Int.tdiv x4 100)) (known := (A 91 0)) (by omega); exact ⟨by omega, by omega⟩), ?_⟩
                    refine ⟨putE (putE (putE zE 0 (max 0 (Int.tdiv (x4 - (A 92 x1.toNat)) 100))) 1 (stS A x1 (Int.tdiv x4 100) (A 91 0))) 3 (Int.tdiv x4 100), by exact (((EnvI.zero q39_1).put (k := 0) (by first | assumption | exact inRd rfl | omega | exact ⟨by omega, by omega⟩ | exact (dq (by assumption)).1 | exact (nb0 hWfB (by assumption) (by assumption)).1 | exact (nb0 hWfB (by assumption) (by assumption)).2 | exact (nb1 hWfB (by assumption) (by assumption) (by assumption)).1 | exact (nb1 hWfB (by assumption) (by assumption) (by assumption)).2 | exact fsS_inR hWfC | exact (age_in (by assumption) (hWfP x1.toNat (by omega)).1).1 | exact (age_in (by assumption) (hWfP x1.toNat (by omega)).1).2 | (have q9 := (hWfP x1.toNat (by omega)).1; exact ⟨by omega, by omega⟩) | (have q9 := (dq (x := x4) (by assumption)).1; exact ⟨by omega, by omega⟩) | (have q9 := stS_in hWfP (c := x1) (year := (Int.tdiv x4 100)) (known := (A 91 0)) (by omega); exact ⟨by omega, by omega⟩))).put (k := 1) (by first | assumption | exact inRd rfl | omega | exact ⟨by omega, by omega⟩ | exact (dq (by assumption)).1 | exact (nb0 hWfB (by assumption) (by assumption)).1 | exact (nb0 hWfB (by assumption) (by assumption)).2 | exact (nb1 hWfB (by assumption) (by assumption) (by assumption)).1 | exact (nb1 hWfB (by assumption) (by assumption) (by assumption)).2 | exact fsS_inR hWfC | exact (age_in (by assumption) (hWfP x1.toNat (by omega)).1).1 | exact (age_in (by assumption) (hWfP x1.toNat (by omega)).1).2 | (have q9 := (hWfP x1.toNat (by omega)).1; exact ⟨by omega, by omega⟩) | (have q9 := (dq (x := x4) (by assumption)).1; exact ⟨by omega, by omega⟩) | (have q9 := stS_in hWfP (c := x1) (year := (Int.tdiv x4 100)) (known := (A 91 0)) (by omega); exact ⟨by omega, by omega⟩))).put (k := 3) (by first | assumption | exact inRd rfl | omega | exact ⟨by omega, by omega⟩ | exact (dq (by assumption)).1 | exact (nb0 hWfB (by assumption) (by assumption)).1 | exact (nb0 hWfB (by assumption) (by assumption)).2 | exact (nb1 hWfB (by assumption) (by assumption) (by assumption)).1 | exact (nb1 hWfB (by assumption) (by assumption) (by assumption)).2 | exact fsS_inR hWfC | exact (age_in (by assumption) (hWfP x1.toNat (by omega)).1).1 | exact (age_in (by assumption) (hWfP x1.toNat (by omega)).1).2 | (have q9 := (hWfP x1.toNat (by omega)).1; exact ⟨by omega, by omega⟩) | (have q9 := (dq (x := x4) (by assumption)).1; exact ⟨by omega, by omega⟩) | (have q9 := stS_in hWfP (c := x1) (year := (Int.tdiv x4 100)) (known := (A 91 0)) (by omega); exact ⟨by omega, by omega⟩)), ?_⟩
                    intro I39 q40_0 q40_1
                    refine ⟨by first | assumption | exact inRd rfl | omega | exact ⟨by omega, by omega⟩ | exact (dq (by assumption)).1 | exact (nb0 hWfB (by assumption) (by assumption)).1 | exact (nb0 hWfB (by assumption) (by assumption)).2 | exact (nb1 hWfB (by assumption) (by assumption) (by assumption)).1 | exact (nb1 hWfB (by assumption) (by assumption) (by assumption)).2 | exact fsS_inR hWfC | exact (age_in (by assumption) (hWfP x1.toNat (by omega)).1).1 | exact (age_in (by assumption) (hWfP x1.toNat (by omega)).1).2 | (have q9 := (hWfP x1.toNat (by omega)).1; exact ⟨by omega, by omega⟩) | (have q9 := (dq (x := x4) (by assumption)).1; exact ⟨by omega, by omega⟩) | (have q9 := stS_in hWfP (c := x1) (year := (Int.tdiv x4 100)) (known := (A 91 0)) (by omega); exact ⟨by omega, by omega⟩), ?_⟩
                    refine ⟨fun c41 => ?_, fun c41 => ?_⟩
                    · rw [if_pos c41] at ho
                      rw [ho] at hK
                      exact hK _ (FM.trans (FM.wr (FM.wr (FM.wr (FM.trans (FM.trans (FM.refl _) (Fr.FM q38_0 rfl)) (Fr.FM q39_0 rfl)) (by decide)) (by decide)) (by decide)) (Fr.FM q40_0 rfl)) (q40_1)
                    · rw [if_neg c41] at ho
                      refine ⟨by first | assumption | exact inRd rfl | omega | exact ⟨by omega, by omega⟩ | exact (dq (by assumption)).1 | exact (nb0 hWfB (by assumption) (by assumption)).1 | exact (nb0 hWfB (by assumption) (by assumption)).2 | exact (nb1 hWfB (by assumption) (by assumption) (by assumption)).1 | exact (nb1 hWfB (by assumption) (by assumption) (by assumption)).2 | exact fsS_inR hWfC | exact (age_in (by assumption) (hWfP x1.toNat (by omega)).1).1 | exact (age_in (by assumption) (hWfP x1.toNat (by omega)).1).2 | (have q9 := (hWfP x1.toNat (by omega)).1; exact ⟨by omega, by omega⟩) | (have q9 := (dq (x := x4) (by assumption)).1; exact ⟨by omega, by omega⟩) | (have q9 := stS_in hWfP (c := x1) (year := (Int.tdiv x4 100)) (known := (A 91 0)) (by omega); exact ⟨by omega, by omega⟩), ?_⟩
                      rw [ho] at hK
                      exact hK _ (FM.wr (FM.wr (FM.wr (FM.wr (FM.wr (FM.wr (FM.wr (FM.wr (FM.wr (FM.trans (FM.wr (FM.wr (FM.wr (FM.trans (FM.trans (FM.refl _) (Fr.FM q38_0 rfl)) (Fr.FM q39_0 rfl)) (by decide)) (by decide)) (by decide)) (Fr.FM q40_0 rfl)) (by decide)) (by decide)) (by decide)) (by decide)) (by decide)) (by decide)) (by decide)) (by decide)) (by decide)) (RM.set (RM.set (RM.set (RM.set (RM.set (RM.set (RM.set (RM.set (RM.set (q40_1) 103 (A 91 3).toNat (by first | assumption | exact inRd rfl | omega | exact ⟨by omega, by omega⟩ | exact (dq (by assumption)).1 | exact (nb0 hWfB (by assumption) (by assumption)).1 | exact (nb0 hWfB (by assumption) (by assumption)).2 | exact (nb1 hWfB (by assumption) (by assumption) (by assumption)).1 | exact (nb1 hWfB (by assumption) (by assumption) (by assumption)).2 | exact fsS_inR hWfC | exact (age_in (by assumption) (hWfP x1.toNat (by omega)).1).1 | exact (age_in (by assumption) (hWfP x1.toNat (by omega)).1).2 | (have q9 := (hWfP x1.toNat (by omega)).1; exact ⟨by omega, by omega⟩) | (have q9 := (dq (x := x4) (by assumption)).1; exact ⟨by omega, by omega⟩) | (have q9 := stS_in hWfP (c := x1) (year := (Int.tdiv x4 100)) (known := (A 91 0)) (by omega); exact ⟨by omega, by omega⟩)) rfl) 104 (A 91 3).toNat (by first | assumption | exact inRd rfl | omega | exact ⟨by omega, by omega⟩ | exact (dq (by assumption)).1 | exact (nb0 hWfB (by assumption) (by assumption)).1 | exact (nb0 hWfB (by assumption) (by assumption)).2 | exact (nb1 hWfB (by assumption) (by assumption) (by assumption)).1 | exact (nb1 hWfB (by assumption) (by assumption) (by assumption)).2 | exact fsS_inR hWfC | exact (age_in (by assumption) (hWfP x1.toNat (by omega)).1).1 | exact (age_in (by assumption) (hWfP x1.toNat (by omega)).1).2 | (have q9 := (hWfP x1.toNat (by omega)).1; exact ⟨by omega, by omega⟩) | (have q9 := (dq (x := x4) (by assumption)).1; exact ⟨by omega, by omega⟩) | (have q9 := stS_in hWfP (c := x1) (year := (Int.tdiv x4 100)) (known := (A 91 0)) (by omega); exact ⟨by omega, by omega⟩)) rfl) 105 (A 91 3).toNat (by first | assumption | exact inRd rfl | omega | exact ⟨by omega, by omega⟩ | exact (dq (by assumption)).1 | exact (nb0 hWfB (by assumption) (by assumption)).1 | exact (nb0 hWfB (by assumption) (by assumption)).2 | exact (nb1 hWfB (by assumption) (by assumption) (by assumption)).1 | exact (nb1 hWfB (by assumption) (by assumption) (by assumption)).2 | exact fsS_inR hWfC | exact (age_in (by assumption) (hWfP x1.toNat (by omega)).1).1 | exact (age_in (by assumption) (hWfP x1.toNat (by omega)).1).2 | (have q9 := (hWfP x1.toNat (by omega)).1; exact ⟨by omega, by omega⟩) | (have q9 := (dq (x := x4) (by assumption)).1; exact ⟨by omega, by omega⟩) | (have q9 := stS_in hWfP (c := x1) (year := (Int.tdiv x4 100)) (known := (A 91 0)) (by omega); exact ⟨by omega, by omega⟩)) rfl) 106 (A 91 3).toNat (by first | assumption | exact inRd rfl | omega | exact ⟨by omega, by omega⟩ | exact (dq (by assumption)).1 | exact (nb0 hWfB (by assumption) (by assumption)).1 | exact (nb0 hWfB (by assumption) (by assumption)).2 | exact (nb1 hWfB (by assumption) (by assumption) (by assumption)).1 | exact (nb1 hWfB (by assumption) (by assumption) (by assumption)).2 | exact fsS_inR hWfC | exact (age_in (by assumption) (hWfP x1.toNat (by omega)).1).1 | exact (age_in (by assumption) (hWfP x1.toNat (by omega)).1).2 | (have q9 := (hWfP x1.toNat (by omega)).1; exact ⟨by omega, by omega⟩) | (have q9 := (dq (x := x4) (by assumption)).1; exact ⟨by omega, by omega⟩) | (have q9 := stS_in hWfP (c := x1) (year := (Int.tdiv x4 100)) (known := (A 91 0)) (by omega); exact ⟨by omega, by omega⟩)) rfl) 107 (A 91 3).toNat (by first | assumption | exact inRd rfl | omega | exact ⟨by omega, by omega⟩ | exact (dq (by assumption)).1 | exact (nb0 hWfB (by assumption) (by assumption)).1 | exact (nb0 hWfB (by assumption) (by assumption)).2 | exact (nb1 hWfB (by assumption) (by assumption) (by assumption)).1 | exact (nb1 hWfB (by assumption) (by assumption) (by assumption)).2 | exact fsS_inR hWfC | exact (age_in (by assumption) (hWfP x1.toNat (by omega)).1).1 | exact (age_in (by assumption) (hWfP x1.toNat (by omega)).1).2 | (have q9 := (hWfP x1.toNat (by omega)).1; exact ⟨by omega, by omega⟩) | (have q9 := (dq (x := x4) (by assumption)).1; exact ⟨by omega, by omega⟩) | (have q9 := stS_in hWfP (c := x1) (year := (Int.tdiv x4 100)) (known := (A 91 0)) (by omega); exact ⟨by omega, by omega⟩)) rfl) 108 (A 91 3).toNat (by first | assumption | exact inRd rfl | omega | exact ⟨by omega, by omega⟩ | exact (dq (by assumption)).1 | exact (nb0 hWfB (by assumption) (by assumption)).1 | exact (nb0 hWfB (by assumption) (by assumption)).2 | exact (nb1 hWfB (by assumption) (by assumption) (by assumption)).1 | exact (nb1 hWfB (by assumption) (by assumption) (by assumption)).2 | exact fsS_inR hWfC | exact (age_in (by assumption) (hWfP x1.toNat (by omega)).1).1 | exact (age_in (by assumption) (hWfP x1.toNat (by omega)).1).2 | (have q9 := (hWfP x1.toNat (by omega)).1; exact ⟨by omega, by omega⟩) | (have q9 := (dq (x := x4) (by assumption)).1; exact ⟨by omega, by omega⟩) | (have q9 := stS_in hWfP (c := x1) (year := (Int.tdiv x4 100)) (known := (A 91 0)) (by omega); exact ⟨by omega, by omega⟩)) rfl) 109 (A 91 3).toNat (by first | assumption | exact inRd rfl | omega | exact ⟨by omega, by omega⟩ | exact (dq (by assumption)).1 | exact (nb0 hWfB (by assumption) (by assumption)).1 | exact (nb0 hWfB (by assumption) (by assumption)).2 | exact (nb1 hWfB (by assumption) (by assumption) (by assumption)).1 | exact (nb1 hWfB (by assumption) (by assumption) (by assumption)).2 | exact fsS_inR hWfC | exact (age_in (by assumption) (hWfP x1.toNat (by omega)).1).1 | exact (age_in (by assumption) (hWfP x1.toNat (by omega)).1).2 | (have q9 := (hWfP x1.toNat (by omega)).1; exact ⟨by omega, by omega⟩) | (have q9 := (dq (x := x4) (by assumption)).1; exact ⟨by omega, by omega⟩) | (have q9 := stS_in hWfP (c := x1) (year := (Int.tdiv x4 100)) (known := (A 91 0)) (by omega); exact ⟨by omega, by omega⟩)) rfl) 110 (3 + x2).toNat (by first | assumption | exact inRd rfl | omega | exact ⟨by omega, by omega⟩ | exact (dq (by assumption)).1 | exact (nb0 hWfB (by assumption) (by assumption)).1 | exact (nb0 hWfB (by assumption) (by assumption)).2 | exact (nb1 hWfB (by assumption) (by assumption) (by assumption)).1 | exact (nb1 hWfB (by assumption) (by assumption) (by assumption)).2 | exact fsS_inR hWfC | exact (age_in (by assumption) (hWfP x1.toNat (by omega)).1).1 | exact (age_in (by assumption) (hWfP x1.toNat (by omega)).1).2 | (have q9 := (hWfP x1.toNat (by omega)).1; exact ⟨by omega, by omega⟩) | (have q9 := (dq (x := x4) (by assumption)).1; exact ⟨by omega, by omega⟩) | (have q9 := stS_in hWfP (c := x1) (year := (Int.tdiv x4 100)) (known := (A 91 0)) (by omega); exact ⟨by omega, by omega⟩)) rfl) 91 3 (by first | assumption | exact inRd rfl | omega | exact ⟨by omega, by omega⟩ | exact (dq (by assumption)).1 | exact (nb0 hWfB (by assumption) (by assumption)).1 | exact (nb0 hWfB (by assumption) (by assumption)).2 | exact (nb1 hWfB (by assumption) (by assumption) (by assumption)).1 | exact (nb1 hWfB (by assumption) (by assumption) (by assumption)).2 | exact fsS_inR hWfC | exact (age_in (by assumption) (hWfP x1.toNat (by omega)).1).1 | exact (age_in (by assumption) (hWfP x1.toNat (by omega)).1).2 | (have q9 := (hWfP x1.toNat (by omega)).1; exact ⟨by omega, by omega⟩) | (have q9 := (dq (x := x4) (by assumption)).1; exact ⟨by omega, by omega⟩) | (have q9 := stS_in hWfP (c := x1) (year := (Int.tdiv x4 100)) (known := (A 91 0)) (by omega); exact ⟨by omega, by omega⟩)) rfl)
                  · rw [if_neg c37] at ho
                    refine ⟨by first | assumption | exact inRd rfl | omega | exact ⟨by omega, by omega⟩ | exact (dq (by assumption)).1 | exact (nb0 hWfB (by assumption) (by assumption)).1 | exact (nb0 hWfB (by assumption) (by assumption)).2 | exact (nb1 hWfB (by assumption) (by assumption) (by assumption)).1 | exact (nb1 hWfB (by assumption) (by assumption) (by assumption)).2 | exact fsS_inR hWfC | exact (age_in (by assumption) (hWfP x1.toNat (by omega)).1).1 | exact (age_in (by assumption) (hWfP x1.toNat (by omega)).1).2 | (have q9 := (hWfP x1.toNat (by omega)).1; exact ⟨by omega, by omega⟩) | (have q9 := (dq (x := x4) (by assumption)).1; exact ⟨by omega, by omega⟩) | (have q9 := stS_in hWfP (c := x1) (year := (Int.tdiv x4 100)) (known := (A 91 0)) (by omega); exact ⟨by omega, by omega⟩), ?_⟩
                    rw [ho] at hK
                    exact hK _ (FM.wr (FM.wr (FM.wr (FM.wr (FM.wr (FM.wr (FM.wr (FM.wr (FM.wr (FM.refl _) (by decide)) (by decide)) (by decide)) (by decide)) (by decide)) (by decide)) (by decide)) (by decide)) (by decide)) (RM.set (RM.set (RM.set (RM.set (RM.set (RM.set (RM.set (RM.set (RM.set (hR) 103 (A 91 3).toNat (by first | assumption | exact inRd rfl | omega | exact ⟨by omega, by omega⟩ | exact (dq (by assumption)).1 | exact (nb0 hWfB (by assumption) (by assumption)).1 | exact (nb0 hWfB (by assumption) (by assumption)).2 | exact (nb1 hWfB (by assumption) (by assumption) (by assumption)).1 | exact (nb1 hWfB (by assumption) (by assumption) (by assumption)).2 | exact fsS_inR hWfC | exact (age_in (by assumption) (hWfP x1.toNat (by omega)).1).1 | exact (age_in (by assumption) (hWfP x1.toNat (by omega)).1).2 | (have q9 := (hWfP x1.toNat (by omega)).1; exact ⟨by omega, by omega⟩) | (have q9 := (dq (x := x4) (by assumption)).1; exact ⟨by omega, by omega⟩) | (have q9 := stS_in hWfP (c := x1) (year := (Int.tdiv x4 100)) (known := (A 91 0)) (by omega); exact ⟨by omega, by omega⟩)) rfl) 104 (A 91 3).toNat (by first | assumption | exact inRd rfl | omega | exact ⟨by omega, by omega⟩ | exact (dq (by assumption)).1 | exact (nb0 hWfB (by assumption) (by assumption)).1 | exact (nb0 hWfB (by assumption) (by assumption)).2 | exact (nb1 hWfB (by assumption) (by assumption) (by assumption)).1 | exact (nb1 hWfB (by assumption) (by assumption) (by assumption)).2 | exact fsS_inR hWfC | exact (age_in (by assumption) (hWfP x1.toNat (by omega)).1).1 | exact (age_in (by assumption) (hWfP x1.toNat (by omega)).1).2 | (have q9 := (hWfP x1.toNat (by omega)).1; exact ⟨by omega, by omega⟩) | (have q9 := (dq (x := x4) (by assumption)).1; exact ⟨by omega, by omega⟩) | (have q9 := stS_in hWfP (c := x1) (year := (Int.tdiv x4 100)) (known := (A 91 0)) (by omega); exact ⟨by omega, by omega⟩)) rfl) 105 (A 91 3).toNat (by first | assumption | exact inRd rfl | omega | exact ⟨by omega, by omega⟩ | exact (dq (by assumption)).1 | exact (nb0 hWfB (by assumption) (by assumption)).1 | exact (nb0 hWfB (by assumption) (by assumption)).2 | exact (nb1 hWfB (by assumption) (by assumption) (by assumption)).1 | exact (nb1 hWfB (by assumption) (by assumption) (by assumption)).2 | exact fsS_inR hWfC | exact (age_in (by assumption) (hWfP x1.toNat (by omega)).1).1 | exact (age_in (by assumption) (hWfP x1.toNat (by omega)).1).2 | (have q9 := (hWfP x1.toNat (by omega)).1; exact ⟨by omega, by omega⟩) | (have q9 := (dq (x := x4) (by assumption)).1; exact ⟨by omega, by omega⟩) | (have q9 := stS_in hWfP (c := x1) (year := (Int.tdiv x4 100)) (known := (A 91 0)) (by omega); exact ⟨by omega, by omega⟩)) rfl) 106 (A 91 3).toNat (by first | assumption | exact inRd rfl | omega | exact ⟨by omega, by omega⟩ | exact (dq (by assumption)).1 | exact (nb0 hWfB (by assumption) (by assumption)).1 | exact (nb0 hWfB (by assumption) (by assumption)).2 | exact (nb1 hWfB (by assumption) (by assumption) (by assumption)).1 | exact (nb1 hWfB (by assumption) (by assumption) (by assumption)).2 | exact fsS_inR hWfC | exact (age_in (by assumption) (hWfP x1.toNat (by omega)).1).1 | exact (age_in (by assumption) (hWfP x1.toNat (by omega)).1).2 | (have q9 := (hWfP x1.toNat (by omega)).1; exact ⟨by omega, by omega⟩) | (have q9 := (dq (x := x4) (by assumption)).1; exact ⟨by omega, by omega⟩) | (have q9 := stS_in hWfP (c := x1) (year := (Int.tdiv x4 100)) (known := (A 91 0)) (by omega); exact ⟨by omega, by omega⟩)) rfl) 107 (A 91 3).toNat (by first | assumption | exact inRd rfl | omega | exact ⟨by omega, by omega⟩ | exact (dq (by assumption)).1 | exact (nb0 hWfB (by assumption) (by assumption)).1 | exact (nb0 hWfB (by assumption) (by assumption)).2 | exact (nb1 hWfB (by assumption) (by assumption) (by assumption)).1 | exact (nb1 hWfB (by assumption) (by assumption) (by assumption)).2 | exact fsS_inR hWfC | exact (age_in (by assumption) (hWfP x1.toNat (by omega)).1).1 | exact (age_in (by assumption) (hWfP x1.toNat (by omega)).1).2 | (have q9 := (hWfP x1.toNat (by omega)).1; exact ⟨by omega, by omega⟩) | (have q9 := (dq (x := x4) (by assumption)).1; exact ⟨by omega, by omega⟩) | (have q9 := stS_in hWfP (c := x1) (year := (Int.tdiv x4 100)) (known := (A 91 0)) (by omega); exact ⟨by omega, by omega⟩)) rfl) 108 (A 91 3).toNat (by first | assumption | exact inRd rfl | omega | exact ⟨by omega, by omega⟩ | exact (dq (by assumption)).1 | exact (nb0 hWfB (by assumption) (by assumption)).1 | exact (nb0 hWfB (by assumption) (by assumption)).2 | exact (nb1 hWfB (by assumption) (by assumption) (by assumption)).1 | exact (nb1 hWfB (by assumption) (by assumption) (by assumption)).2 | exact fsS_inR hWfC | exact (age_in (by assumption) (hWfP x1.toNat (by omega)).1).1 | exact (age_in (by assumption) (hWfP x1.toNat (by omega)).1).2 | (have q9 := (hWfP x1.toNat (by omega)).1; exact ⟨by omega, by omega⟩) | (have q9 := (dq (x := x4) (by assumption)).1; exact ⟨by omega, by omega⟩) | (have q9 := stS_in hWfP (c := x1) (year := (Int.tdiv x4 100)) (known := (A 91 0)) (by omega); exact ⟨by omega, by omega⟩)) rfl) 109 (A 91 3).toNat (by first | assumption | exact inRd rfl | omega | exact ⟨by omega, by omega⟩ | exact (dq (by assumption)).1 | exact (nb0 hWfB (by assumption) (by assumption)).1 | exact (nb0 hWfB (by assumption) (by assumption)).2 | exact (nb1 hWfB (by assumption) (by assumption) (by assumption)).1 | exact (nb1 hWfB (by assumption) (by assumption) (by assumption)).2 | exact fsS_inR hWfC | exact (age_in (by assumption) (hWfP x1.toNat (by omega)).1).1 | exact (age_in (by assumption) (hWfP x1.toNat (by omega)).1).2 | (have q9 := (hWfP x1.toNat (by omega)).1; exact ⟨by omega, by omega⟩) | (have q9 := (dq (x := x4) (by assumption)).1; exact ⟨by omega, by omega⟩) | (have q9 := stS_in hWfP (c := x1) (year := (Int.tdiv x4 100)) (known := (A 91 0)) (by omega); exact ⟨by omega, by omega⟩)) rfl) 110 (3 + x2).toNat (by first | assumption | exact inRd rfl | omega | exact ⟨by omega, by omega⟩ | exact (dq (by assumption)).1 | exact (nb0 hWfB (by assumption) (by assumption)).1 | exact (nb0 hWfB (by assumption) (by assumption)).2 | exact (nb1 hWfB (by assumption) (by assumption) (by assumption)).1 | exact (nb1 hWfB (by assumption) (by assumption) (by assumption)).2 | exact fsS_inR hWfC | exact (age_in (by assumption) (hWfP x1.toNat (by omega)).1).1 | exact (age_in (by assumption) (hWfP x1.toNat (by omega)).1).2 | (have q9 := (hWfP x1.toNat (by omega)).1; exact ⟨by omega, by omega⟩) | (have q9 := (dq (x := x4) (by assumption)).1; exact ⟨by omega, by omega⟩) | (have q9 := stS_in hWfP (c := x1) (year := (Int.tdiv x4 100)) (known := (A 91 0)) (by omega); exact ⟨by omega, by omega⟩)) rfl) 91 3 (by first | assumption | exact inRd rfl | omega | exact ⟨by omega, by omega⟩ | exact (dq (by assumption)).1 | exact (nb0 hWfB (by assumption) (by assumption)).1 | exact (nb0 hWfB (by assumption) (by assumption)).2 | exact (nb1 hWfB (by assumption) (by assumption) (by assumption)).1 | exact (nb1 hWfB (by assumption) (by assumption) (by assumption)).2 | exact fsS_inR hWfC | exact (age_in (by assumption) (hWfP x1.toNat (by omega)).1).1 | exact (age_in (by assumption) (hWfP x1.toNat (by omega)).1).2 | (have q9 := (hWfP x1.toNat (by omega)).1; exact ⟨by omega, by omega⟩) | (have q9 := (dq (x := x4) (by assumption)).1; exact ⟨by omega, by omega⟩) | (have q9 := stS_in hWfP (c := x1) (year := (Int.tdiv x4 100)) (known := (A 91 0)) (by omega); exact ⟨by omega, by omega⟩)) rfl)
            · rw [if_neg c34] at ho
              rw [ho] at hK
              exact hK _ (FM.refl _) (hR)
          · rw [if_neg c33] at ho
            rw [ho] at hK
            exact hK _ (FM.refl _) (hR)
        · rw [if_neg c32] at ho
          rw [ho] at hK
          exact hK _ (FM.refl _) (hR)
      · rw [if_neg c31] at ho
        refine ⟨by first | assumption | exact inRd rfl | omega | exact ⟨by omega, by omega⟩ | exact (dq (by assumption)).1 | exact (nb0 hWfB (by assumption) (by assumption)).1 | exact (nb0 hWfB (by assumption) (by assumption)).2 | exact (nb1 hWfB (by assumption) (by assumption) (by assumption)).1 | exact (nb1 hWfB (by assumption) (by assumption) (by assumption)).2 | exact fsS_inR hWfC | exact (age_in (by assumption) (hWfP x1.toNat (by omega)).1).1 | exact (age_in (by assumption) (hWfP x1.toNat (by omega)).1).2 | (have q9 := (hWfP x1.toNat (by omega)).1; exact ⟨by omega, by omega⟩) | (have q9 := (dq (x := x4) (by assumption)).1; exact ⟨by omega, by omega⟩) | (have q9 := stS_in hWfP (c := x1) (year := (Int.tdiv x4 100)) (known := (A 91 0)) (by omega); exact ⟨by omega, by omega⟩), ?_⟩
        refine ⟨fun c42 => ?_, fun c42 => ?_⟩
        · rw [if_pos c42] at ho
          refine ⟨by first | assumption | exact inRd rfl | omega | exact ⟨by omega, by omega⟩ | exact (dq (by assumption)).1 | exact (nb0 hWfB (by assumption) (by assumption)).1 | exact (nb0 hWfB (by assumption) (by assumption)).2 | exact (nb1 hWfB (by assumption) (by assumption) (by assumption)).1 | exact (nb1 hWfB (by assumption) (by assumption) (by assumption)).2 | exact fsS_inR hWfC | exact (age_in (by assumption) (hWfP x1.toNat (by omega)).1).1 | exact (age_in (by assumption) (hWfP x1.toNat (by omega)).1).2 | (have q9 := (hWfP x1.toNat (by omega)).1; exact ⟨by omega, by omega⟩) | (have q9 := (dq (x := x4) (by assumption)).1; exact ⟨by omega, by omega⟩) | (have q9 := stS_in hWfP (c := x1) (year := (Int.tdiv x4 100)) (known := (A 91 0)) (by omega); exact ⟨by omega, by omega⟩), ?_⟩
          refine ⟨fun c43 => ?_, fun c43 => ?_⟩
          · rw [if_pos c43] at ho
            refine ⟨fun c44 => ?_, fun c44 => ?_⟩
            · rw [if_pos c44] at ho
              rw [ho] at hK
              exact hK _ (FM.refl _) (hR)
            · rw [if_neg c44] at ho
              refine ⟨by first | assumption | exact inRd rfl | omega | exact ⟨by omega, by omega⟩ | exact (dq (by assumption)).1 | exact (nb0 hWfB (by assumption) (by assumption)).1 | exact (nb0 hWfB (by assumption) (by assumption)).2 | exact (nb1 hWfB (by assumption) (by assumption) (by assumption)).1 | exact (nb1 hWfB (by assumption) (by assumption) (by assumption)).2 | exact fsS_inR hWfC | exact (age_in (by assumption) (hWfP x1.toNat (by omega)).1).1 | exact (age_in (by assumption) (hWfP x1.toNat (by omega)).1).2 | (have q9 := (hWfP x1.toNat (by omega)).1; exact ⟨by omega, by omega⟩) | (have q9 := (dq (x := x4) (by assumption)).1; exact ⟨by omega, by omega⟩) | (have q9 := stS_in hWfP (c := x1) (year := (Int.tdiv x4 100)) (known := (A 91 0)) (by omega); exact ⟨by omega, by omega⟩), ?_⟩
              refine ⟨fun c45 => ?_, fun c45 => ?_⟩
              · rw [if_pos c45] at ho
                rw [ho] at hK
                exact hK _ (FM.refl _) (hR)
              · rw [if_neg c45] at ho
                refine ⟨fun c46 => ?_, fun c46 => ?_⟩
                · rw [if_pos c46] at ho
                  refine ⟨by first | assumption | exact inRd rfl | omega | exact ⟨by omega, by omega⟩ | exact (dq (by assumption)).1 | exact (nb0 hWfB (by assumption) (by assumption)).1 | exact (nb0 hWfB (by assumption) (by assumption)).2 | exact (nb1 hWfB (by assumption) (by assumption) (by assumption)).1 | exact (nb1 hWfB (by assumption) (by assumption) (by assumption)).2 | exact fsS_inR hWfC | exact (age_in (by assumption) (hWfP x1.toNat (by omega)).1).1 | exact (age_in (by assumption) (hWfP x1.toNat (by omega)).1).2 | (have q9 := (hWfP x1.toNat (by omega)).1; exact ⟨by omega, by omega⟩) | (have q9 := (dq (x := x4) (by assumption)).1; exact ⟨by omega, by omega⟩) | (have q9 := stS_in hWfP (c := x1) (year := (Int.tdiv x4 100)) (known := (A 91 0)) (by omega); exact ⟨by omega, by omega⟩), ?_⟩
                  refine ⟨by first | assumption | exact inRd rfl | omega | exact ⟨by omega, by omega⟩ | exact (dq (by assumption)).1 | exact (nb0 hWfB (by assumption) (by assumption)).1 | exact (nb0 hWfB (by assumption) (by assumption)).2 | exact (nb1 hWfB (by assumption) (by assumption) (by assumption)).1 | exact (nb1 hWfB (by assumption) (by assumption) (by assumption)).2 | exact fsS_inR hWfC | exact (age_in (by assumption) (hWfP x1.toNat (by omega)).1).1 | exact (age_in (by assumption) (hWfP x1.toNat (by omega)).1).2 | (have q9 := (hWfP x1.toNat (by omega)).1; exact ⟨by omega, by omega⟩) | (have q9 := (dq (x := x4) (by assumption)).1; exact ⟨by omega, by omega⟩) | (have q9 := stS_in hWfP (c := x1) (year := (Int.tdiv x4 100)) (known := (A 91 0)) (by omega); exact ⟨by omega, by omega⟩), ?_⟩
                  refine ⟨by first | assumption | exact inRd rfl | omega | exact ⟨by omega, by omega⟩ | exact (dq (by assumption)).1 | exact (nb0 hWfB (by assumption) (by assumption)).1 | exact (nb0 hWfB (by assumption) (by assumption)).2 | exact (nb1 hWfB (by assumption) (by assumption) (by assumption)).1 | exact (nb1 hWfB (by assumption) (by assumption) (by assumption)).2 | exact fsS_inR hWfC | exact (age_in (by assumption) (hWfP x1.toNat (by omega)).1).1 | exact (age_in (by assumption) (hWfP x1.toNat (by omega)).1).2 | (have q9 := (hWfP x1.toNat (by omega)).1; exact ⟨by omega, by omega⟩) | (have q9 := (dq (x := x4) (by assumption)).1; exact ⟨by omega, by omega⟩) | (have q9 := stS_in hWfP (c := x1) (year := (Int.tdiv x4 100)) (known := (A 91 0)) (by omega); exact ⟨by omega, by omega⟩), ?_⟩
                  refine ⟨by first | assumption | exact inRd rfl | omega | exact ⟨by omega, by omega⟩ | exact (dq (by assumption)).1 | exact (nb0 hWfB (by assumption) (by assumption)).1 | exact (nb0 hWfB (by assumption) (by assumption)).2 | exact (nb1 hWfB (by assumption) (by assumption) (by assumption)).1 | exact (nb1 hWfB (by assumption) (by assumption) (by assumption)).2 | exact fsS_inR hWfC | exact (age_in (by assumption) (hWfP x1.toNat (by omega)).1).1 | exact (age_in (by assumption) (hWfP x1.toNat (by omega)).1).2 | (have q9 := (hWfP x1.toNat (by omega)).1; exact ⟨by omega, by omega⟩) | (have q9 := (dq (x := x4) (by assumption)).1; exact ⟨by omega, by omega⟩) | (have q9 := stS_in hWfP (c := x1) (year := (Int.tdiv x4 100)) (known := (A 91 0)) (by omega); exact ⟨by omega, by omega⟩), ?_⟩
                  refine ⟨by first | assumption | exact inRd rfl | omega | exact ⟨by omega, by omega⟩ | exact (dq (by assumption)).1 | exact (nb0 hWfB (by assumption) (by assumption)).1 | exact (nb0 hWfB (by assumption) (by assumption)).2 | exact (nb1 hWfB (by assumption) (by assumption) (by assumption)).1 | exact (nb1 hWfB (by assumption) (by assumption) (by assumption)).2 | exact fsS_inR hWfC | exact (age_in (by assumption) (hWfP x1.toNat (by omega)).1).1 | exact (age_in (by assumption) (hWfP x1.toNat (by omega)).1).2 | (have q9 := (hWfP x1.toNat (by omega)).1; exact ⟨by omega, by omega⟩) | (have q9 := (dq (x := x4) (by assumption)).1; exact ⟨by omega, by omega⟩) | (have q9 := stS_in hWfP (c := x1) (year := (Int.tdiv x4 100)) (known := (A 91 0)) (by omega); exact ⟨by omega, by omega⟩), ?_⟩
                  intro I65 q47_0 q47_1
                  intro I68 q48_0 q48_1
                  refine ⟨by first | assumption | exact inRd rfl | omega | exact ⟨by omega, by omega⟩ | exact (dq (by assumption)).1 | exact (nb0 hWfB (by assumption) (by assumption)).1 | exact (nb0 hWfB (by assumption) (by assumption)).2 | exact (nb1 hWfB (by assumption) (by assumption) (by assumption)).1 | exact (nb1 hWfB (by assumption) (by assumption) (by assumption)).2 | exact fsS_inR hWfC | exact (age_in (by assumption) (hWfP x1.toNat (by omega)).1).1 | exact (age_in (by assumption) (hWfP x1.toNat (by omega)).1).2 | (have q9 := (hWfP x1.toNat (by omega)).1; exact ⟨by omega, by omega⟩) | (have q9 := (dq (x := x4) (by assumption)).1; exact ⟨by omega, by omega⟩) | (have q9 := stS_in hWfP (c := x1) (year := (Int.tdiv x4 100)) (known := (A 91 0)) (by omega); exact ⟨by omega, by omega⟩), ?_⟩
                  refine ⟨by first | assumption | exact inRd rfl | omega | exact ⟨by omega, by omega⟩ | exact (dq (by assumption)).1 | exact (nb0 hWfB (by assumption) (by assumption)).1 | exact (nb0 hWfB (by assumption) (by assumption)).2 | exact (nb1 hWfB (by assumption) (by assumption) (by assumption)).1 | exact (nb1 hWfB (by assumption) (by assumption) (by assumption)).2 | exact fsS_inR hWfC | exact (age_in (by assumption) (hWfP x1.toNat (by omega)).1).1 | exact (age_in (by assumption) (hWfP x1.toNat (by omega)).1).2 | (have q9 := (hWfP x1.toNat (by omega)).1; exact ⟨by omega, by omega⟩) | (have q9 := (dq (x := x4) (by assumption)).1; exact ⟨by omega, by omega⟩) | (have q9 := stS_in hWfP (c := x1) (year := (Int.tdiv x4 100)) (known := (A 91 0)) (by omega); exact ⟨by omega, by omega⟩), ?_⟩
                  refine ⟨by first | assumption | exact inRd rfl | omega | exact ⟨by omega, by omega⟩ | exact (dq (by assumption)).1 | exact (nb0 hWfB (by assumption) (by assumption)).1 | exact (nb0 hWfB (by assumption) (by assumption)).2 | exact (nb1 hWfB (by assumption) (by assumption) (by assumption)).1 | exact (nb1 hWfB (by assumption) (by assumption) (by assumption)).2 | exact fsS_inR hWfC | exact (age_in (by assumption) (hWfP x1.toNat (by omega)).1).1 | exact (age_in (by assumption) (hWfP x1.toNat (by omega)).1).2 | (have q9 := (hWfP x1.toNat (by omega)).1; exact ⟨by omega, by omega⟩) | (have q9 := (dq (x := x4) (by assumption)).1; exact ⟨by omega, by omega⟩) | (have q9 := stS_in hWfP (c := x1) (year := (Int.tdiv x4 100)) (known := (A 91 0)) (by omega); exact ⟨by omega, by omega⟩), ?_⟩
                  refine ⟨putE (putE (putE zE 0 (max 0 (Int.tdiv (x4 - (A 92 x1.toNat)) 100))) 1 (stS A x1 (Int.tdiv x4 100) (A 91 0))) 3 (Int.tdiv x4 100), by exact (((EnvI.zero q48_1).put (k := 0) (by first | assumption | exact inRd rfl | omega | exact ⟨by omega, by omega⟩ | exact (dq (by assumption)).1 | exact (nb0 hWfB (by assumption) (by assumption)).1 | exact (nb0 hWfB (by assumption) (by assumption)).2 | exact (nb1 hWfB (by assumption) (by assumption) (by assumption)).1 | exact (nb1 hWfB (by assumption) (by assumption) (by assumption)).2 | exact fsS_inR hWfC | exact (age_in (by assumption) (hWfP x1.toNat (by omega)).1).1 | exact (age_in (by assumption) (hWfP x1.toNat (by omega)).1).2 | (have q9 := (hWfP x1.toNat (by omega)).1; exact ⟨by omega, by omega⟩) | (have q9 := (dq (x := x4) (by assumption)).1; exact ⟨by omega, by omega⟩) | (have q9 := stS_in hWfP (c := x1) (year := (Int.tdiv x4 100)) (known := (A 91 0)) (by omega); exact ⟨by omega, by omega⟩))).put (k := 1) (by first | assumption | exact inRd rfl | omega | exact ⟨by omega, by omega⟩ | exact (dq (by assumption)).1 | exact (nb0 hWfB (by assumption) (by assumption)).1 | exact (nb0 hWfB (by assumption) (by assumption)).2 | exact (nb1 hWfB (by assumption) (by assumption) (by assumption)).1 | exact (nb1 hWfB (by assumption) (by assumption) (by assumption)).2 | exact fsS_inR hWfC | exact (age_in (by assumption) (hWfP x1.toNat (by omega)).1).1 | exact (age_in (by assumption) (hWfP x1.toNat (by omega)).1).2 | (have q9 := (hWfP x1.toNat (by omega)).1; exact ⟨by omega, by omega⟩) | (have q9 := (dq (x := x4) (by assumption)).1; exact ⟨by omega, by omega⟩) | (have q9 := stS_in hWfP (c := x1) (year := (Int.tdiv x4 100)) (known := (A 91 0)) (by omega); exact ⟨by omega, by omega⟩))).put (k := 3) (by first | assumption | exact inRd rfl | omega | exact ⟨by omega, by omega⟩ | exact (dq (by assumption)).1 | exact (nb0 hWfB (by assumption) (by assumption)).1 | exact (nb0 hWfB (by assumption) (by assumption)).2 | exact (nb1 hWfB (by assumption) (by assumption) (by assumption)).1 | exact (nb1 hWfB (by assumption) (by assumption) (by assumption)).2 | exact fsS_inR hWfC | exact (age_in (by assumption) (hWfP x1.toNat (by omega)).1).1 | exact (age_in (by assumption) (hWfP x1.toNat (by omega)).1).2 | (have q9 := (hWfP x1.toNat (by omega)).1; exact ⟨by omega, by omega⟩) | (have q9 := (dq (x := x4) (by assumption)).1; exact ⟨by omega, by omega⟩) | (have q9 := stS_in hWfP (c := x1) (year := (Int.tdiv x4 100)) (known := (A 91 0)) (by omega); exact ⟨by omega, by omega⟩)), ?_⟩
                  intro I76 q49_0 q49_1
                  refine ⟨by first | assumption | exact inRd rfl | omega | exact ⟨by omega, by omega⟩ | exact (dq (by assumption)).1 | exact (nb0 hWfB (by assumption) (by assumption)).1 | exact (nb0 hWfB (by assumption) (by assumption)).2 | exact (nb1 hWfB (by assumption) (by assumption) (by assumption)).1 | exact (nb1 hWfB (by assumption) (by assumption) (by assumption)).2 | exact fsS_inR hWfC | exact (age_in (by assumption) (hWfP x1.toNat (by omega)).1).1 | exact (age_in (by assumption) (hWfP x1.toNat (by omega)).1).2 | (have q9 := (hWfP x1.toNat (by omega)).1; exact ⟨by omega, by omega⟩) | (have q9 := (dq (x := x4) (by assumption)).1; exact ⟨by omega, by omega⟩) | (have q9 := stS_in hWfP (c := x1) (year := (Int.tdiv x4 100)) (known := (A 91 0)) (by omega); exact ⟨by omega, by omega⟩), ?_⟩
                  refine ⟨fun c50 => ?_, fun c50 => ?_⟩
                  · rw [if_pos c50] at ho
                    rw [ho] at hK
                    exact hK _ (FM.trans (FM.wr (FM.wr (FM.wr (FM.trans (FM.trans (FM.refl _) (Fr.FM q47_0 rfl)) (Fr.FM q48_0 rfl)) (by decide)) (by decide)) (by decide)) (Fr.FM q49_0 rfl)) (q49_1)
                  · rw [if_neg c50] at ho
                    refine ⟨by first | assumption | exact inRd rfl | omega | exact ⟨by omega, by omega⟩ | exact (dq (by assumption)).1 | exact (nb0 hWfB (by assumption) (by assumption)).1 | exact (nb0 hWfB (by assumption) (by assumption)).2 | exact (nb1 hWfB (by assumption) (by assumption) (by assumption)).1 | exact (nb1 hWfB (by assumption) (by assumption) (by assumption)).2 | exact fsS_inR hWfC | exact (age_in (by assumption) (hWfP x1.toNat (by omega)).1).1 | exact (age_in (by assumption) (hWfP x1.toNat (by omega)).1).2 | (have q9 := (hWfP x1.toNat (by omega)).1; exact ⟨by omega, by omega⟩) | (have q9 := (dq (x := x4) (by assumption)).1; exact ⟨by omega, by omega⟩) | (have q9 := stS_in hWfP (c := x1) (year := (Int.tdiv x4 100)) (known := (A 91 0)) (by omega); exact ⟨by omega, by omega⟩), ?_⟩
                    rw [ho] at hK
                    exact hK _ (FM.wr (FM.wr (FM.wr (FM.wr (FM.wr (FM.wr (FM.wr (FM.wr (FM.wr (FM.trans (FM.wr (FM.wr (FM.wr (FM.trans (FM.trans (FM.refl _) (Fr.FM q47_0 rfl)) (Fr.FM q48_0 rfl)) (by decide)) (by decide)) (by decide)) (Fr.FM q49_0 rfl)) (by decide)) (by decide)) (by decide)) (by decide)) (by decide)) (by decide)) (by decide)) (by decide)) (by decide)) (RM.set (RM.set (RM.set (RM.set (RM.set (RM.set (RM.set (RM.set (RM.set (q49_1) 103 (A 91 3).toNat (by first | assumption | exact inRd rfl | omega | exact ⟨by omega, by omega⟩ | exact (dq (by assumption)).1 | exact (nb0 hWfB (by assumption) (by assumption)).1 | exact (nb0 hWfB (by assumption) (by assumption)).2 | exact (nb1 hWfB (by assumption) (by assumption) (by assumption)).1 | exact (nb1 hWfB (by assumption) (by assumption) (by assumption)).2 | exact fsS_inR hWfC | exact (age_in (by assumption) (hWfP x1.toNat (by omega)).1).1 | exact (age_in (by assumption) (hWfP x1.toNat (by omega)).1).2 | (have q9 := (hWfP x1.toNat (by omega)).1; exact ⟨by omega, by omega⟩) | (have q9 := (dq (x := x4) (by assumption)).1; exact ⟨by omega, by omega⟩) | (have q9 := stS_in hWfP (c := x1) (year := (Int.tdiv x4 100)) (known := (A 91 0)) (by omega); exact ⟨by omega, by omega⟩)) rfl) 104 (A 91 3).toNat (by first | assumption | exact inRd rfl | omega | exact ⟨by omega, by omega⟩ | exact (dq (by assumption)).1 | exact (nb0 hWfB (by assumption) (by assumption)).1 | exact (nb0 hWfB (by assumption) (by assumption)).2 | exact (nb1 hWfB (by assumption) (by assumption) (by assumption)).1 | exact (nb1 hWfB (by assumption) (by assumption) (by assumption)).2 | exact fsS_inR hWfC | exact (age_in (by assumption) (hWfP x1.toNat (by omega)).1).1 | exact (age_in (by assumption) (hWfP x1.toNat (by omega)).1).2 | (have q9 := (hWfP x1.toNat (by omega)).1; exact ⟨by omega, by omega⟩) | (have q9 := (dq (x := x4) (by assumption)).1; exact ⟨by omega, by omega⟩) | (have q9 := stS_in hWfP (c := x1) (year := (Int.tdiv x4 100)) (known := (A 91 0)) (by omega); exact ⟨by omega, by omega⟩)) rfl) 105 (A 91 3).toNat (by first | assumption | exact inRd rfl | omega | exact ⟨by omega, by omega⟩ | exact (dq (by assumption)).1 | exact (nb0 hWfB (by assumption) (by assumption)).1 | exact (nb0 hWfB (by assumption) (by assumption)).2 | exact (nb1 hWfB (by assumption) (by assumption) (by assumption)).1 | exact (nb1 hWfB (by assumption) (by assumption) (by assumption)).2 | exact fsS_inR hWfC | exact (age_in (by assumption) (hWfP x1.toNat (by omega)).1).1 | exact (age_in (by assumption) (hWfP x1.toNat (by omega)).1).2 | (have q9 := (hWfP x1.toNat (by omega)).1; exact ⟨by omega, by omega⟩) | (have q9 := (dq (x := x4) (by assumption)).1; exact ⟨by omega, by omega⟩) | (have q9 := stS_in hWfP (c := x1) (year := (Int.tdiv x4 100)) (known := (A 91 0)) (by omega); exact ⟨by omega, by omega⟩)) rfl) 106 (A 91 3).toNat (by first | assumption | exact inRd rfl | omega | exact ⟨by omega, by omega⟩ | exact (dq (by assumption)).1 | exact (nb0 hWfB (by assumption) (by assumption)).1 | exact (nb0 hWfB (by assumption) (by assumption)).2 | exact (nb1 hWfB (by assumption) (by assumption) (by assumption)).1 | exact (nb1 hWfB (by assumption) (by assumption) (by assumption)).2 | exact fsS_inR hWfC | exact (age_in (by assumption) (hWfP x1.toNat (by omega)).1).1 | exact (age_in (by assumption) (hWfP x1.toNat (by omega)).1).2 | (have q9 := (hWfP x1.toNat (by omega)).1; exact ⟨by omega, by omega⟩) | (have q9 := (dq (x := x4) (by assumption)).1; exact ⟨by omega, by omega⟩) | (have q9 := stS_in hWfP (c := x1) (year := (Int.tdiv x4 100)) (known := (A 91 0)) (by omega); exact ⟨by omega, by omega⟩)) rfl) 107 (A 91 3).toNat (by first | assumption | exact inRd rfl | omega | exact ⟨by omega, by omega⟩ | exact (dq (by assumption)).1 | exact (nb0 hWfB (by assumption) (by assumption)).1 | exact (nb0 hWfB (by assumption) (by assumption)).2 | exact (nb1 hWfB (by assumption) (by assumption) (by assumption)).1 | exact (nb1 hWfB (by assumption) (by assumption) (by assumption)).2 | exact fsS_inR hWfC | exact (age_in (by assumption) (hWfP x1.toNat (by omega)).1).1 | exact (age_in (by assumption) (hWfP x1.toNat (by omega)).1).2 | (have q9 := (hWfP x1.toNat (by omega)).1; exact ⟨by omega, by omega⟩) | (have q9 := (dq (x := x4) (by assumption)).1; exact ⟨by omega, by omega⟩) | (have q9 := stS_in hWfP (c := x1) (year := (Int.tdiv x4 100)) (known := (A 91 0)) (by omega); exact ⟨by omega, by omega⟩)) rfl) 108 (A 91 3).toNat (by first | assumption | exact inRd rfl | omega | exact ⟨by omega, by omega⟩ | exact (dq (by assumption)).1 | exact (nb0 hWfB (by assumption) (by assumption)).1 | exact (nb0 hWfB (by assumption) (by assumption)).2 | exact (nb1 hWfB (by assumption) (by assumption) (by assumption)).1 | exact (nb1 hWfB (by assumption) (by assumption) (by assumption)).2 | exact fsS_inR hWfC | exact (age_in (by assumption) (hWfP x1.toNat (by omega)).1).1 | exact (age_in (by assumption) (hWfP x1.toNat (by omega)).1).2 | (have q9 := (hWfP x1.toNat (by omega)).1; exact ⟨by omega, by omega⟩) | (have q9 := (dq (x := x4) (by assumption)).1; exact ⟨by omega, by omega⟩) | (have q9 := stS_in hWfP (c := x1) (year := (Int.tdiv x4 100)) (known := (A 91 0)) (by omega); exact ⟨by omega, by omega⟩)) rfl) 109 (A 91 3).toNat (by first | assumption | exact inRd rfl | omega | exact ⟨by omega, by omega⟩ | exact (dq (by assumption)).1 | exact (nb0 hWfB (by assumption) (by assumption)).1 | exact (nb0 hWfB (by assumption) (by assumption)).2 | exact (nb1 hWfB (by assumption) (by assumption) (by assumption)).1 | exact (nb1 hWfB (by assumption) (by assumption) (by assumption)).2 | exact fsS_inR hWfC | exact (age_in (by assumption) (hWfP x1.toNat (by omega)).1).1 | exact (age_in (by assumption) (hWfP x1.toNat (by omega)).1).2 | (have q9 := (hWfP x1.toNat (by omega)).1; exact ⟨by omega, by omega⟩) | (have q9 := (dq (x := x4) (by assumption)).1; exact ⟨by omega, by omega⟩) | (have q9 := stS_in hWfP (c := x1) (year := (Int.tdiv x4 100)) (known := (A 91 0)) (by omega); exact ⟨by omega, by omega⟩)) rfl) 110 (3 + x2).toNat (by first | assumption | exact inRd rfl | omega | exact ⟨by omega, by omega⟩ | exact (dq (by assumption)).1 | exact (nb0 hWfB (by assumption) (by assumption)).1 | exact (nb0 hWfB (by assumption) (by assumption)).2 | exact (nb1 hWfB (by assumption) (by assumption) (by assumption)).1 | exact (nb1 hWfB (by assumption) (by assumption) (by assumption)).2 | exact fsS_inR hWfC | exact (age_in (by assumption) (hWfP x1.toNat (by omega)).1).1 | exact (age_in (by assumption) (hWfP x1.toNat (by omega)).1).2 | (have q9 := (hWfP x1.toNat (by omega)).1; exact ⟨by omega, by omega⟩) | (have q9 := (dq (x := x4) (by assumption)).1; exact ⟨by omega, by omega⟩) | (have q9 := stS_in hWfP (c := x1) (year := (Int.tdiv x4 100)) (known := (A 91 0)) (by omega); exact ⟨by omega, by omega⟩)) rfl) 91 3 (by first | assumption | exact inRd rfl | omega | exact ⟨by omega, by omega⟩ | exact (dq (by assumption)).1 | exact (nb0 hWfB (by assumption) (by assumption)).1 | exact (nb0 hWfB (by assumption) (by assumption)).2 | exact (nb1 hWfB (by assumption) (by assumption) (by assumption)).1 | exact (nb1 hWfB (by assumption) (by assumption) (by assumption)).2 | exact fsS_inR hWfC | exact (age_in (by assumption) (hWfP x1.toNat (by omega)).1).1 | exact (age_in (by assumption) (hWfP x1.toNat (by omega)).1).2 | (have q9 := (hWfP x1.toNat (by omega)).1; exact ⟨by omega, by omega⟩) | (have q9 := (dq (x := x4) (by assumption)).1; exact ⟨by omega, by omega⟩) | (have q9 := stS_in hWfP (c := x1) (year := (Int.tdiv x4 100)) (known := (A 91 0)) (by omega); exact ⟨by omega, by omega⟩)) rfl)
                · rw [if_neg c46] at ho
                  refine ⟨by first | assumption | exact inRd rfl | omega | exact ⟨by omega, by omega⟩ | exact (dq (by assumption)).1 | exact (nb0 hWfB (by assumption) (by assumption)).1 | exact (nb0 hWfB (by assumption) (by assumption)).2 | exact (nb1 hWfB (by assumption) (by assumption) (by assumption)).1 | exact (nb1 hWfB (by assumption) (by assumption) (by assumption)).2 | exact fsS_inR hWfC | exact (age_in (by assumption) (hWfP x1.toNat (by omega)).1).1 | exact (age_in (by assumption) (hWfP x1.toNat (by omega)).1).2 | (have q9 := (hWfP x1.toNat (by omega)).1; exact ⟨by omega, by omega⟩) | (have q9 := (dq (x := x4) (by assumption)).1; exact ⟨by omega, by omega⟩) | (have q9 := stS_in hWfP (c := x1) (year := (Int.tdiv x4 100)) (known := (A 91 0)) (by omega); exact ⟨by omega, by omega⟩), ?_⟩
                  rw [ho] at hK
                  exact hK _ (FM.wr (FM.wr (FM.wr (FM.wr (FM.wr (FM.wr (FM.wr (FM.wr (FM.wr (FM.refl _) (by decide)) (by decide)) (by decide)) (by decide)) (by decide)) (by decide)) (by decide)) (by decide)) (by decide)) (RM.set (RM.set (RM.set (RM.set (RM.set (RM.set (RM.set (RM.set (RM.set (hR) 103 (A 91 3).toNat (by first | assumption | exact inRd rfl | omega | exact ⟨by omega, by omega⟩ | exact (dq (by assumption)).1 | exact (nb0 hWfB (by assumption) (by assumption)).1 | exact (nb0 hWfB (by assumption) (by assumption)).2 | exact (nb1 hWfB (by assumption) (by assumption) (by assumption)).1 | exact (nb1 hWfB (by assumption) (by assumption) (by assumption)).2 | exact fsS_inR hWfC | exact (age_in (by assumption) (hWfP x1.toNat (by omega)).1).1 | exact (age_in (by assumption) (hWfP x1.toNat (by omega)).1).2 | (have q9 := (hWfP x1.toNat (by omega)).1; exact ⟨by omega, by omega⟩) | (have q9 := (dq (x := x4) (by assumption)).1; exact ⟨by omega, by omega⟩) | (have q9 := stS_in hWfP (c := x1) (year := (Int.tdiv x4 100)) (known := (A 91 0)) (by omega); exact ⟨by omega, by omega⟩)) rfl) 104 (A 91 3).toNat (by first | assumption | exact inRd rfl | omega | exact ⟨by omega, by omega⟩ | exact (dq (by assumption)).1 | exact (nb0 hWfB (by assumption) (by assumption)).1 | exact (nb0 hWfB (by assumption) (by assumption)).2 | exact (nb1 hWfB (by assumption) (by assumption) (by assumption)).1 | exact (nb1 hWfB (by assumption) (by assumption) (by assumption)).2 | exact fsS_inR hWfC | exact (age_in (by assumption) (hWfP x1.toNat (by omega)).1).1 | exact (age_in (by assumption) (hWfP x1.toNat (by omega)).1).2 | (have q9 := (hWfP x1.toNat (by omega)).1; exact ⟨by omega, by omega⟩) | (have q9 := (dq (x := x4) (by assumption)).1; exact ⟨by omega, by omega⟩) | (have q9 := stS_in hWfP (c := x1) (year := (Int.tdiv x4 100)) (known := (A 91 0)) (by omega); exact ⟨by omega, by omega⟩)) rfl) 105 (A 91 3).toNat (by first | assumption | exact inRd rfl | omega | exact ⟨by omega, by omega⟩ | exact (dq (by assumption)).1 | exact (nb0 hWfB (by assumption) (by assumption)).1 | exact (nb0 hWfB (by assumption) (by assumption)).2 | exact (nb1 hWfB (by assumption) (by assumption) (by assumption)).1 | exact (nb1 hWfB (by assumption) (by assumption) (by assumption)).2 | exact fsS_inR hWfC | exact (age_in (by assumption) (hWfP x1.toNat (by omega)).1).1 | exact (age_in (by assumption) (hWfP x1.toNat (by omega)).1).2 | (have q9 := (hWfP x1.toNat (by omega)).1; exact ⟨by omega, by omega⟩) | (have q9 := (dq (x := x4) (by assumption)).1; exact ⟨by omega, by omega⟩) | (have q9 := stS_in hWfP (c := x1) (year := (Int.tdiv x4 100)) (known := (A 91 0)) (by omega); exact ⟨by omega, by omega⟩)) rfl) 106 (A 91 3).toNat (by first | assumption | exact inRd rfl | omega | exact ⟨by omega, by omega⟩ | exact (dq (by assumption)).1 | exact (nb0 hWfB (by assumption) (by assumption)).1 | exact (nb0 hWfB (by assumption) (by assumption)).2 | exact (nb1 hWfB (by assumption) (by assumption) (by assumption)).1 | exact (nb1 hWfB (by assumption) (by assumption) (by assumption)).2 | exact fsS_inR hWfC | exact (age_in (by assumption) (hWfP x1.toNat (by omega)).1).1 | exact (age_in (by assumption) (hWfP x1.toNat (by omega)).1).2 | (have q9 := (hWfP x1.toNat (by omega)).1; exact ⟨by omega, by omega⟩) | (have q9 := (dq (x := x4) (by assumption)).1; exact ⟨by omega, by omega⟩) | (have q9 := stS_in hWfP (c := x1) (year := (Int.tdiv x4 100)) (known := (A 91 0)) (by omega); exact ⟨by omega, by omega⟩)) rfl) 107 (A 91 3).toNat (by first | assumption | exact inRd rfl | omega | exact ⟨by omega, by omega⟩ | exact (dq (by assumption)).1 | exact (nb0 hWfB (by assumption) (by assumption)).1 | exact (nb0 hWfB (by assumption) (by assumption)).2 | exact (nb1 hWfB (by assumption) (by assumption) (by assumption)).1 | exact (nb1 hWfB (by assumption) (by assumption) (by assumption)).2 | exact fsS_inR hWfC | exact (age_in (by assumption) (hWfP x1.toNat (by omega)).1).1 | exact (age_in (by assumption) (hWfP x1.toNat (by omega)).1).2 | (have q9 := (hWfP x1.toNat (by omega)).1; exact ⟨by omega, by omega⟩) | (have q9 := (dq (x := x4) (by assumption)).1; exact ⟨by omega, by omega⟩) | (have q9 := stS_in hWfP (c := x1) (year := (Int.tdiv x4 100)) (known := (A 91 0)) (by omega); exact ⟨by omega, by omega⟩)) rfl) 108 (A 91 3).toNat (by first | assumption | exact inRd rfl | omega | exact ⟨by omega, by omega⟩ | exact (dq (by assumption)).1 | exact (nb0 hWfB (by assumption) (by assumption)).1 | exact (nb0 hWfB (by assumption) (by assumption)).2 | exact (nb1 hWfB (by assumption) (by assumption) (by assumption)).1 | exact (nb1 hWfB (by assumption) (by assumption) (by assumption)).2 | exact fsS_inR hWfC | exact (age_in (by assumption) (hWfP x1.toNat (by omega)).1).1 | exact (age_in (by assumption) (hWfP x1.toNat (by omega)).1).2 | (have q9 := (hWfP x1.toNat (by omega)).1; exact ⟨by omega, by omega⟩) | (have q9 := (dq (x := x4) (by assumption)).1; exact ⟨by omega, by omega⟩) | (have q9 := stS_in hWfP (c := x1) (year := (Int.tdiv x4 100)) (known := (A 91 0)) (by omega); exact ⟨by omega, by omega⟩)) rfl) 109 (A 91 3).toNat (by first | assumption | exact inRd rfl | omega | exact ⟨by omega, by omega⟩ | exact (dq (by assumption)).1 | exact (nb0 hWfB (by assumption) (by assumption)).1 | exact (nb0 hWfB (by assumption) (by assumption)).2 | exact (nb1 hWfB (by assumption) (by assumption) (by assumption)).1 | exact (nb1 hWfB (by assumption) (by assumption) (by assumption)).2 | exact fsS_inR hWfC | exact (age_in (by assumption) (hWfP x1.toNat (by omega)).1).1 | exact (age_in (by assumption) (hWfP x1.toNat (by omega)).1).2 | (have q9 := (hWfP x1.toNat (by omega)).1; exact ⟨by omega, by omega⟩) | (have q9 := (dq (x := x4) (by assumption)).1; exact ⟨by omega, by omega⟩) | (have q9 := stS_in hWfP (c := x1) (year := (Int.tdiv x4 100)) (known := (A 91 0)) (by omega); exact ⟨by omega, by omega⟩)) rfl) 110 (3 + x2).toNat (by first | assumption | exact inRd rfl | omega | exact ⟨by omega, by omega⟩ | exact (dq (by assumption)).1 | exact (nb0 hWfB (by assumption) (by assumption)).1 | exact (nb0 hWfB (by assumption) (by assumption)).2 | exact (nb1 hWfB (by assumption) (by assumption) (by assumption)).1 | exact (nb1 hWfB (by assumption) (by assumption) (by assumption)).2 | exact fsS_inR hWfC | exact (age_in (by assumption) (hWfP x1.toNat (by omega)).1).1 | exact (age_in (by assumption) (hWfP x1.toNat (by omega)).1).2 | (have q9 := (hWfP x1.toNat (by omega)).1; exact ⟨by omega, by omega⟩) | (have q9 := (dq (x := x4) (by assumption)).1; exact ⟨by omega, by omega⟩) | (have q9 := stS_in hWfP (c := x1) (year := (Int.tdiv x4 100)) (known := (A 91 0)) (by omega); exact ⟨by omega, by omega⟩)) rfl) 91 3 (by first | assumption | exact inRd rfl | omega | exact ⟨by omega, by omega⟩ | exact (dq (by assumption)).1 | exact (nb0 hWfB (by assumption) (by assumption)).1 | exact (nb0 hWfB (by assumption) (by assumption)).2 | exact (nb1 hWfB (by assumption) (by assumption) (by assumption)).1 | exact (nb1 hWfB (by assumption) (by assumption) (by assumption)).2 | exact fsS_inR hWfC | exact (age_in (by assumption) (hWfP x1.toNat (by omega)).1).1 | exact (age_in (by assumption) (hWfP x1.toNat (by omega)).1).2 | (have q9 := (hWfP x1.toNat (by omega)).1; exact ⟨by omega, by omega⟩) | (have q9 := (dq (x := x4) (by assumption)).1; exact ⟨by omega, by omega⟩) | (have q9 := stS_in hWfP (c := x1) (year := (Int.tdiv x4 100)) (known := (A 91 0)) (by omega); exact ⟨by omega, by omega⟩)) rfl)
          · rw [if_neg c43] at ho
            rw [ho] at hK
            exact hK _ (FM.refl _) (hR)
        · rw [if_neg c42] at ho
          rw [ho] at hK
          exact hK _ (FM.refl _) (hR)
    · rw [if_neg c30] at ho
      rw [ho] at hK
      exact hK _ (FM.refl _) (hR)
  · rw [if_neg c29] at ho
    rw [ho] at hK
    exact hK _ (FM.refl _) (hR)
set_option maxRecDepth 4000 in
theorem e272 {d L : Nat} {I : Nat → Nat → Int32} {R : Nat → Nat → Option Nat} {S : List (Nat × Nat)} {K : Int32 → mM → Prop} {A : aS} (hR : RM I A) {x1 : Int} {x2 : Int} {x3 : Int} (hE : inR x1 ∧ (inR (A 91 40 - 1) ∧ (((0 ≤ x1 ∧ x1 ≤ A 91 40 - 1) → (0 ≤ x1 ∧ x1 < 20) ∧ (inR x2 ∧ (inR (Int.tdiv (A 91 0) 100) ∧ (((A 122 x1.toNat ≤ x2 ∧ x2 ≤ Int.tdiv (A 91 0) 100) → inR x3 ∧ (((0 ≤ x3 ∧ x3 ≤ 100) → (0 ≤ (8 * x1) + x2 ∧ (8 * x1) + x2 < 160) ∧ (K (oI 1) (bd L (u2 I 123 ((8 * x1) + x2).toNat (oI (max x3 (A 123 ((8 * x1) + x2).toNat)))) R S))) ∧ (¬ (0 ≤ x3 ∧ x3 ≤ 100) → K (oI 0) (bd L I R S)))) ∧ (¬ (A 122 x1.toNat ≤ x2 ∧ x2 ≤ Int.tdiv (A 91 0) 100) → K (oI 0) (bd L I R S)))))) ∧ (¬ (0 ≤ x1 ∧ x1 ≤ A 91 40 - 1) → K (oI 0) (bd L I R S))))) : CallI (d + 1) 272 [.ref 91, .int (oI x1), .int (oI x2), .int (oI x3)] (bd L I R S) K := by
  refine cI_of (ls := [.ref 91, .int (oI x1), .int (oI x2), .int (oI x3)]) rfl ?_
  refine xG gb272.1 ?_
  refine s4 (x := x1) rfl ?_
  refine s0 ?_
  refine s6 (p := 91) rfl ?_
  refine s50 (v := A 91 40) sh91 (by decide) (by decide) (rdM hR.1 rfl) ?_
  refine s0 ?_
  refine s17 ?_
  obtain ⟨g1, hE⟩ := hE
  obtain ⟨g2, hE⟩ := hE
  refine sI rc210 rfl (Nat.le_of_ble_eq_true rfl) ?_
  refine k210 g1 (inRd rfl) g2 (fun c3 => ?_) (fun c3 => ?_)
  · replace hE := hE.1 c3
    refine s67 (inRd rfl) (fun c4 => absurd c4 (by decide)) (fun _ => ?_)
    refine s4 (x := x2) rfl ?_
    refine s6 (p := 91) rfl ?_
    refine s51 sh91 (by decide) (by decide) rf91_42 ?_
    refine s4 (x := x1) rfl ?_
    obtain ⟨g5, hE⟩ := hE
    refine s40 (v := A 122 x1.toNat) sh122 g5 rfl (rdM hR.1 rfl) ?_
    refine s6 (p := 91) rfl ?_
    refine s50 (v := A 91 0) sh91 (by decide) (by decide) (rdM hR.1 rfl) ?_
    refine s0 ?_
    refine s19 (inA hR.1 (a := 91) (k := 0) rfl) ⟨(inRd rfl), by decide⟩ ?_
    obtain ⟨g6, hE⟩ := hE
    obtain ⟨g7, hE⟩ := hE
    refine sI rc210 rfl (Nat.le_of_ble_eq_true rfl) ?_
    refine k210 g6 (inA hR.1 (a := 122) (k := x1.toNat) rfl) g7 (fun c8 => ?_) (fun c8 => ?_)
    · replace hE := hE.1 c8
      refine s67 (inRd rfl) (fun c9 => absurd c9 (by decide)) (fun _ => ?_)
      refine s4 (x := x3) rfl ?_
      refine s0 ?_
      refine s0 ?_
      obtain ⟨g10, hE⟩ := hE
      refine sI rc210 rfl (Nat.le_of_ble_eq_true rfl) ?_
      refine k210 g10 (inRd rfl) (inRd rfl) (fun c11 => ?_) (fun c11 => ?_)
      · replace hE := hE.1 c11
        refine s68 (inRd rfl) (fun c12 => absurd c12 (by decide)) (fun _ => ?_)
        refine xG gb272.2.2 ?_
        refine s6 (p := 91) rfl ?_
        refine s51 sh91 (by decide) (by decide) rf91_43 ?_
        refine s0 ?_
        refine s4 (x := x1) rfl ?_
        refine s18 ?_
        refine s4 (x := x2) rfl ?_
        refine s16 ?_
        refine s4 (x := x3) rfl ?_
        refine s6 (p := 91) rfl ?_
        refine s51 sh91 (by decide) (by decide) rf91_43 ?_
        refine s0 ?_
        refine s4 (x := x1) rfl ?_
        refine s18 ?_
        refine s4 (x := x2) rfl ?_
        refine s16 ?_
        obtain ⟨g13, hE⟩ := hE
        refine s40 (v := A 123 ((8 * x1) + x2).toNat) sh123 g13 rfl (rdM hR.1 rfl) ?_
        refine sI rc346 rfl (Nat.le_of_ble_eq_true rfl) ?_
        refine k346 g10 (inA hR.1 (a := 123) (k := ((8 * x1) + x2).toNat) rfl) ?_
        refine s44 sh123 (by decide) g13 rfl ?_
        refine s0 ?_
        refine s84 (by decide) ?_
        exact rqI_of hE
      · replace hE := hE.2 c11
        refine s68 (inRd rfl) (fun _ => ?_) (fun c14 => absurd (by decide) c14)
        refine s79 ?_
        refine xG gb272.2.1 ?_
        refine s0 ?_
        refine s84 (by decide) ?_
        exact rqI_of hE
    · replace hE := hE.2 c8
      refine s67 (inRd rfl) (fun _ => ?_) (fun c15 => absurd (by decide) c15)
      refine xG gb272.2.1 ?_
      refine s0 ?_
      refine s84 (by decide) ?_
      exact rqI_of hE
  · replace hE := hE.2 c3
    refine s67 (inRd rfl) (fun _ => ?_) (fun c16 => absurd (by decide) c16)
    refine xG gb272.2.1 ?_
    refine s0 ?_
    refine s84 (by decide) ?_
    exact rqI_of hE
noncomputable def o272 (A : aS) (x1 : Int) (x2 : Int) (x3 : Int) : Int × aS := (if 0 ≤ x1 ∧ x1 ≤ A 91 40 - 1 then (if A 122 x1.toNat ≤ x2 ∧ x2 ≤ Int.tdiv (A 91 0) 100 then (if 0 ≤ x3 ∧ x3 ≤ 100 then (1, (u2 A 123 ((8 * x1) + x2).toNat ((max x3 (A 123 ((8 * x1) + x2).toNat))))) else (0, A)) else (0, A)) else (0, A))
set_option maxRecDepth 4000 in
theorem k272 {d L : Nat} {I : mI} {R : Nat → Nat → Option Nat} {S : List (Nat × Nat)} {A : aS} {K : Int32 → mM → Prop} {x1 : Int} {x2 : Int} {x3 : Int} (hR : RM I A) (hWfA : WfA A) (hWfT : WfT A) (rx1 : inR x1) (rx2 : inR x2) (rx3 : inR x3) (hK : ∀ I1, FM I I1 → RM I1 (o272 A x1 x2 x3).2 → K (oI (o272 A x1 x2 x3).1) (bd L I1 R S)) : CallI (d + 1) 272 [.ref 91, .int (oI x1), .int (oI x2), .int (oI x3)] (bd L I R S) K := by
  have ho : o272 A x1 x2 x3 = (if 0 ≤ x1 ∧ x1 ≤ A 91 40 - 1 then (if A 122 x1.toNat ≤ x2 ∧ x2 ≤ Int.tdiv (A 91 0) 100 then (if 0 ≤ x3 ∧ x3 ≤ 100 then (1, (u2 A 123 ((8 * x1) + x2).toNat ((max x3 (A 123 ((8 * x1) + x2).toNat))))) else (0, A)) else (0, A)) else (0, A)) := rfl
  have w0 := hWfA.1
  have w1 := hWfA.2.1
  have w2 := hWfA.2.2.1
  have w3 : 0 ≤ A 91 3 ∧ A 91 3 ≤ 850 := hWfA.2.2.2.1
  have wN := hWfA.2.2.2.1
  have ty := today_year hWfA
  have wt := hWfT.2.2.1
  have wt1 := hWfT.1
  refine e272 (d := d) hR ?_
  refine ⟨by first | assumption | exact inRd rfl | omega | exact ⟨by omega, by omega⟩ | (have q9 := (hWfT.2.1 x1.toNat (by omega)).2.1; omega) | (have q9 := (hWfT.2.1 x1.toNat (by omega)).2.1; have q8 := (hWfT.2.1 x1.toNat (by omega)).2.2 x2.toNat (by omega); rw [show 8 * x1.toNat + x2.toNat = ((8 * x1) + x2).toNat by omega] at q8; exact ⟨by omega, by omega⟩), ?_⟩
  refine ⟨by first | assumption | exact inRd rfl | omega | exact ⟨by omega, by omega⟩ | (have q9 := (hWfT.2.1 x1.toNat (by omega)).2.1; omega) | (have q9 := (hWfT.2.1 x1.toNat (by omega)).2.1; have q8 := (hWfT.2.1 x1.toNat (by omega)).2.2 x2.toNat (by omega); rw [show 8 * x1.toNat + x2.toNat = ((8 * x1) + x2).toNat by omega] at q8; exact ⟨by omega, by omega⟩), ?_⟩
  refine ⟨fun c51 => ?_, fun c51 => ?_⟩
  · rw [if_pos c51] at ho
    refine ⟨by first | assumption | exact inRd rfl | omega | exact ⟨by omega, by omega⟩ | (have q9 := (hWfT.2.1 x1.toNat (by omega)).2.1; omega) | (have q9 := (hWfT.2.1 x1.toNat (by omega)).2.1; have q8 := (hWfT.2.1 x1.toNat (by omega)).2.2 x2.toNat (by omega); rw [show 8 * x1.toNat + x2.toNat = ((8 * x1) + x2).toNat by omega] at q8; exact ⟨by omega, by omega⟩), ?_⟩
    refine ⟨by first | assumption | exact inRd rfl | omega | exact ⟨by omega, by omega⟩ | (have q9 := (hWfT.2.1 x1.toNat (by omega)).2.1; omega) | (have q9 := (hWfT.2.1 x1.toNat (by omega)).2.1; have q8 := (hWfT.2.1 x1.toNat (by omega)).2.2 x2.toNat (by omega); rw [show 8 * x1.toNat + x2.toNat = ((8 * x1) + x2).toNat by omega] at q8; exact ⟨by omega, by omega⟩), ?_⟩
    refine ⟨by first | assumption | exact inRd rfl | omega | exact ⟨by omega, by omega⟩ | (have q9 := (hWfT.2.1 x1.toNat (by omega)).2.1; omega) | (have q9 := (hWfT.2.1 x1.toNat (by omega)).2.1; have q8 := (hWfT.2.1 x1.toNat (by omega)).2.2 x2.toNat (by omega); rw [show 8 * x1.toNat + x2.toNat = ((8 * x1) + x2).toNat by omega] at q8; exact ⟨by omega, by omega⟩), ?_⟩
    refine ⟨fun c52 => ?_, fun c52 => ?_⟩
    · rw [if_pos c52] at ho
      refine ⟨by first | assumption | exact inRd rfl | omega | exact ⟨by omega, by omega⟩ | (have q9 := (hWfT.2.1 x1.toNat (by omega)).2.1; omega) | (have q9 := (hWfT.2.1 x1.toNat (by omega)).2.1; have q8 := (hWfT.2.1 x1.toNat (by omega)).2.2 x2.toNat (by omega); rw [show 8 * x1.toNat + x2.toNat = ((8 * x1) + x2).toNat by omega] at q8; exact ⟨by omega, by omega⟩), ?_⟩
      refine ⟨fun c53 => ?_, fun c53 => ?_⟩
      · rw [if_pos c53] at ho
        refine ⟨by first | assumption | exact inRd rfl | omega | exact ⟨by omega, by omega⟩ | (have q9 := (hWfT.2.1 x1.toNat (by omega)).2.1; omega) | (have q9 := (hWfT.2.1 x1.toNat (by omega)).2.1; have q8 := (hWfT.2.1 x1.toNat (by omega)).2.2 x2.toNat (by omega); rw [show 8 * x1.toNat + x2.toNat = ((8 * x1) + x2).toNat by omega] at q8; exact ⟨by omega, by omega⟩), ?_⟩
        rw [ho] at hK
        exact hK _ (FM.wr (FM.refl _) (by decide)) (RM.set (hR) 123 ((8 * x1) + x2).toNat (by first | assumption | exact inRd rfl | omega | exact ⟨by omega, by omega⟩ | (have q9 := (hWfT.2.1 x1.toNat (by omega)).2.1; omega) | (have q9 := (hWfT.2.1 x1.toNat (by omega)).2.1; have q8 := (hWfT.2.1 x1.toNat (by omega)).2.2 x2.toNat (by omega); rw [show 8 * x1.toNat + x2.toNat = ((8 * x1) + x2).toNat by omega] at q8; exact ⟨by omega, by omega⟩)) rfl)
      · rw [if_neg c53] at ho
        rw [ho] at hK
        exact hK _ (FM.refl _) (hR)
    · rw [if_neg c52] at ho
      rw [ho] at hK
      exact hK _ (FM.refl _) (hR)
  · rw [if_neg c51] at ho
    rw [ho] at hK
    exact hK _ (FM.refl _) (hR)
theorem fsS_cd {A : aS} (hC : WfC A) {h : Nat → Int} {y kind key : Int} (hn : ¬ fsS A h y kind key = -1) : (0 ≤ fsS A h y kind key ∧ fsS A h y kind key ≤ 60) ∧ (0 ≤ cdS A y (fsS A h y kind key) ∧ cdS A y (fsS A h y kind key) < 360) := by
  rcases fsS_prop hC (h := h) (y := y) (kind := kind) (key := key) with q | ⟨m, s, q1, q2, q3, q4, q5, q6⟩
  · exact absurd q hn
  · rw [q1, q4]; exact ⟨⟨by omega, by omega⟩, by omega, by omega⟩
theorem stt_in {A : aS} {t y : Int} : inR (sttS A t y) := by
  have := spL_in (A := A) (t := t) (y - A 122 t.toNat).toNat
  unfold sttS; exact ⟨by omega, by omega⟩
set_option maxRecDepth 4000 in
theorem e273 {d L : Nat} {I : Nat → Nat → Int32} {R : Nat → Nat → Option Nat} {S : List (Nat × Nat)} {K : Int32 → mM → Prop} {A : aS} (hR : RM I A) {x1 : Int} {x2 : Int} {x3 : Int} (hE : inR x1 ∧ (inR (A 91 40 - 1) ∧ (((0 ≤ x1 ∧ x1 ≤ A 91 40 - 1) → inR x2 ∧ (((0 ≤ x2 ∧ x2 ≤ 7) → (0 ≤ x1 ∧ x1 < 20) ∧ (((x2 < A 122 x1.toNat) → K (oI (-1)) (bd L I R S)) ∧ (¬ (x2 < A 122 x1.toNat) → inR x3 ∧ (((0 ≤ x3 ∧ x3 ≤ 1) → WfC A ∧ (WfT A ∧ ((0 ≤ x1 ∧ x1 < A 91 40) ∧ ((0 ≤ x2 ∧ x2 ≤ 7) ∧ (∀ (I17 : mI), (Fr [151] [(91, 87)] I I17) → (RM I17 A) → ((x3 = 0) → K (oI (sttS A x1 x2)) (bd L I17 R S)) ∧ (¬ (x3 = 0) → ∀ (I21 : mI), (Fr [150] [] I17 I21) → (∀ j : Nat, j < 12 → ld I21 150 j = 0) → inR (sttS A x1 x2) ∧ (∃ e25 : Nat → Int, EnvI I21 e25 ∧ (∀ (I27 : mI), (Fr [151] [(91, 87)] I21 I27) → (RM I27 A) → inR (fsS A e25 x2 13 (sttS A x1 x2)) ∧ (((fsS A e25 x2 13 (sttS A x1 x2) = (-1)) → K (oI 0) (bd L I27 R S)) ∧ (¬ (fsS A e25 x2 13 (sttS A x1 x2) = (-1)) → (0 ≤ fsS A e25 x2 13 (sttS A x1 x2) ∧ fsS A e25 x2 13 (sttS A x1 x2) ≤ 60) ∧ (∀ (I33 : mI), (Fr [151] [(91, 87)] I27 I33) → (RM I33 A) → (0 ≤ cdS A x2 (fsS A e25 x2 13 (sttS A x1 x2)) ∧ cdS A x2 (fsS A e25 x2 13 (sttS A x1 x2)) < 360) ∧ (K (oI (A 142 (cdS A x2 (fsS A e25 x2 13 (sttS A x1 x2))).toNat)) (bd L I33 R S))))))))))))) ∧ (¬ (0 ≤ x3 ∧ x3 ≤ 1) → K (oI (-1)) (bd L I R S)))))) ∧ (¬ (0 ≤ x2 ∧ x2 ≤ 7) → K (oI (-1)) (bd L I R S)))) ∧ (¬ (0 ≤ x1 ∧ x1 ≤ A 91 40 - 1) → K (oI (-1)) (bd L I R S))))) : CallI (d + 28) 273 [.ref 91, .int (oI x1), .int (oI x2), .int (oI x3)] (bd L I R S) K := by
  refine cI_of (ls := [.ref 91, .int (oI x1), .int (oI x2), .int (oI x3), mUn, mUn]) rfl ?_
  refine xG gb273.1 ?_
  refine s4 (x := x1) rfl ?_
  refine s0 ?_
  refine s6 (p := 91) rfl ?_
  refine s50 (v := A 91 40) sh91 (by decide) (by decide) (rdM hR.1 rfl) ?_
  refine s0 ?_
  refine s17 ?_
  obtain ⟨g1, hE⟩ := hE
  obtain ⟨g2, hE⟩ := hE
  refine sI rc210 rfl (Nat.le_of_ble_eq_true rfl) ?_
  refine k210 g1 (inRd rfl) g2 (fun c3 => ?_) (fun c3 => ?_)
  · replace hE := hE.1 c3
    refine s67 (inRd rfl) (fun c4 => absurd c4 (by decide)) (fun _ => ?_)
    refine s4 (x := x2) rfl ?_
    refine sI rc250 rfl (Nat.le_of_ble_eq_true rfl) ?_
    refine cI_of (ls := [.int (oI x2)]) rfl ?_
    refine xG gb250 ?_
    refine s4 (x := x2) rfl ?_
    refine s0 ?_
    refine s0 ?_
    obtain ⟨g5, hE⟩ := hE
    refine sI rc210 rfl (Nat.le_of_ble_eq_true rfl) ?_
    refine k210 g5 (inRd rfl) (inRd rfl) (fun c6 => ?_) (fun c6 => ?_)
    · replace hE := hE.1 c6
      refine s84 (by decide) ?_
      refine rqI_of ?_
      refine s67 (inRd rfl) (fun c7 => absurd c7 (by decide)) (fun _ => ?_)
      refine s4 (x := x2) rfl ?_
      refine s6 (p := 91) rfl ?_
      refine s51 sh91 (by decide) (by decide) rf91_42 ?_
      refine s4 (x := x1) rfl ?_
      obtain ⟨g8, hE⟩ := hE
      refine s40 (v := A 122 x1.toNat) sh122 g8 rfl (rdM hR.1 rfl) ?_
      refine s63 g5 (inA hR.1 (a := 122) (k := x1.toNat) rfl) (fun c9 => ?_) (fun c9 => ?_)
      · replace hE := hE.1 c9
        refine xG gb273.2.1 ?_
        refine s0 ?_
        refine s80 ?_
        exact rqI_of hE
      · replace hE := hE.2 c9
        refine s4 (x := x3) rfl ?_
        refine s0 ?_
        refine s0 ?_
        obtain ⟨g10, hE⟩ := hE
        refine sI rc210 rfl (Nat.le_of_ble_eq_true rfl) ?_
        refine k210 g10 (inRd rfl) (inRd rfl) (fun c11 => ?_) (fun c11 => ?_)
        · replace hE := hE.1 c11
          refine s68 (inRd rfl) (fun c12 => absurd c12 (by decide)) (fun _ => ?_)
          refine xG gb273.2.2.1 ?_
          refine s6 (p := 91) rfl ?_
          refine s4 (x := x1) rfl ?_
          refine s4 (x := x2) rfl ?_
          obtain ⟨g13, hE⟩ := hE
          obtain ⟨g14, hE⟩ := hE
          obtain ⟨g15, hE⟩ := hE
          obtain ⟨g16, hE⟩ := hE
          refine sI rc274 rfl (Nat.le_of_ble_eq_true rfl) ?_
          refine k274 hR g13 g14 g15 g16 (fun I17 q18 q19 => ?_)
          replace hE := hE I17 q18 q19
          refine s7 (ls' := [.ref 91, .int (oI x1), .int (oI x2), .int (oI x3), .int (oI (sttS A x1 x2)), mUn]) (Nat.le_of_ble_eq_true rfl) rfl ?_
          refine s4 (x := x3) rfl ?_
          refine s68 g10 (fun c20 => ?_) (fun c20 => ?_)
          · replace hE := hE.1 c20
            refine s4 (x := sttS A x1 x2) rfl ?_
            refine s80 ?_
            exact rqI_of hE
          · replace hE := hE.2 c20
            refine xG gb273.2.2.2.1 ?_
            refine s6 (p := 91) rfl ?_
            refine sV rc236 rfl (Nat.le_of_ble_eq_true rfl) ?_
            refine k236R (q19) (fun I21 q22 q23 => ?_)
            replace hE := hE I21 q22 q23
            refine s6 (p := 91) rfl ?_
            refine s4 (x := x2) rfl ?_
            refine s0 ?_
            refine s4 (x := sttS A x1 x2) rfl ?_
            obtain ⟨g24, hE⟩ := hE
            obtain ⟨e25, k26, hE⟩ := hE
            refine sI rc220 rfl (Nat.le_of_ble_eq_true rfl) ?_
            refine k220 k26 (RM.fr (q19) q22 rfl rfl (fun _ => rfl)) g13 g16 (inRd rfl) g24 (fun I27 q28 q29 => ?_)
            replace hE := hE I27 q28 q29
            refine s7 (ls' := [.ref 91, .int (oI x1), .int (oI x2), .int (oI x3), .int (oI (sttS A x1 x2)), .int (oI (fsS A e25 x2 13 (sttS A x1 x2)))]) (Nat.le_of_ble_eq_true rfl) rfl ?_
            refine s4 (x := fsS A e25 x2 13 (sttS A x1 x2)) rfl ?_
            refine s0 ?_
            obtain ⟨g30, hE⟩ := hE
            refine s62 g30 (inRd rfl) (fun c31 => ?_) (fun c31 => ?_)
            · replace hE := hE.1 c31
              refine s0 ?_
              refine s60 ?_
              refine xG gb273.2.2.2.2.2 ?_
              refine s80 ?_
              exact rqI_of hE
            · replace hE := hE.2 c31
              refine xG gb273.2.2.2.2.1 ?_
              refine s6 (p := 91) rfl ?_
              refine s51 sh91 (by decide) (by decide) rf91_77 ?_
              refine s6 (p := 91) rfl ?_
              refine s4 (x := x2) rfl ?_
              refine s4 (x := fsS A e25 x2 13 (sttS A x1 x2)) rfl ?_
              obtain ⟨g32, hE⟩ := hE
              refine sI rc221 rfl (Nat.le_of_ble_eq_true rfl) ?_
              refine k221 q29 g13 g16 g32 (fun I33 q34 q35 => ?_)
              replace hE := hE I33 q34 q35
              obtain ⟨g36, hE⟩ := hE
              refine s40 (v := A 142 (cdS A x2 (fsS A e25 x2 13 (sttS A x1 x2))).toNat) sh142 g36 rfl (rdM (q35).1 rfl) ?_
              refine s79 ?_
              refine xG gb273.2.2.2.2.2 ?_
              refine s80 ?_
              exact rqI_of hE
        · replace hE := hE.2 c11
          refine s68 (inRd rfl) (fun _ => ?_) (fun c37 => absurd (by decide) c37)
          refine s79 ?_
          refine xG gb273.2.1 ?_
          refine s0 ?_
          refine s80 ?_
          exact rqI_of hE
    · replace hE := hE.2 c6
      refine s84 (by decide) ?_
      refine rqI_of ?_
      refine s67 (inRd rfl) (fun _ => ?_) (fun c38 => absurd (by decide) c38)
      refine xG gb273.2.1 ?_
      refine s0 ?_
      refine s80 ?_
      exact rqI_of hE
  · replace hE := hE.2 c3
    refine s67 (inRd rfl) (fun _ => ?_) (fun c39 => absurd (by decide) c39)
    refine xG gb273.2.1 ?_
    refine s0 ?_
    refine s80 ?_
    exact rqI_of hE
noncomputable def o273 (A : aS) (x1 : Int) (x2 : Int) (x3 : Int) : Int × aS := (if 0 ≤ x1 ∧ x1 ≤ A 91 40 - 1 then (if 0 ≤ x2 ∧ x2 ≤ 7 then (if x2 < A 122 x1.toNat then ((-1), A) else (if 0 ≤ x3 ∧ x3 ≤ 1 then (if x3 = 0 then ((sttS A x1 x2), A) else (if fsS A (zE) x2 13 (sttS A x1 x2) = (-1) then (0, A) else ((A 142 (cdS A x2 (fsS A (zE) x2 13 (sttS A x1 x2))).toNat), A))) else ((-1), A))) else ((-1), A)) else ((-1), A))
set_option maxRecDepth 4000 in
theorem k273 {d L : Nat} {I : mI} {R : Nat → Nat → Option Nat} {S : List (Nat × Nat)} {A : aS} {K : Int32 → mM → Prop} {x1 : Int} {x2 : Int} {x3 : Int} (hR : RM I A) (hWfA : WfA A) (hWfC : WfC A) (hWfT : WfT A) (rx1 : inR x1) (rx2 : inR x2) (rx3 : inR x3) (hK : ∀ I1, FM I I1 → RM I1 (o273 A x1 x2 x3).2 → K (oI (o273 A x1 x2 x3).1) (bd L I1 R S)) : CallI (d + 28) 273 [.ref 91, .int (oI x1), .int (oI x2), .int (oI x3)] (bd L I R S) K := by
  have ho : o273 A x1 x2 x3 = (if 0 ≤ x1 ∧ x1 ≤ A 91 40 - 1 then (if 0 ≤ x2 ∧ x2 ≤ 7 then (if x2 < A 122 x1.toNat then ((-1), A) else (if 0 ≤ x3 ∧ x3 ≤ 1 then (if x3 = 0 then ((sttS A x1 x2), A) else (if fsS A (zE) x2 13 (sttS A x1 x2) = (-1) then (0, A) else ((A 142 (cdS A x2 (fsS A (zE) x2 13 (sttS A x1 x2))).toNat), A))) else ((-1), A))) else ((-1), A)) else ((-1), A)) := rfl
  have w0 := hWfA.1
  have w1 := hWfA.2.1
  have w2 := hWfA.2.2.1
  have w3 : 0 ≤ A 91 3 ∧ A 91 3 ≤ 850 := hWfA.2.2.2.1
  have wN := hWfA.2.2.2.1
  have ty := today_year hWfA
  have wt := hWfT.2.2.1
  have wt1 := hWfT.1
  refine e273 (d := d) hR ?_
  refine ⟨by first | assumption | exact inRd rfl | omega | exact ⟨by omega, by omega⟩ | exact stt_in | exact fsS_inR hWfC | exact (fsS_cd hWfC (by assumption)).1 | exact (fsS_cd hWfC (by assumption)).2, ?_⟩
  refine ⟨by first | assumption | exact inRd rfl | omega | exact ⟨by omega, by omega⟩ | exact stt_in | exact fsS_inR hWfC | exact (fsS_cd hWfC (by assumption)).1 | exact (fsS_cd hWfC (by assumption)).2, ?_⟩
  refine ⟨fun c54 => ?_, fun c54 => ?_⟩
  · rw [if_pos c54] at ho
    refine ⟨by first | assumption | exact inRd rfl | omega | exact ⟨by omega, by omega⟩ | exact stt_in | exact fsS_inR hWfC | exact (fsS_cd hWfC (by assumption)).1 | exact (fsS_cd hWfC (by assumption)).2, ?_⟩
    refine ⟨fun c55 => ?_, fun c55 => ?_⟩
    · rw [if_pos c55] at ho
      refine ⟨by first | assumption | exact inRd rfl | omega | exact ⟨by omega, by omega⟩ | exact stt_in | exact fsS_inR hWfC | exact (fsS_cd hWfC (by assumption)).1 | exact (fsS_cd hWfC (by assumption)).2, ?_⟩
      refine ⟨fun c56 => ?_, fun c56 => ?_⟩
      · rw [if_pos c56] at ho
        rw [ho] at hK
        exact hK _ (FM.refl _) (hR)
      · rw [if_neg c56] at ho
        refine ⟨by first | assumption | exact inRd rfl | omega | exact ⟨by omega, by omega⟩ | exact stt_in | exact fsS_inR hWfC | exact (fsS_cd hWfC (by assumption)).1 | exact (fsS_cd hWfC (by assumption)).2, ?_⟩
        refine ⟨fun c57 => ?_, fun c57 => ?_⟩
        · rw [if_pos c57] at ho
          refine ⟨by first | assumption | exact inRd rfl | omega | exact ⟨by omega, by omega⟩ | exact stt_in | exact fsS_inR hWfC | exact (fsS_cd hWfC (by assumption)).1 | exact (fsS_cd hWfC (by assumption)).2, ?_⟩
          refine ⟨by first | assumption | exact inRd rfl | omega | exact ⟨by omega, by omega⟩ | exact stt_in | exact fsS_inR hWfC | exact (fsS_cd hWfC (by assumption)).1 | exact (fsS_cd hWfC (by assumption)).2, ?_⟩
          refine ⟨by first | assumption | exact inRd rfl | omega | exact ⟨by omega, by omega⟩ | exact stt_in | exact fsS_inR hWfC | exact (fsS_cd hWfC (by assumption)).1 | exact (fsS_cd hWfC (by assumption)).2, ?_⟩
          refine ⟨by first | assumption | exact inRd rfl | omega | exact ⟨by omega, by omega⟩ | exact stt_in | exact fsS_inR hWfC | exact (fsS_cd hWfC (by assumption)).1 | exact (fsS_cd hWfC (by assumption)).2, ?_⟩
          intro I17 q58_0 q58_1
          refine ⟨fun c59 => ?_, fun c59 => ?_⟩
          · rw [if_pos c59] at ho
            rw [ho] at hK
            exact hK _ (FM.trans (FM.refl _) (Fr.FM q58_0 rfl)) (q58_1)
          · rw [if_neg c59] at ho
            intro I21 q60_0 q60_1
            refine ⟨by first | assumption | exact inRd rfl | omega | exact ⟨by omega, by omega⟩ | exact stt_in | exact fsS_inR hWfC | exact (fsS_cd hWfC (by assumption)).1 | exact (fsS_cd hWfC (by assumption)).2, ?_⟩
            refine ⟨zE, by exact EnvI.zero q60_1, ?_⟩
            intro I27 q61_0 q61_1
            refine ⟨by first | assumption | exact inRd rfl | omega | exact ⟨by omega, by omega⟩ | exact stt_in | exact fsS_inR hWfC | exact (fsS_cd hWfC (by assumption)).1 | exact (fsS_cd hWfC (by assumption)).2, ?_⟩
            refine ⟨fun c62 => ?_, fun c62 => ?_⟩
            · rw [if_pos c62] at ho
              rw [ho] at hK
              exact hK _ (FM.trans (FM.trans (FM.trans (FM.refl _) (Fr.FM q58_0 rfl)) (Fr.FM q60_0 rfl)) (Fr.FM q61_0 rfl)) (q61_1)
            · rw [if_neg c62] at ho
              refine ⟨by first | assumption | exact inRd rfl | omega | exact ⟨by omega, by omega⟩ | exact stt_in | exact fsS_inR hWfC | exact (fsS_cd hWfC (by assumption)).1 | exact (fsS_cd hWfC (by assumption)).2, ?_⟩
              intro I33 q63_0 q63_1
              refine ⟨by first | assumption | exact inRd rfl | omega | exact ⟨by omega, by omega⟩ | exact stt_in | exact fsS_inR hWfC | exact (fsS_cd hWfC (by assumption)).1 | exact (fsS_cd hWfC (by assumption)).2, ?_⟩
              rw [ho] at hK
              exact hK _ (FM.trans (FM.trans (FM.trans (FM.trans (FM.refl _) (Fr.FM q58_0 rfl)) (Fr.FM q60_0 rfl)) (Fr.FM q61_0 rfl)) (Fr.FM q63_0 rfl)) (q63_1)
        · rw [if_neg c57] at ho
          rw [ho] at hK
          exact hK _ (FM.refl _) (hR)
    · rw [if_neg c55] at ho
      rw [ho] at hK
      exact hK _ (FM.refl _) (hR)
  · rw [if_neg c54] at ho
    rw [ho] at hK
    exact hK _ (FM.refl _) (hR)
/-- a stretch filled -/
def fl (A : aS) (a b : Nat) (v : Int) : Nat → aS
  | 0 => A
  | k + 1 => u2 (fl A a b v k) a (b + k) v
theorem fl_o {A : aS} {a b : Nat} {v : Int} {a' j : Nat} (h : ¬ a' = a) : ∀ k, fl A a b v k a' j = A a' j
  | 0 => rfl
  | k + 1 => by show u2 (fl A a b v k) a (b + k) v a' j = _; rw [v2_ne (by omega)]; exact fl_o h k
def h271_3 (d L : Nat) (I : Nat → Nat → Int32) (R : Nat → Nat → Option Nat) (S : List (Nat × Nat)) (Q : Option Value → mM → Prop) (w1 : Value) (x2 : Int) : Prop := Wp d (gb 271 3) [.ref 91, w1, .int (oI x2)] [] (bd L I R S) Q
set_option maxRecDepth 4000 in
theorem e271_3 {d L : Nat} {I : Nat → Nat → Int32} {R : Nat → Nat → Option Nat} {S : List (Nat × Nat)} {Q : Option Value → mM → Prop} {A : aS} (hR : RM I A) {w1 : Value} {x2 : Int} (hE : inR x2 ∧ (((x2 < 8) → (0 ≤ (8 * (A 91 40)) + x2 ∧ (8 * (A 91 40)) + x2 < 160) ∧ (h271_3 d L (u2 I 123 ((8 * (A 91 40)) + x2).toNat (oI (-1))) R S Q (mNl w1) (x2 + 1))) ∧ (¬ (x2 < 8) → Q (some (.int (oI (A 91 40 + 1 - 1)))) (bd L (u2 I 91 40 (oI (A 91 40 + 1))) R S)))) : h271_3 d L I R S Q w1 x2 := by
  unfold h271_3
  refine xG gb271.2.2.2.1 ?_
  refine s4 (x := x2) rfl ?_
  refine s0 ?_
  obtain ⟨g1, hE⟩ := hE
  refine s64 g1 (inRd rfl) (fun c2 => ?_) (fun c2 => ?_)
  · replace hE := hE.1 c2
    refine s6 (p := 91) rfl ?_
    refine s51 sh91 (by decide) (by decide) rf91_43 ?_
    refine s0 ?_
    refine s6 (p := 91) rfl ?_
    refine s50 (v := A 91 40) sh91 (by decide) (by decide) (rdM hR.1 rfl) ?_
    refine s18 ?_
    refine s4 (x := x2) rfl ?_
    refine s16 ?_
    refine s0 ?_
    obtain ⟨g3, hE⟩ := hE
    refine s44 sh123 (by decide) g3 rfl ?_
    refine s10 (x := x2) (ls' := [.ref 91, mNl w1, .int (oI (x2 + 1))]) rfl rfl ?_
    refine s60 ?_
    exact hE
  · replace hE := hE.2 c2
    refine xG gb271.2.2.2.2 ?_
    refine s6 (p := 91) rfl ?_
    refine s13r ?_
    refine s50 (v := A 91 40) sh91 (by decide) (by decide) (rdM hR.1 rfl) ?_
    refine s0 ?_
    refine s16 ?_
    refine s52 sh91 (by decide) (by decide) ?_
    refine s6 (p := 91) rfl ?_
    refine s50 (v := A 91 40 + 1) sh91 (by decide) (by decide) (v2_eq) ?_
    refine s0 ?_
    refine s17 ?_
    refine s80 ?_
    exact hE
def h286_2 (d L : Nat) (I : Nat → Nat → Int32) (R : Nat → Nat → Option Nat) (S : List (Nat × Nat)) (Q : Option Value → mM → Prop) (w1 : Value) (x2 : Int) : Prop := Wp d (gb 286 2) [.ref 91, w1, .int (oI x2)] [] (bd L I R S) Q
set_option maxRecDepth 4000 in
theorem e286_2 {d L : Nat} {I : Nat → Nat → Int32} {R : Nat → Nat → Option Nat} {S : List (Nat × Nat)} {Q : Option Value → mM → Prop} {A : aS} (hR : RM I A) {w1 : Value} {x2 : Int} (hE : inR x2 ∧ (((x2 < 600) → (0 ≤ x2 ∧ x2 < 600) ∧ (h286_2 d L (u2 I 134 x2.toNat (oI 0)) R S Q (mNl w1) (x2 + 1))) ∧ (¬ (x2 < 600) → Q (some (.int (oI 1))) (bd L I R S)))) : h286_2 d L I R S Q w1 x2 := by
  unfold h286_2
  refine xG gb286.2.2.1 ?_
  refine s4 (x := x2) rfl ?_
  refine s0 ?_
  obtain ⟨g1, hE⟩ := hE
  refine s64 g1 (inRd rfl) (fun c2 => ?_) (fun c2 => ?_)
  · replace hE := hE.1 c2
    refine s6 (p := 91) rfl ?_
    refine s51 sh91 (by decide) (by decide) rf91_61 ?_
    refine s4 (x := x2) rfl ?_
    refine s0 ?_
    obtain ⟨g3, hE⟩ := hE
    refine s44 sh134 (by decide) g3 rfl ?_
    refine s10 (x := x2) (ls' := [.ref 91, mNl w1, .int (oI (x2 + 1))]) rfl rfl ?_
    refine s60 ?_
    exact hE
  · replace hE := hE.2 c2
    refine xG gb286.2.2.2 ?_
    refine s0 ?_
    refine s84 (by decide) ?_
    exact hE
def h216_7 (d L : Nat) (I : Nat → Nat → Int32) (R : Nat → Nat → Option Nat) (S : List (Nat × Nat)) (Q : Option Value → mM → Prop) (x1 : Int) (x2 : Int) (x3 : Int) (x4 : Int) (x5 : Int) (x6 : Int) : Prop := Wp d (gb 216 7) [.ref 91, .int (oI x1), .int (oI x2), .int (oI x3), .int (oI x4), .int (oI x5), .int (oI x6)] [] (bd L I R S) Q
set_option maxRecDepth 4000 in
theorem e216_7 {d L : Nat} {I : Nat → Nat → Int32} {R : Nat → Nat → Option Nat} {S : List (Nat × Nat)} {Q : Option Value → mM → Prop} {A : aS} (hR : RM I A) {x1 : Int} {x2 : Int} {x3 : Int} {x4 : Int} {x5 : Int} {x6 : Int} (hE : inR x6 ∧ (((x6 < A 91 1) → inR x1 ∧ (((x6 = x1) → h216_7 (d + 2) L I R S Q x1 x2 x3 x4 (x5 + 0) (x6 + 1)) ∧ (¬ (x6 = x1) → WfN A ∧ (inR x3 ∧ (inR (onS A x6 x3 (A 91 0)) ∧ (inR x2 ∧ (h216_7 (d + 2) L I R S Q x1 x2 x3 x4 (x5 + (if onS A x6 x3 (A 91 0) = x2 then (1 : Int) else 0)) (x6 + 1)))))))) ∧ (¬ (x6 < A 91 1) → inR x5 ∧ (inR x4 ∧ (((x5 < x4) → (0 ≤ A 91 3 ∧ A 91 3 < 850) ∧ (Q (some (.int (oI (A 91 3 + 1 - 1)))) (bd L (u2 (u2 (u2 (u2 (u2 (u2 (u2 (u2 (u2 I 103 (A 91 3).toNat (oI 0)) 104 (A 91 3).toNat (oI x1)) 105 (A 91 3).toNat (oI x2)) 106 (A 91 3).toNat (oI x3)) 107 (A 91 3).toNat (oI 0)) 108 (A 91 3).toNat (oI (A 91 0))) 109 (A 91 3).toNat (oI 5000)) 110 0 (oI (A 110 0 + 1))) 91 3 (oI (A 91 3 + 1))) R S))) ∧ (¬ (x5 < x4) → Q (some (.int (oI (-3)))) (bd L I R S))))))) : h216_7 (d + 2) L I R S Q x1 x2 x3 x4 x5 x6 := by
  unfold h216_7
  refine xG gb216.2.2.2.2.2.2.2.1 ?_
  refine s4 (x := x6) rfl ?_
  refine s6 (p := 91) rfl ?_
  refine s50 (v := A 91 1) sh91 (by decide) (by decide) (rdM hR.1 rfl) ?_
  obtain ⟨g1, hE⟩ := hE
  refine s64 g1 (inA hR.1 (a := 91) (k := 1) rfl) (fun c2 => ?_) (fun c2 => ?_)
  · replace hE := hE.1 c2
    refine s4 (x := x5) rfl ?_
    refine s4 (x := x6) rfl ?_
    refine s4 (x := x1) rfl ?_
    obtain ⟨g3, hE⟩ := hE
    refine s61 g1 g3 (fun c4 => ?_) (fun c4 => ?_)
    · replace hE := hE.1 c4
      refine xG gb216.2.2.2.2.2.2.2.2.1 ?_
      refine s0 ?_
      refine s79 ?_
      refine xG gb216.2.2.2.2.2.2.2.2.2.1 ?_
      refine sI rc227 rfl (Nat.le_of_ble_eq_true rfl) ?_
      refine k227 (by decide) ?_
      refine s16 ?_
      refine s7 (ls' := [.ref 91, .int (oI x1), .int (oI x2), .int (oI x3), .int (oI x4), .int (oI (x5 + 0)), .int (oI x6)]) (Nat.le_of_ble_eq_true rfl) rfl ?_
      refine s10 (x := x6) (ls' := [.ref 91, .int (oI x1), .int (oI x2), .int (oI x3), .int (oI x4), .int (oI (x5 + 0)), .int (oI (x6 + 1))]) rfl rfl ?_
      refine s60 ?_
      exact hE
    · replace hE := hE.2 c4
      refine s6 (p := 91) rfl ?_
      refine s4 (x := x6) rfl ?_
      refine s4 (x := x3) rfl ?_
      refine s6 (p := 91) rfl ?_
      refine s50 (v := A 91 0) sh91 (by decide) (by decide) (rdM hR.1 rfl) ?_
      obtain ⟨g5, hE⟩ := hE
      obtain ⟨g6, hE⟩ := hE
      refine sI rc225 rfl (Nat.le_of_ble_eq_true rfl) ?_
      refine k225 hR.1 g5 g1 g6 (inA hR.1 (a := 91) (k := 0) rfl) ?_
      refine s4 (x := x2) rfl ?_
      obtain ⟨g7, hE⟩ := hE
      obtain ⟨g8, hE⟩ := hE
      refine s62j (j := 9) (v1 := 1) (v0 := 0) g7 g8 (fun hJ => ?_) (fun hJ => ?_) ?_
      · exact s0 (s60 hJ)
      · refine xG gb216.2.2.2.2.2.2.2.2.1 ?_
        exact s0 (s79 hJ)
      refine xG gb216.2.2.2.2.2.2.2.2.2.1 ?_
      refine sI rc227 rfl (Nat.le_of_ble_eq_true rfl) ?_
      refine k227 (ite_01 (by decide) (by decide)) ?_
      refine s16 ?_
      refine s7 (ls' := [.ref 91, .int (oI x1), .int (oI x2), .int (oI x3), .int (oI x4), .int (oI (x5 + (if onS A x6 x3 (A 91 0) = x2 then (1 : Int) else 0))), .int (oI x6)]) (Nat.le_of_ble_eq_true rfl) rfl ?_
      refine s10 (x := x6) (ls' := [.ref 91, .int (oI x1), .int (oI x2), .int (oI x3), .int (oI x4), .int (oI (x5 + (if onS A x6 x3 (A 91 0) = x2 then (1 : Int) else 0))), .int (oI (x6 + 1))]) rfl rfl ?_
      refine s60 ?_
      exact hE
  · replace hE := hE.2 c2
    refine xG gb216.2.2.2.2.2.2.2.2.2.2.1 ?_
    refine s4 (x := x5) rfl ?_
    refine s4 (x := x4) rfl ?_
    obtain ⟨g9, hE⟩ := hE
    obtain ⟨g10, hE⟩ := hE
    refine s63 g9 g10 (fun c11 => ?_) (fun c11 => ?_)
    · replace hE := hE.1 c11
      refine xG gb216.2.2.2.2.2.2.2.2.2.2.2 ?_
      refine s6 (p := 91) rfl ?_
      refine s0 ?_
      refine s4 (x := x1) rfl ?_
      refine s4 (x := x2) rfl ?_
      refine s4 (x := x3) rfl ?_
      refine s0 ?_
      refine sI rc228 rfl (Nat.le_of_ble_eq_true rfl) ?_
      refine cI_of (ls := [.ref 91, .int (oI 0), .int (oI x1), .int (oI x2), .int (oI x3), .int (oI 0)]) rfl ?_
      refine xG gb228 ?_
      refine s6 (p := 91) rfl ?_
      refine s51 sh91 (by decide) (by decide) rf91_16 ?_
      refine s6 (p := 91) rfl ?_
      refine s50 (v := A 91 3) sh91 (by decide) (by decide) (rdM hR.1 rfl) ?_
      refine s4 (x := 0) rfl ?_
      obtain ⟨g12, hE⟩ := hE
      refine s44 sh103 (by decide) g12 rfl ?_
      refine s6 (p := 91) rfl ?_
      refine s51 sh91 (by decide) (by decide) rf91_17 ?_
      refine s6 (p := 91) rfl ?_
      refine s50 (v := A 91 3) sh91 (by decide) (by decide) ((v2_ne (by decide)).trans (rdM hR.1 rfl)) ?_
      refine s4 (x := x1) rfl ?_
      refine s44 sh104 (by decide) g12 rfl ?_
      refine s6 (p := 91) rfl ?_
      refine s51 sh91 (by decide) (by decide) rf91_18 ?_
      refine s6 (p := 91) rfl ?_
      refine s50 (v := A 91 3) sh91 (by decide) (by decide) ((v2_ne (by decide)).trans ((v2_ne (by decide)).trans (rdM hR.1 rfl))) ?_
      refine s4 (x := x2) rfl ?_
      refine s44 sh105 (by decide) g12 rfl ?_
      refine s6 (p := 91) rfl ?_
      refine s51 sh91 (by decide) (by decide) rf91_19 ?_
      refine s6 (p := 91) rfl ?_
      refine s50 (v := A 91 3) sh91 (by decide) (by decide) ((v2_ne (by decide)).trans ((v2_ne (by decide)).trans ((v2_ne (by decide)).trans (rdM hR.1 rfl)))) ?_
      refine s4 (x := x3) rfl ?_
      refine s44 sh106 (by decide) g12 rfl ?_
      refine s6 (p := 91) rfl ?_
      refine s51 sh91 (by decide) (by decide) rf91_20 ?_
      refine s6 (p := 91) rfl ?_
      refine s50 (v := A 91 3) sh91 (by decide) (by decide) ((v2_ne (by decide)).trans ((v2_ne (by decide)).trans ((v2_ne (by decide)).trans ((v2_ne (by decide)).trans (rdM hR.1 rfl))))) ?_
      refine s4 (x := 0) rfl ?_
      refine s44 sh107 (by decide) g12 rfl ?_
      refine s6 (p := 91) rfl ?_
      refine s51 sh91 (by decide) (by decide) rf91_21 ?_
      refine s6 (p := 91) rfl ?_
      refine s50 (v := A 91 3) sh91 (by decide) (by decide) ((v2_ne (by decide)).trans ((v2_ne (by decide)).trans ((v2_ne (by decide)).trans ((v2_ne (by decide)).trans ((v2_ne (by decide)).trans (rdM hR.1 rfl)))))) ?_
      refine s6 (p := 91) rfl ?_
      refine s50 (v := A 91 0) sh91 (by decide) (by decide) ((v2_ne (by decide)).trans ((v2_ne (by decide)).trans ((v2_ne (by decide)).trans ((v2_ne (by decide)).trans ((v2_ne (by decide)).trans (rdM hR.1 rfl)))))) ?_
      refine s44 sh108 (by decide) g12 rfl ?_
      refine s6 (p := 91) rfl ?_
      refine s51 sh91 (by decide) (by decide) rf91_22 ?_
      refine s6 (p := 91) rfl ?_
      refine s50 (v := A 91 3) sh91 (by decide) (by decide) ((v2_ne (by decide)).trans ((v2_ne (by decide)).trans ((v2_ne (by decide)).trans ((v2_ne (by decide)).trans ((v2_ne (by decide)).trans ((v2_ne (by decide)).trans (rdM hR.1 rfl))))))) ?_
      refine s0 ?_
      refine s44 sh109 (by decide) g12 rfl ?_
      refine s6 (p := 91) rfl ?_
      refine s51 sh91 (by decide) (by decide) rf91_23 ?_
      refine s4 (x := 0) rfl ?_
      refine s14 ?_
      refine s40 (v := A 110 0) sh110 (⟨by decide, by decide⟩ : (0 : Int) ≤ 0 ∧ (0 : Int) < 7) rfl ((v2_ne (by decide)).trans ((v2_ne (by decide)).trans ((v2_ne (by decide)).trans ((v2_ne (by decide)).trans ((v2_ne (by decide)).trans ((v2_ne (by decide)).trans ((v2_ne (by decide)).trans (rdM hR.1 rfl)))))))) ?_
      refine s0 ?_
      refine s16 ?_
      refine s44 sh110 (by decide) (⟨by decide, by decide⟩ : (0 : Int) ≤ 0 ∧ (0 : Int) < 7) rfl ?_
      refine s6 (p := 91) rfl ?_
      refine s13r ?_
      refine s50 (v := A 91 3) sh91 (by decide) (by decide) ((v2_ne (by decide)).trans ((v2_ne (by decide)).trans ((v2_ne (by decide)).trans ((v2_ne (by decide)).trans ((v2_ne (by decide)).trans ((v2_ne (by decide)).trans ((v2_ne (by decide)).trans ((v2_ne (by decide)).trans (rdM hR.1 rfl))))))))) ?_
      refine s0 ?_
      refine s16 ?_
      refine s52 sh91 (by decide) (by decide) ?_
      refine s6 (p := 91) rfl ?_
      refine s50 (v := A 91 3 + 1) sh91 (by decide) (by decide) (v2_eq) ?_
      refine s0 ?_
      refine s17 ?_
      refine s80 ?_
      refine rqI_of ?_
      refine s80 ?_
      exact hE
    · replace hE := hE.2 c11
      refine s0 ?_
      refine s80 ?_
      exact hE
theorem l271 {d L : Nat} {I0 : mI} {R : Nat → Nat → Option Nat} {S : List (Nat × Nat)} {Q : Option Value → mM → Prop} {A : aS} (h40 : 0 ≤ A 91 40 ∧ A 91 40 < 20) (hK : ∀ I1, FM I0 I1 → RM I1 (u2 (fl A 123 (8 * A 91 40).toNat (-1) 8) 91 40 (A 91 40 + 1)) → Q (some (.int (oI (A 91 40 + 1 - 1)))) (bd L I1 R S)) : ∀ (n k : Nat) (I : mI) (w1 : Value), k + n = 8 → FM I0 I → RM I (fl A 123 (8 * A 91 40).toNat (-1) k) → h271_3 d L I R S Q w1 k := by
  intro n
  induction n with
  | zero =>
    intro k I w1 hk hf hR
    have e : k = 8 := by omega
    subst e
    refine e271_3 hR ⟨⟨by omega, by omega⟩, fun h => by exfalso; omega, fun _ => ?_⟩
    have e40 : fl A 123 (8 * A 91 40).toNat (-1) 8 91 40 = A 91 40 := fl_o (by decide) 8
    rw [e40]
    exact hK _ (hf.wr (by decide)) (hR.set 91 40 ⟨by omega, by omega⟩ rfl)
  | succ n ih =>
    intro k I w1 hk hf hR
    have e40 : fl A 123 (8 * A 91 40).toNat (-1) k 91 40 = A 91 40 := fl_o (by decide) k
    refine e271_3 hR ⟨⟨by omega, by omega⟩, fun _ => ?_, fun h => by exfalso; omega⟩
    rw [e40]
    refine ⟨⟨by omega, by omega⟩, ?_⟩
    have hs := hR.set 123 ((8 * A 91 40).toNat + k) (v := -1) (inRd rfl) rfl
    rw [show (8 * A 91 40 + (k : Int)).toNat = (8 * A 91 40).toNat + k by omega]
    exact ih (k + 1) _ (mNl w1) (by omega) (hf.wr (by decide)) hs
theorem l286 {d L : Nat} {I0 : mI} {R : Nat → Nat → Option Nat} {S : List (Nat × Nat)} {Q : Option Value → mM → Prop} {A : aS} (hK : ∀ I1, FM I0 I1 → RM I1 (fl A 134 0 0 600) → Q (some (.int (oI 1))) (bd L I1 R S)) : ∀ (n k : Nat) (I : mI) (w1 : Value), k + n = 600 → FM I0 I → RM I (fl A 134 0 0 k) → h286_2 d L I R S Q w1 k := by
  intro n
  induction n with
  | zero =>
    intro k I w1 hk hf hR
    have e : k = 600 := by omega
    subst e
    exact e286_2 hR ⟨⟨by omega, by omega⟩, fun h => by exfalso; omega, fun _ => hK _ hf hR⟩
  | succ n ih =>
    intro k I w1 hk hf hR
    refine e286_2 hR ⟨⟨by omega, by omega⟩, fun _ => ⟨⟨by omega, by omega⟩, ?_⟩, fun h => by exfalso; omega⟩
    have hs := hR.set 134 (0 + k) (v := 0) (inRd rfl) rfl
    rw [show ((k : Int)).toNat = 0 + k by omega]
    exact ih (k + 1) _ (mNl w1) (by omega) (hf.wr (by decide)) hs
set_option maxRecDepth 4000 in
theorem e271 {d L : Nat} {I : Nat → Nat → Int32} {R : Nat → Nat → Option Nat} {S : List (Nat × Nat)} {K : Int32 → mM → Prop} {A : aS} (hR : RM I A) {x1 : Int} (hE : inR x1 ∧ (inR (A 91 2 - 1) ∧ (((0 ≤ x1 ∧ x1 ≤ A 91 2 - 1) → ((A 91 40 = 20) → K (oI (-1)) (bd L I R S)) ∧ (¬ (A 91 40 = 20) → (0 ≤ A 91 40 ∧ A 91 40 < 20) ∧ (h271_3 (d + 2) L (u2 (u2 I 121 (A 91 40).toNat (oI x1)) 122 (A 91 40).toNat (oI (Int.tdiv (A 91 0) 100))) R S (rqI K) (.int (oI x1)) 0))) ∧ (¬ (0 ≤ x1 ∧ x1 ≤ A 91 2 - 1) → K (oI (-1)) (bd L I R S))))) : CallI (d + 2) 271 [.ref 91, .int (oI x1)] (bd L I R S) K := by
  refine cI_of (ls := [.ref 91, .int (oI x1), mUn]) rfl ?_
  refine xG gb271.1 ?_
  refine s6 (p := 91) rfl ?_
  refine s4 (x := x1) rfl ?_
  refine sI rc217 rfl (Nat.le_of_ble_eq_true rfl) ?_
  refine cI_of (ls := [.ref 91, .int (oI x1)]) rfl ?_
  refine xG gb217 ?_
  refine s4 (x := x1) rfl ?_
  refine s0 ?_
  refine s6 (p := 91) rfl ?_
  refine s50 (v := A 91 2) sh91 (by decide) (by decide) (rdM hR.1 rfl) ?_
  refine s0 ?_
  refine s17 ?_
  obtain ⟨g1, hE⟩ := hE
  obtain ⟨g2, hE⟩ := hE
  refine sI rc210 rfl (Nat.le_of_ble_eq_true rfl) ?_
  refine k210 g1 (inRd rfl) g2 (fun c3 => ?_) (fun c3 => ?_)
  · replace hE := hE.1 c3
    refine s84 (by decide) ?_
    refine rqI_of ?_
    refine s67 (inRd rfl) (fun c4 => absurd c4 (by decide)) (fun _ => ?_)
    refine s6 (p := 91) rfl ?_
    refine s50 (v := A 91 40) sh91 (by decide) (by decide) (rdM hR.1 rfl) ?_
    refine s0 ?_
    refine s62 (inA hR.1 (a := 91) (k := 40) rfl) (inRd rfl) (fun c5 => ?_) (fun c5 => ?_)
    · replace hE := hE.1 c5
      refine s79 ?_
      refine xG gb271.2.1 ?_
      refine s0 ?_
      refine s80 ?_
      exact rqI_of hE
    · replace hE := hE.2 c5
      refine xG gb271.2.2.1 ?_
      refine s6 (p := 91) rfl ?_
      refine s51 sh91 (by decide) (by decide) rf91_41 ?_
      refine s6 (p := 91) rfl ?_
      refine s50 (v := A 91 40) sh91 (by decide) (by decide) (rdM hR.1 rfl) ?_
      refine s4 (x := x1) rfl ?_
      obtain ⟨g6, hE⟩ := hE
      refine s44 sh121 (by decide) g6 rfl ?_
      refine s6 (p := 91) rfl ?_
      refine s51 sh91 (by decide) (by decide) rf91_42 ?_
      refine s6 (p := 91) rfl ?_
      refine s50 (v := A 91 40) sh91 (by decide) (by decide) ((v2_ne (by decide)).trans (rdM hR.1 rfl)) ?_
      refine s6 (p := 91) rfl ?_
      refine s50 (v := A 91 0) sh91 (by decide) (by decide) ((v2_ne (by decide)).trans (rdM hR.1 rfl)) ?_
      refine s0 ?_
      refine s19 (inA hR.1 (a := 91) (k := 0) rfl) ⟨(inRd rfl), by decide⟩ ?_
      refine s44 sh122 (by decide) g6 rfl ?_
      refine s0 ?_
      refine s7 (ls' := [.ref 91, .int (oI x1), .int (oI 0)]) (Nat.le_of_ble_eq_true rfl) rfl ?_
      refine s79 ?_
      exact hE
  · replace hE := hE.2 c3
    refine s84 (by decide) ?_
    refine rqI_of ?_
    refine s67 (inRd rfl) (fun _ => ?_) (fun c7 => absurd (by decide) c7)
    refine xG gb271.2.1 ?_
    refine s0 ?_
    refine s80 ?_
    exact rqI_of hE
noncomputable def o271 (A : aS) (x1 : Int) : Int × aS := (if 0 ≤ x1 ∧ x1 ≤ A 91 2 - 1 then (if A 91 40 = 20 then ((-1), A) else (A 91 40 + 1 - 1, (u2 (fl (u2 (u2 A 121 (A 91 40).toNat x1) 122 (A 91 40).toNat (Int.tdiv (A 91 0) 100)) 123 (8 * A 91 40).toNat (-1) 8) 91 40 (A 91 40 + 1)))) else ((-1), A))
set_option maxRecDepth 4000 in
theorem k271 {d L : Nat} {I : mI} {R : Nat → Nat → Option Nat} {S : List (Nat × Nat)} {A : aS} {K : Int32 → mM → Prop} {x1 : Int} (hR : RM I A) (hWfA : WfA A) (hWfT : WfT A) (rx1 : inR x1) (hK : ∀ I1, FM I I1 → RM I1 (o271 A x1).2 → K (oI (o271 A x1).1) (bd L I1 R S)) : CallI (d + 2) 271 [.ref 91, .int (oI x1)] (bd L I R S) K := by
  have ho : o271 A x1 = (if 0 ≤ x1 ∧ x1 ≤ A 91 2 - 1 then (if A 91 40 = 20 then ((-1), A) else (A 91 40 + 1 - 1, (u2 (fl (u2 (u2 A 121 (A 91 40).toNat x1) 122 (A 91 40).toNat (Int.tdiv (A 91 0) 100)) 123 (8 * A 91 40).toNat (-1) 8) 91 40 (A 91 40 + 1)))) else ((-1), A)) := rfl
  have w0 := hWfA.1
  have w1 := hWfA.2.1
  have w2 := hWfA.2.2.1
  have w3 : 0 ≤ A 91 3 ∧ A 91 3 ≤ 850 := hWfA.2.2.2.1
  have wN := hWfA.2.2.2.1
  have ty := today_year hWfA
  have wt := hWfT.2.2.1
  have wt1 := hWfT.1
  refine e271 (d := d) hR ?_
  refine ⟨by first | assumption | exact inRd rfl | omega | exact ⟨by omega, by omega⟩ | exact ⟨by omega, by omega⟩, ?_⟩
  refine ⟨by first | assumption | exact inRd rfl | omega | exact ⟨by omega, by omega⟩ | exact ⟨by omega, by omega⟩, ?_⟩
  refine ⟨fun c64 => ?_, fun c64 => ?_⟩
  · rw [if_pos c64] at ho
    refine ⟨fun c65 => ?_, fun c65 => ?_⟩
    · rw [if_pos c65] at ho
      rw [ho] at hK
      exact hK _ (FM.refl _) (hR)
    · rw [if_neg c65] at ho
      refine ⟨by first | assumption | exact inRd rfl | omega | exact ⟨by omega, by omega⟩ | exact ⟨by omega, by omega⟩, ?_⟩
      rw [ho] at hK
      exact l271 (A := (u2 (u2 A 121 (A 91 40).toNat x1) 122 (A 91 40).toNat (Int.tdiv (A 91 0) 100))) (show 0 ≤ A 91 40 ∧ A 91 40 < 20 by omega) (fun I1 h1 h2 => rqI_of (hK I1 h1 h2)) 8 0 _ _ rfl (FM.wr (FM.wr (FM.refl _) (by decide)) (by decide)) (RM.set (RM.set (hR) 121 (A 91 40).toNat (by first | assumption | exact inRd rfl | omega | exact ⟨by omega, by omega⟩ | exact ⟨by omega, by omega⟩) rfl) 122 (A 91 40).toNat (by first | assumption | exact inRd rfl | omega | exact ⟨by omega, by omega⟩ | exact ⟨by omega, by omega⟩) rfl)
  · rw [if_neg c64] at ho
    rw [ho] at hK
    exact hK _ (FM.refl _) (hR)
set_option maxRecDepth 4000 in
theorem e286 {d L : Nat} {I : Nat → Nat → Int32} {R : Nat → Nat → Option Nat} {S : List (Nat × Nat)} {K : Int32 → mM → Prop} {A : aS} (hR : RM I A) {x1 : Int} (hE : inR x1 ∧ (((1 ≤ x1 ∧ x1 ≤ 9) → h286_2 (d + 1) L (u2 (u2 (u2 I 91 57 (oI x1)) 91 58 (oI 0)) 91 59 (oI 0)) R S (rqI K) (.int (oI x1)) 0) ∧ (¬ (1 ≤ x1 ∧ x1 ≤ 9) → K (oI 0) (bd L I R S)))) : CallI (d + 1) 286 [.ref 91, .int (oI x1)] (bd L I R S) K := by
  refine cI_of (ls := [.ref 91, .int (oI x1), mUn]) rfl ?_
  refine xG gb286.1 ?_
  refine s4 (x := x1) rfl ?_
  refine s0 ?_
  refine s0 ?_
  obtain ⟨g1, hE⟩ := hE
  refine sI rc210 rfl (Nat.le_of_ble_eq_true rfl) ?_
  refine k210 g1 (inRd rfl) (inRd rfl) (fun c2 => ?_) (fun c2 => ?_)
  · replace hE := hE.1 c2
    refine s68 (inRd rfl) (fun c3 => absurd c3 (by decide)) (fun _ => ?_)
    refine xG gb286.2.1 ?_
    refine s6 (p := 91) rfl ?_
    refine s4 (x := x1) rfl ?_
    refine s52 sh91 (by decide) (by decide) ?_
    refine s6 (p := 91) rfl ?_
    refine s0 ?_
    refine s52 sh91 (by decide) (by decide) ?_
    refine s6 (p := 91) rfl ?_
    refine s0 ?_
    refine s52 sh91 (by decide) (by decide) ?_
    refine s0 ?_
    refine s7 (ls' := [.ref 91, .int (oI x1), .int (oI 0)]) (Nat.le_of_ble_eq_true rfl) rfl ?_
    refine s79 ?_
    exact hE
  · replace hE := hE.2 c2
    refine s68 (inRd rfl) (fun _ => ?_) (fun c4 => absurd (by decide) c4)
    refine s0 ?_
    refine s84 (by decide) ?_
    exact rqI_of hE
noncomputable def o286 (A : aS) (x1 : Int) : Int × aS := (if 1 ≤ x1 ∧ x1 ≤ 9 then (1, fl (u2 (u2 (u2 A 91 57 x1) 91 58 0) 91 59 0) 134 0 0 600) else (0, A))
set_option maxRecDepth 4000 in
theorem k286 {d L : Nat} {I : mI} {R : Nat → Nat → Option Nat} {S : List (Nat × Nat)} {A : aS} {K : Int32 → mM → Prop} {x1 : Int} (hR : RM I A) (rx1 : inR x1) (hK : ∀ I1, FM I I1 → RM I1 (o286 A x1).2 → K (oI (o286 A x1).1) (bd L I1 R S)) : CallI (d + 1) 286 [.ref 91, .int (oI x1)] (bd L I R S) K := by
  have ho : o286 A x1 = (if 1 ≤ x1 ∧ x1 ≤ 9 then (1, fl (u2 (u2 (u2 A 91 57 x1) 91 58 0) 91 59 0) 134 0 0 600) else (0, A)) := rfl
  refine e286 (d := d) hR ?_
  refine ⟨by first | assumption | exact inRd rfl | omega | exact ⟨by omega, by omega⟩, ?_⟩
  refine ⟨fun c66 => ?_, fun c66 => ?_⟩
  · rw [if_pos c66] at ho
    rw [ho] at hK
    exact l286 (A := (u2 (u2 (u2 A 91 57 x1) 91 58 0) 91 59 0)) (fun I1 h1 h2 => rqI_of (hK I1 h1 h2)) 600 0 _ _ rfl (FM.wr (FM.wr (FM.wr (FM.refl _) (by decide)) (by decide)) (by decide)) (RM.set (RM.set (RM.set (hR) 91 57 (by first | assumption | exact inRd rfl | omega | exact ⟨by omega, by omega⟩) rfl) 91 58 (by first | assumption | exact inRd rfl | omega | exact ⟨by omega, by omega⟩) rfl) 91 59 (by first | assumption | exact inRd rfl | omega | exact ⟨by omega, by omega⟩) rfl)
  · rw [if_neg c66] at ho
    rw [ho] at hK
    exact hK _ (FM.refl _) (hR)
noncomputable def o289 (A : aS) (x1 : Int) (x2 : Int) (x3 : Int) : Int × aS := (if 0 ≤ x1 ∧ x1 ≤ A 91 59 - 1 then (if 0 ≤ x2 ∧ x2 ≤ A 91 58 - 1 then (if 0 ≤ x3 ∧ x3 ≤ 9 then (if heapS A x1 x2 x3 ≤ A 91 57 then (A 91 57 - heapS A x1 x2 x3, u2 A 134 (10 * x1 + x2).toNat x3) else (-1, A)) else ((-1), A)) else ((-1), A)) else ((-1), A))
set_option maxRecDepth 4000 in
theorem k289 {d L : Nat} {I : mI} {R : Nat → Nat → Option Nat} {S : List (Nat × Nat)} {A : aS} {K : Int32 → mM → Prop} {x1 : Int} {x2 : Int} {x3 : Int} (hR : RM I A) (hWfV : WfV A) (rx1 : inR x1) (rx2 : inR x2) (rx3 : inR x3) (hK : ∀ I1, FM I I1 → RM I1 (o289 A x1 x2 x3).2 → K (oI (o289 A x1 x2 x3).1) (bd L I1 R S)) : CallI (d + 1) 289 [.ref 91, .int (oI x1), .int (oI x2), .int (oI x3)] (bd L I R S) K := by
  have ho : o289 A x1 x2 x3 = (if 0 ≤ x1 ∧ x1 ≤ A 91 59 - 1 then (if 0 ≤ x2 ∧ x2 ≤ A 91 58 - 1 then (if 0 ≤ x3 ∧ x3 ≤ 9 then (if heapS A x1 x2 x3 ≤ A 91 57 then (A 91 57 - heapS A x1 x2 x3, u2 A 134 (10 * x1 + x2).toNat x3) else (-1, A)) else ((-1), A)) else ((-1), A)) else ((-1), A)) := rfl
  have wv := hWfV.1
  have wv1 := hWfV.2.1
  have wv2 := hWfV.2.2.1
  refine e289 (d := d) hR ?_
  refine ⟨by first | assumption | exact inRd rfl | omega | exact ⟨by omega, by omega⟩, ?_⟩
  refine ⟨by first | assumption | exact inRd rfl | omega | exact ⟨by omega, by omega⟩, ?_⟩
  refine ⟨fun c67 => ?_, fun c67 => ?_⟩
  · rw [if_pos c67] at ho
    refine ⟨by first | assumption | exact inRd rfl | omega | exact ⟨by omega, by omega⟩, ?_⟩
    refine ⟨by first | assumption | exact inRd rfl | omega | exact ⟨by omega, by omega⟩, ?_⟩
    refine ⟨fun c68 => ?_, fun c68 => ?_⟩
    · rw [if_pos c68] at ho
      refine ⟨by first | assumption | exact inRd rfl | omega | exact ⟨by omega, by omega⟩, ?_⟩
      refine ⟨fun c69 => ?_, fun c69 => ?_⟩
      · rw [if_pos c69] at ho
        have q9 := l289 (d := d + 1) (L := L) (R := R) (S := S) (Q := rqI K) hWfV (by assumption) (by assumption) (by assumption) hR (fun q => rqI_of (by rw [if_pos q] at ho; rw [ho] at hK; exact hK _ (FM.wr (FM.refl _) (by decide)) (hR.set 134 _ (by assumption) rfl))) (fun q => rqI_of (by rw [if_neg q] at ho; rw [ho] at hK; exact hK _ (FM.refl _) hR)) (A 91 58).toNat 0 (by omega)
        rw [show x3 + hsL A x1 x2 0 = x3 from Int.add_zero _] at q9
        exact q9
      · rw [if_neg c69] at ho
        rw [ho] at hK
        exact hK _ (FM.refl _) (hR)
    · rw [if_neg c68] at ho
      rw [ho] at hK
      exact hK _ (FM.refl _) (hR)
  · rw [if_neg c67] at ho
    rw [ho] at hK
    exact hK _ (FM.refl _) (hR)
/-- how many others are entered there -/
def roL (A : aS) (c s day : Int) : Nat → Int
  | 0 => 0
  | k + 1 => roL A c s day k + (if (k : Int) = c then 0 else if onS A k day (A 91 0) = s then 1 else 0)
theorem roL_in {A : aS} {c s day : Int} : ∀ k : Nat, 0 ≤ roL A c s day k ∧ roL A c s day k ≤ k
  | 0 => by unfold roL; omega
  | k + 1 => by
    have := roL_in (A := A) (c := c) (s := s) (day := day) k
    unfold roL
    split
    · omega
    · split <;> omega
def ntS (A : aS) (kind c x y z : Int) (j : Nat) : aS := u2 (u2 (u2 (u2 (u2 (u2 (u2 (u2 (u2 A 103 (A 91 3).toNat kind) 104 (A 91 3).toNat c) 105 (A 91 3).toNat x) 106 (A 91 3).toNat y) 107 (A 91 3).toNat z) 108 (A 91 3).toNat (A 91 0)) 109 (A 91 3).toNat 5000) 110 j (A 110 j + 1)) 91 3 (A 91 3 + 1)
theorem l216 {d L : Nat} {I0 : mI} {R : Nat → Nat → Option Nat} {S : List (Nat × Nat)} {Q : Option Value → mM → Prop} {A : aS} {I : mI} {c s day room : Int} (hW : WfA A) (hB : WfB A) (h110 : ¬ A 110 0 = 150) (hc : inR c) (hs : inR s) (hd : inR day) (hm : inR room) (hR : RM I A) (h1 : roL A c s day (A 91 1).toNat < room → ∀ I1, FM I I1 → RM I1 (ntS A 0 c s day 0 0) → Q (some (.int (oI (A 91 3 + 1 - 1)))) (bd L I1 R S)) (h0 : ¬ roL A c s day (A 91 1).toNat < room → Q (some (.int (oI (-3)))) (bd L I R S)) : ∀ (n k : Nat), k + n = (A 91 1).toNat → h216_7 (d + 2) L I R S Q c s day room (roL A c s day k) k := by
  have w0 := hW.1
  have w1 := hW.2.1
  have w3 : 0 ≤ A 91 3 ∧ A 91 3 ≤ 850 := hW.2.2.2.1
  have wb := hB
  unfold WfB at wb
  intro n
  induction n with
  | zero =>
    intro k hk
    have ri := roL_in (A := A) (c := c) (s := s) (day := day) k
    rw [show (A 91 1).toNat = k by omega] at h1 h0
    refine e216_7 hR ⟨⟨by omega, by omega⟩, fun h => by exfalso; omega, fun _ => ⟨⟨by omega, by omega⟩, hm, fun q => ⟨⟨by omega, by omega⟩, ?_⟩, fun q => h0 q⟩⟩
    exact h1 q _ (FM.wr (FM.wr (FM.wr (FM.wr (FM.wr (FM.wr (FM.wr (FM.wr (FM.wr (FM.refl _) (by decide)) (by decide)) (by decide)) (by decide)) (by decide)) (by decide)) (by decide)) (by decide)) (by decide)) (((((((((hR.set 103 _ (inRd rfl) rfl).set 104 _ hc rfl).set 105 _ hs rfl).set 106 _ hd rfl).set 107 _ (inRd rfl) rfl).set 108 _ ⟨by omega, by omega⟩ rfl).set 109 _ (inRd rfl) rfl).set 110 0 ⟨by omega, by omega⟩ rfl).set 91 3 ⟨by omega, by omega⟩ rfl)
  | succ n ih =>
    intro k hk
    have ri := roL_in (A := A) (c := c) (s := s) (day := day) k
    have oi := onS_in hW (c := (k : Int)) (day := day) (known := A 91 0)
    have ih := ih (k + 1) (by omega)
    have es : roL A c s day (k + 1) = roL A c s day k + (if (k : Int) = c then 0 else if onS A k day (A 91 0) = s then 1 else 0) := rfl
    rw [es] at ih
    refine e216_7 hR ⟨⟨by omega, by omega⟩, fun _ => ⟨hc, fun q => ?_, fun q => ⟨hW.2.2.2.1, hd, ⟨by omega, by omega⟩, hs, ?_⟩⟩, fun h => by exfalso; omega⟩
    · rw [if_pos q] at ih; exact ih
    · rw [if_neg q] at ih; exact ih
theorem ho_inR {A : aS} (hC : WfC A) (hT : WfT A) {s : Int} (hs : 0 ≤ s ∧ s ≤ A 91 2 - 1) {y : Int} : inR (hoS A s y) := by
  have h1 := hT.2.2.2.2 s.toNat (by omega)
  unfold hoS
  split
  · exact inRd rfl
  · have h2 := lnS_in hC (y := y) (kind := 10) (by decide)
    have h3 := Int.tdiv_nonneg (a := A 100 s.toNat) (b := lnS A y 10 0) (by omega) (by omega)
    have h4 : Int.tdiv (A 100 s.toNat) (lnS A y 10 0) ≤ A 100 s.toNat := by
      rw [Int.tdiv_eq_ediv_of_nonneg (by omega)]
      exact Int.ediv_le_self _ (by omega)
    exact ⟨by omega, by omega⟩
set_option maxRecDepth 4000 in
theorem e216 {d L : Nat} {I : Nat → Nat → Int32} {R : Nat → Nat → Option Nat} {S : List (Nat × Nat)} {K : Int32 → mM → Prop} {A : aS} (hR : RM I A) {x1 : Int} {x2 : Int} {x3 : Int} (hE : inR x1 ∧ (inR (A 91 1 - 1) ∧ (((0 ≤ x1 ∧ x1 ≤ A 91 1 - 1) → inR x2 ∧ (((x2 = (-1)) → inR x3 ∧ (((0 ≤ x3 ∧ x3 ≤ A 91 0) → ((A 110 0 = 150) → K (oI (-2)) (bd L I R S)) ∧ (¬ (A 110 0 = 150) → (0 ≤ A 91 3 ∧ A 91 3 < 850) ∧ (K (oI (A 91 3 + 1 - 1)) (bd L (u2 (u2 (u2 (u2 (u2 (u2 (u2 (u2 (u2 I 103 (A 91 3).toNat (oI 0)) 104 (A 91 3).toNat (oI x1)) 105 (A 91 3).toNat (oI x2)) 106 (A 91 3).toNat (oI x3)) 107 (A 91 3).toNat (oI 0)) 108 (A 91 3).toNat (oI (A 91 0))) 109 (A 91 3).toNat (oI 5000)) 110 0 (oI (A 110 0 + 1))) 91 3 (oI (A 91 3 + 1))) R S)))) ∧ (¬ (0 ≤ x3 ∧ x3 ≤ A 91 0) → K (oI (-1)) (bd L I R S)))) ∧ (¬ (x2 = (-1)) → inR (A 91 2 - 1) ∧ (((0 ≤ x2 ∧ x2 ≤ A 91 2 - 1) → inR x3 ∧ (((0 ≤ x3 ∧ x3 ≤ A 91 0) → ((A 110 0 = 150) → K (oI (-2)) (bd L I R S)) ∧ (¬ (A 110 0 = 150) → WfC A ∧ ((0 ≤ x2 ∧ x2 < 6) ∧ ((0 ≤ Int.tdiv x3 100 ∧ Int.tdiv x3 100 ≤ 7) ∧ (∀ (I26 : mI), (Fr [151] [(91, 87)] I I26) → (RM I26 A) → inR (hoS A x2 (Int.tdiv x3 100)) ∧ (((hoS A x2 (Int.tdiv x3 100) = (-1)) → (0 ≤ A 91 3 ∧ A 91 3 < 850) ∧ (K (oI (A 91 3 + 1 - 1)) (bd L (u2 (u2 (u2 (u2 (u2 (u2 (u2 (u2 (u2 I26 103 (A 91 3).toNat (oI 0)) 104 (A 91 3).toNat (oI x1)) 105 (A 91 3).toNat (oI x2)) 106 (A 91 3).toNat (oI x3)) 107 (A 91 3).toNat (oI 0)) 108 (A 91 3).toNat (oI (A 91 0))) 109 (A 91 3).toNat (oI 5000)) 110 0 (oI (A 110 0 + 1))) 91 3 (oI (A 91 3 + 1))) R S))) ∧ (¬ (hoS A x2 (Int.tdiv x3 100) = (-1)) → h216_7 (d + 28) L I26 R S (rqI K) x1 x2 x3 (hoS A x2 (Int.tdiv x3 100)) 0 0))))))) ∧ (¬ (0 ≤ x3 ∧ x3 ≤ A 91 0) → K (oI (-1)) (bd L I R S)))) ∧ (¬ (0 ≤ x2 ∧ x2 ≤ A 91 2 - 1) → K (oI (-1)) (bd L I R S)))))) ∧ (¬ (0 ≤ x1 ∧ x1 ≤ A 91 1 - 1) → K (oI (-1)) (bd L I R S))))) : CallI (d + 28) 216 [.ref 91, .int (oI x1), .int (oI x2), .int (oI x3)] (bd L I R S) K := by
  refine cI_of (ls := [.ref 91, .int (oI x1), .int (oI x2), .int (oI x3), mUn, mUn, mUn]) rfl ?_
  refine xG gb216.1 ?_
  refine s6 (p := 91) rfl ?_
  refine s4 (x := x1) rfl ?_
  refine sI rc215 rfl (Nat.le_of_ble_eq_true rfl) ?_
  refine cI_of (ls := [.ref 91, .int (oI x1)]) rfl ?_
  refine xG gb215 ?_
  refine s4 (x := x1) rfl ?_
  refine s0 ?_
  refine s6 (p := 91) rfl ?_
  refine s50 (v := A 91 1) sh91 (by decide) (by decide) (rdM hR.1 rfl) ?_
  refine s0 ?_
  refine s17 ?_
  obtain ⟨g1, hE⟩ := hE
  obtain ⟨g2, hE⟩ := hE
  refine sI rc210 rfl (Nat.le_of_ble_eq_true rfl) ?_
  refine k210 g1 (inRd rfl) g2 (fun c3 => ?_) (fun c3 => ?_)
  · replace hE := hE.1 c3
    refine s84 (by decide) ?_
    refine rqI_of ?_
    refine s67 (inRd rfl) (fun c4 => absurd c4 (by decide)) (fun _ => ?_)
    refine s4 (x := x2) rfl ?_
    refine s0 ?_
    obtain ⟨g5, hE⟩ := hE
    refine s61 g5 (inRd rfl) (fun c6 => ?_) (fun c6 => ?_)
    · replace hE := hE.1 c6
      refine xG gb216.2.1 ?_
      refine s4 (x := x3) rfl ?_
      refine s0 ?_
      refine s6 (p := 91) rfl ?_
      refine s50 (v := A 91 0) sh91 (by decide) (by decide) (rdM hR.1 rfl) ?_
      obtain ⟨g7, hE⟩ := hE
      refine sI rc210 rfl (Nat.le_of_ble_eq_true rfl) ?_
      refine k210 g7 (inRd rfl) (inA hR.1 (a := 91) (k := 0) rfl) (fun c8 => ?_) (fun c8 => ?_)
      · replace hE := hE.1 c8
        refine s68 (inRd rfl) (fun c9 => absurd c9 (by decide)) (fun _ => ?_)
        refine xG gb216.2.2.2.1 ?_
        refine s6 (p := 91) rfl ?_
        refine s51 sh91 (by decide) (by decide) rf91_23 ?_
        refine s0 ?_
        refine s40 (v := A 110 0) sh110 (⟨by decide, by decide⟩ : (0 : Int) ≤ 0 ∧ (0 : Int) < 7) rfl (rdM hR.1 rfl) ?_
        refine s0 ?_
        refine s62 (inA hR.1 (a := 110) (k := 0) rfl) (inRd rfl) (fun c10 => ?_) (fun c10 => ?_)
        · replace hE := hE.1 c10
          refine s0 ?_
          refine s80 ?_
          exact rqI_of hE
        · replace hE := hE.2 c10
          refine xG gb216.2.2.2.2.1 ?_
          refine s4 (x := x2) rfl ?_
          refine s0 ?_
          refine s62 g5 (inRd rfl) (fun _ => ?_) (fun c11 => absurd c6 c11)
          refine s0 ?_
          refine s60 ?_
          refine xG gb216.2.2.2.2.2.2.1 ?_
          refine s7 (ls' := [.ref 91, .int (oI x1), .int (oI x2), .int (oI x3), .int (oI (-1)), mUn, mUn]) (Nat.le_of_ble_eq_true rfl) rfl ?_
          refine s4 (x := (-1)) rfl ?_
          refine s0 ?_
          refine s61 (inRd rfl) (inRd rfl) (fun _ => ?_) (fun c12 => absurd (by decide) c12)
          refine xG gb216.2.2.2.2.2.2.2.2.2.2.2 ?_
          refine s6 (p := 91) rfl ?_
          refine s0 ?_
          refine s4 (x := x1) rfl ?_
          refine s4 (x := x2) rfl ?_
          refine s4 (x := x3) rfl ?_
          refine s0 ?_
          refine sI rc228 rfl (Nat.le_of_ble_eq_true rfl) ?_
          refine cI_of (ls := [.ref 91, .int (oI 0), .int (oI x1), .int (oI x2), .int (oI x3), .int (oI 0)]) rfl ?_
          refine xG gb228 ?_
          refine s6 (p := 91) rfl ?_
          refine s51 sh91 (by decide) (by decide) rf91_16 ?_
          refine s6 (p := 91) rfl ?_
          refine s50 (v := A 91 3) sh91 (by decide) (by decide) (rdM hR.1 rfl) ?_
          refine s4 (x := 0) rfl ?_
          obtain ⟨g13, hE⟩ := hE
          refine s44 sh103 (by decide) g13 rfl ?_
          refine s6 (p := 91) rfl ?_
          refine s51 sh91 (by decide) (by decide) rf91_17 ?_
          refine s6 (p := 91) rfl ?_
          refine s50 (v := A 91 3) sh91 (by decide) (by decide) ((v2_ne (by decide)).trans (rdM hR.1 rfl)) ?_
          refine s4 (x := x1) rfl ?_
          refine s44 sh104 (by decide) g13 rfl ?_
          refine s6 (p := 91) rfl ?_
          refine s51 sh91 (by decide) (by decide) rf91_18 ?_
          refine s6 (p := 91) rfl ?_
          refine s50 (v := A 91 3) sh91 (by decide) (by decide) ((v2_ne (by decide)).trans ((v2_ne (by decide)).trans (rdM hR.1 rfl))) ?_
          refine s4 (x := x2) rfl ?_
          refine s44 sh105 (by decide) g13 rfl ?_
          refine s6 (p := 91) rfl ?_
          refine s51 sh91 (by decide) (by decide) rf91_19 ?_
          refine s6 (p := 91) rfl ?_
          refine s50 (v := A 91 3) sh91 (by decide) (by decide) ((v2_ne (by decide)).trans ((v2_ne (by decide)).trans ((v2_ne (by decide)).trans (rdM hR.1 rfl)))) ?_
          refine s4 (x := x3) rfl ?_
          refine s44 sh106 (by decide) g13 rfl ?_
          refine s6 (p := 91) rfl ?_
          refine s51 sh91 (by decide) (by decide) rf91_20 ?_
          refine s6 (p := 91) rfl ?_
          refine s50 (v := A 91 3) sh91 (by decide) (by decide) ((v2_ne (by decide)).trans ((v2_ne (by decide)).trans ((v2_ne (by decide)).trans ((v2_ne (by decide)).trans (rdM hR.1 rfl))))) ?_
          refine s4 (x := 0) rfl ?_
          refine s44 sh107 (by decide) g13 rfl ?_
          refine s6 (p := 91) rfl ?_
          refine s51 sh91 (by decide) (by decide) rf91_21 ?_
          refine s6 (p := 91) rfl ?_
          refine s50 (v := A 91 3) sh91 (by decide) (by decide) ((v2_ne (by decide)).trans ((v2_ne (by decide)).trans ((v2_ne (by decide)).trans ((v2_ne (by decide)).trans ((v2_ne (by decide)).trans (rdM hR.1 rfl)))))) ?_
          refine s6 (p := 91) rfl ?_
          refine s50 (v := A 91 0) sh91 (by decide) (by decide) ((v2_ne (by decide)).trans ((v2_ne (by decide)).trans ((v2_ne (by decide)).trans ((v2_ne (by decide)).trans ((v2_ne (by decide)).trans (rdM hR.1 rfl)))))) ?_
          refine s44 sh108 (by decide) g13 rfl ?_
          refine s6 (p := 91) rfl ?_
          refine s51 sh91 (by decide) (by decide) rf91_22 ?_
          refine s6 (p := 91) rfl ?_
          refine s50 (v := A 91 3) sh91 (by decide) (by decide) ((v2_ne (by decide)).trans ((v2_ne (by decide)).trans ((v2_ne (by decide)).trans ((v2_ne (by decide)).trans ((v2_ne (by decide)).trans ((v2_ne (by decide)).trans (rdM hR.1 rfl))))))) ?_
          refine s0 ?_
          refine s44 sh109 (by decide) g13 rfl ?_
          refine s6 (p := 91) rfl ?_
          refine s51 sh91 (by decide) (by decide) rf91_23 ?_
          refine s4 (x := 0) rfl ?_
          refine s14 ?_
          refine s40 (v := A 110 0) sh110 (⟨by decide, by decide⟩ : (0 : Int) ≤ 0 ∧ (0 : Int) < 7) rfl ((v2_ne (by decide)).trans ((v2_ne (by decide)).trans ((v2_ne (by decide)).trans ((v2_ne (by decide)).trans ((v2_ne (by decide)).trans ((v2_ne (by decide)).trans ((v2_ne (by decide)).trans (rdM hR.1 rfl)))))))) ?_
          refine s0 ?_
          refine s16 ?_
          refine s44 sh110 (by decide) (⟨by decide, by decide⟩ : (0 : Int) ≤ 0 ∧ (0 : Int) < 7) rfl ?_
          refine s6 (p := 91) rfl ?_
          refine s13r ?_
          refine s50 (v := A 91 3) sh91 (by decide) (by decide) ((v2_ne (by decide)).trans ((v2_ne (by decide)).trans ((v2_ne (by decide)).trans ((v2_ne (by decide)).trans ((v2_ne (by decide)).trans ((v2_ne (by decide)).trans ((v2_ne (by decide)).trans ((v2_ne (by decide)).trans (rdM hR.1 rfl))))))))) ?_
          refine s0 ?_
          refine s16 ?_
          refine s52 sh91 (by decide) (by decide) ?_
          refine s6 (p := 91) rfl ?_
          refine s50 (v := A 91 3 + 1) sh91 (by decide) (by decide) (v2_eq) ?_
          refine s0 ?_
          refine s17 ?_
          refine s80 ?_
          refine rqI_of ?_
          refine s80 ?_
          exact rqI_of hE
      · replace hE := hE.2 c8
        refine s68 (inRd rfl) (fun _ => ?_) (fun c14 => absurd (by decide) c14)
        refine s79 ?_
        refine xG gb216.2.2.1 ?_
        refine s0 ?_
        refine s80 ?_
        exact rqI_of hE
    · replace hE := hE.2 c6
      refine s6 (p := 91) rfl ?_
      refine s4 (x := x2) rfl ?_
      refine sI rc217 rfl (Nat.le_of_ble_eq_true rfl) ?_
      refine cI_of (ls := [.ref 91, .int (oI x2)]) rfl ?_
      refine xG gb217 ?_
      refine s4 (x := x2) rfl ?_
      refine s0 ?_
      refine s6 (p := 91) rfl ?_
      refine s50 (v := A 91 2) sh91 (by decide) (by decide) (rdM hR.1 rfl) ?_
      refine s0 ?_
      refine s17 ?_
      obtain ⟨g15, hE⟩ := hE
      refine sI rc210 rfl (Nat.le_of_ble_eq_true rfl) ?_
      refine k210 g5 (inRd rfl) g15 (fun c16 => ?_) (fun c16 => ?_)
      · replace hE := hE.1 c16
        refine s84 (by decide) ?_
        refine rqI_of ?_
        refine s67 (inRd rfl) (fun c17 => absurd c17 (by decide)) (fun _ => ?_)
        refine s79 ?_
        refine xG gb216.2.1 ?_
        refine s4 (x := x3) rfl ?_
        refine s0 ?_
        refine s6 (p := 91) rfl ?_
        refine s50 (v := A 91 0) sh91 (by decide) (by decide) (rdM hR.1 rfl) ?_
        obtain ⟨g18, hE⟩ := hE
        refine sI rc210 rfl (Nat.le_of_ble_eq_true rfl) ?_
        refine k210 g18 (inRd rfl) (inA hR.1 (a := 91) (k := 0) rfl) (fun c19 => ?_) (fun c19 => ?_)
        · replace hE := hE.1 c19
          refine s68 (inRd rfl) (fun c20 => absurd c20 (by decide)) (fun _ => ?_)
          refine xG gb216.2.2.2.1 ?_
          refine s6 (p := 91) rfl ?_
          refine s51 sh91 (by decide) (by decide) rf91_23 ?_
          refine s0 ?_
          refine s40 (v := A 110 0) sh110 (⟨by decide, by decide⟩ : (0 : Int) ≤ 0 ∧ (0 : Int) < 7) rfl (rdM hR.1 rfl) ?_
          refine s0 ?_
          refine s62 (inA hR.1 (a := 110) (k := 0) rfl) (inRd rfl) (fun c21 => ?_) (fun c21 => ?_)
          · replace hE := hE.1 c21
            refine s0 ?_
            refine s80 ?_
            exact rqI_of hE
          · replace hE := hE.2 c21
            refine xG gb216.2.2.2.2.1 ?_
            refine s4 (x := x2) rfl ?_
            refine s0 ?_
            refine s62 g5 (inRd rfl) (fun c22 => absurd c22 c6) (fun _ => ?_)
            refine xG gb216.2.2.2.2.2.1 ?_
            refine s6 (p := 91) rfl ?_
            refine s4 (x := x2) rfl ?_
            refine s4 (x := x3) rfl ?_
            refine s0 ?_
            refine s19 g18 ⟨(inRd rfl), by decide⟩ ?_
            obtain ⟨g23, hE⟩ := hE
            obtain ⟨g24, hE⟩ := hE
            obtain ⟨g25, hE⟩ := hE
            refine sI rc218 rfl (Nat.le_of_ble_eq_true rfl) ?_
            refine k218 hR g23 g24 g25 (fun I26 q27 q28 => ?_)
            replace hE := hE I26 q27 q28
            refine s79 ?_
            refine xG gb216.2.2.2.2.2.2.1 ?_
            refine s7 (ls' := [.ref 91, .int (oI x1), .int (oI x2), .int (oI x3), .int (oI (hoS A x2 (Int.tdiv x3 100))), mUn, mUn]) (Nat.le_of_ble_eq_true rfl) rfl ?_
            refine s4 (x := hoS A x2 (Int.tdiv x3 100)) rfl ?_
            refine s0 ?_
            obtain ⟨g29, hE⟩ := hE
            refine s61 g29 (inRd rfl) (fun c30 => ?_) (fun c30 => ?_)
            · replace hE := hE.1 c30
              refine xG gb216.2.2.2.2.2.2.2.2.2.2.2 ?_
              refine s6 (p := 91) rfl ?_
              refine s0 ?_
              refine s4 (x := x1) rfl ?_
              refine s4 (x := x2) rfl ?_
              refine s4 (x := x3) rfl ?_
              refine s0 ?_
              refine sI rc228 rfl (Nat.le_of_ble_eq_true rfl) ?_
              refine cI_of (ls := [.ref 91, .int (oI 0), .int (oI x1), .int (oI x2), .int (oI x3), .int (oI 0)]) rfl ?_
              refine xG gb228 ?_
              refine s6 (p := 91) rfl ?_
              refine s51 sh91 (by decide) (by decide) rf91_16 ?_
              refine s6 (p := 91) rfl ?_
              refine s50 (v := A 91 3) sh91 (by decide) (by decide) (rdM (q28).1 rfl) ?_
              refine s4 (x := 0) rfl ?_
              obtain ⟨g31, hE⟩ := hE
              refine s44 sh103 (by decide) g31 rfl ?_
              refine s6 (p := 91) rfl ?_
              refine s51 sh91 (by decide) (by decide) rf91_17 ?_
              refine s6 (p := 91) rfl ?_
              refine s50 (v := A 91 3) sh91 (by decide) (by decide) ((v2_ne (by decide)).trans (rdM (q28).1 rfl)) ?_
              refine s4 (x := x1) rfl ?_
              refine s44 sh104 (by decide) g31 rfl ?_
              refine s6 (p := 91) rfl ?_
              refine s51 sh91 (by decide) (by decide) rf91_18 ?_
              refine s6 (p := 91) rfl ?_
              refine s50 (v := A 91 3) sh91 (by decide) (by decide) ((v2_ne (by decide)).trans ((v2_ne (by decide)).trans (rdM (q28).1 rfl))) ?_
              refine s4 (x := x2) rfl ?_
              refine s44 sh105 (by decide) g31 rfl ?_
              refine s6 (p := 91) rfl ?_
              refine s51 sh91 (by decide) (by decide) rf91_19 ?_
              refine s6 (p := 91) rfl ?_
              refine s50 (v := A 91 3) sh91 (by decide) (by decide) ((v2_ne (by decide)).trans ((v2_ne (by decide)).trans ((v2_ne (by decide)).trans (rdM (q28).1 rfl)))) ?_
              refine s4 (x := x3) rfl ?_
              refine s44 sh106 (by decide) g31 rfl ?_
              refine s6 (p := 91) rfl ?_
              refine s51 sh91 (by decide) (by decide) rf91_20 ?_
              refine s6 (p := 91) rfl ?_
              refine s50 (v := A 91 3) sh91 (by decide) (by decide) ((v2_ne (by decide)).trans ((v2_ne (by decide)).trans ((v2_ne (by decide)).trans ((v2_ne (by decide)).trans (rdM (q28).1 rfl))))) ?_
              refine s4 (x := 0) rfl ?_
              refine s44 sh107 (by decide) g31 rfl ?_
              refine s6 (p := 91) rfl ?_
              refine s51 sh91 (by decide) (by decide) rf91_21 ?_
              refine s6 (p := 91) rfl ?_
              refine s50 (v := A 91 3) sh91 (by decide) (by decide) ((v2_ne (by decide)).trans ((v2_ne (by decide)).trans ((v2_ne (by decide)).trans ((v2_ne (by decide)).trans ((v2_ne (by decide)).trans (rdM (q28).1 rfl)))))) ?_
              refine s6 (p := 91) rfl ?_
              refine s50 (v := A 91 0) sh91 (by decide) (by decide) ((v2_ne (by decide)).trans ((v2_ne (by decide)).trans ((v2_ne (by decide)).trans ((v2_ne (by decide)).trans ((v2_ne (by decide)).trans (rdM (q28).1 rfl)))))) ?_
              refine s44 sh108 (by decide) g31 rfl ?_
              refine s6 (p := 91) rfl ?_
              refine s51 sh91 (by decide) (by decide) rf91_22 ?_
              refine s6 (p := 91) rfl ?_
              refine s50 (v := A 91 3) sh91 (by decide) (by decide) ((v2_ne (by decide)).trans ((v2_ne (by decide)).trans ((v2_ne (by decide)).trans ((v2_ne (by decide)).trans ((v2_ne (by decide)).trans ((v2_ne (by decide)).trans (rdM (q28).1 rfl))))))) ?_
              refine s0 ?_
              refine s44 sh109 (by decide) g31 rfl ?_
              refine s6 (p := 91) rfl ?_
              refine s51 sh91 (by decide) (by decide) rf91_23 ?_
              refine s4 (x := 0) rfl ?_
              refine s14 ?_
              refine s40 (v := A 110 0) sh110 (⟨by decide, by decide⟩ : (0 : Int) ≤ 0 ∧ (0 : Int) < 7) rfl ((v2_ne (by decide)).trans ((v2_ne (by decide)).trans ((v2_ne (by decide)).trans ((v2_ne (by decide)).trans ((v2_ne (by decide)).trans ((v2_ne (by decide)).trans ((v2_ne (by decide)).trans (rdM (q28).1 rfl)))))))) ?_
              refine s0 ?_
              refine s16 ?_
              refine s44 sh110 (by decide) (⟨by decide, by decide⟩ : (0 : Int) ≤ 0 ∧ (0 : Int) < 7) rfl ?_
              refine s6 (p := 91) rfl ?_
              refine s13r ?_
              refine s50 (v := A 91 3) sh91 (by decide) (by decide) ((v2_ne (by decide)).trans ((v2_ne (by decide)).trans ((v2_ne (by decide)).trans ((v2_ne (by decide)).trans ((v2_ne (by decide)).trans ((v2_ne (by decide)).trans ((v2_ne (by decide)).trans ((v2_ne (by decide)).trans (rdM (q28).1 rfl))))))))) ?_
              refine s0 ?_
              refine s16 ?_
              refine s52 sh91 (by decide) (by decide) ?_
              refine s6 (p := 91) rfl ?_
              refine s50 (v := A 91 3 + 1) sh91 (by decide) (by decide) (v2_eq) ?_
              refine s0 ?_
              refine s17 ?_
              refine s80 ?_
              refine rqI_of ?_
              refine s80 ?_
              exact rqI_of hE
            · replace hE := hE.2 c30
              refine s0 ?_
              refine s7 (ls' := [.ref 91, .int (oI x1), .int (oI x2), .int (oI x3), .int (oI (hoS A x2 (Int.tdiv x3 100))), .int (oI 0), mUn]) (Nat.le_of_ble_eq_true rfl) rfl ?_
              refine s0 ?_
              refine s7 (ls' := [.ref 91, .int (oI x1), .int (oI x2), .int (oI x3), .int (oI (hoS A x2 (Int.tdiv x3 100))), .int (oI 0), .int (oI 0)]) (Nat.le_of_ble_eq_true rfl) rfl ?_
              refine s79 ?_
              exact hE
        · replace hE := hE.2 c19
          refine s68 (inRd rfl) (fun _ => ?_) (fun c32 => absurd (by decide) c32)
          refine s79 ?_
          refine xG gb216.2.2.1 ?_
          refine s0 ?_
          refine s80 ?_
          exact rqI_of hE
      · replace hE := hE.2 c16
        refine s84 (by decide) ?_
        refine rqI_of ?_
        refine s67 (inRd rfl) (fun _ => ?_) (fun c33 => absurd (by decide) c33)
        refine xG gb216.2.2.1 ?_
        refine s0 ?_
        refine s80 ?_
        exact rqI_of hE
  · replace hE := hE.2 c3
    refine s84 (by decide) ?_
    refine rqI_of ?_
    refine s67 (inRd rfl) (fun _ => ?_) (fun c34 => absurd (by decide) c34)
    refine xG gb216.2.2.1 ?_
    refine s0 ?_
    refine s80 ?_
    exact rqI_of hE
noncomputable def o216 (A : aS) (x1 : Int) (x2 : Int) (x3 : Int) : Int × aS := (if 0 ≤ x1 ∧ x1 ≤ A 91 1 - 1 then (if x2 = (-1) then (if 0 ≤ x3 ∧ x3 ≤ A 91 0 then (if A 110 0 = 150 then ((-2), A) else ((A 91 3 + 1 - 1), (u2 (u2 (u2 (u2 (u2 (u2 (u2 (u2 (u2 A 103 (A 91 3).toNat (0)) 104 (A 91 3).toNat (x1)) 105 (A 91 3).toNat (x2)) 106 (A 91 3).toNat (x3)) 107 (A 91 3).toNat (0)) 108 (A 91 3).toNat ((A 91 0))) 109 (A 91 3).toNat (5000)) 110 0 ((A 110 0 + 1))) 91 3 ((A 91 3 + 1))))) else ((-1), A)) else (if 0 ≤ x2 ∧ x2 ≤ A 91 2 - 1 then (if 0 ≤ x3 ∧ x3 ≤ A 91 0 then (if A 110 0 = 150 then ((-2), A) else (if hoS A x2 (Int.tdiv x3 100) = (-1) then ((A 91 3 + 1 - 1), (u2 (u2 (u2 (u2 (u2 (u2 (u2 (u2 (u2 A 103 (A 91 3).toNat (0)) 104 (A 91 3).toNat (x1)) 105 (A 91 3).toNat (x2)) 106 (A 91 3).toNat (x3)) 107 (A 91 3).toNat (0)) 108 (A 91 3).toNat ((A 91 0))) 109 (A 91 3).toNat (5000)) 110 0 ((A 110 0 + 1))) 91 3 ((A 91 3 + 1)))) else (if roL A x1 x2 x3 (A 91 1).toNat < hoS A x2 (Int.tdiv x3 100) then (A 91 3 + 1 - 1, ntS A 0 x1 x2 x3 0 0) else (-3, A)))) else ((-1), A)) else ((-1), A))) else ((-1), A))
set_option maxRecDepth 4000 in
theorem k216 {d L : Nat} {I : mI} {R : Nat → Nat → Option Nat} {S : List (Nat × Nat)} {A : aS} {K : Int32 → mM → Prop} {x1 : Int} {x2 : Int} {x3 : Int} (hR : RM I A) (hWfA : WfA A) (hWfC : WfC A) (hWfT : WfT A) (hWfB : WfB A) (rx1 : inR x1) (rx2 : inR x2) (rx3 : inR x3) (hK : ∀ I1, FM I I1 → RM I1 (o216 A x1 x2 x3).2 → K (oI (o216 A x1 x2 x3).1) (bd L I1 R S)) : CallI (d + 28) 216 [.ref 91, .int (oI x1), .int (oI x2), .int (oI x3)] (bd L I R S) K := by
  have ho : o216 A x1 x2 x3 = (if 0 ≤ x1 ∧ x1 ≤ A 91 1 - 1 then (if x2 = (-1) then (if 0 ≤ x3 ∧ x3 ≤ A 91 0 then (if A 110 0 = 150 then ((-2), A) else ((A 91 3 + 1 - 1), (u2 (u2 (u2 (u2 (u2 (u2 (u2 (u2 (u2 A 103 (A 91 3).toNat (0)) 104 (A 91 3).toNat (x1)) 105 (A 91 3).toNat (x2)) 106 (A 91 3).toNat (x3)) 107 (A 91 3).toNat (0)) 108 (A 91 3).toNat ((A 91 0))) 109 (A 91 3).toNat (5000)) 110 0 ((A 110 0 + 1))) 91 3 ((A 91 3 + 1))))) else ((-1), A)) else (if 0 ≤ x2 ∧ x2 ≤ A 91 2 - 1 then (if 0 ≤ x3 ∧ x3 ≤ A 91 0 then (if A 110 0 = 150 then ((-2), A) else (if hoS A x2 (Int.tdiv x3 100) = (-1) then ((A 91 3 + 1 - 1), (u2 (u2 (u2 (u2 (u2 (u2 (u2 (u2 (u2 A 103 (A 91 3).toNat (0)) 104 (A 91 3).toNat (x1)) 105 (A 91 3).toNat (x2)) 106 (A 91 3).toNat (x3)) 107 (A 91 3).toNat (0)) 108 (A 91 3).toNat ((A 91 0))) 109 (A 91 3).toNat (5000)) 110 0 ((A 110 0 + 1))) 91 3 ((A 91 3 + 1)))) else (if roL A x1 x2 x3 (A 91 1).toNat < hoS A x2 (Int.tdiv x3 100) then (A 91 3 + 1 - 1, ntS A 0 x1 x2 x3 0 0) else (-3, A)))) else ((-1), A)) else ((-1), A))) else ((-1), A)) := rfl
  have w0 := hWfA.1
  have w1 := hWfA.2.1
  have w2 := hWfA.2.2.1
  have w3 : 0 ≤ A 91 3 ∧ A 91 3 ≤ 850 := hWfA.2.2.2.1
  have wN := hWfA.2.2.2.1
  have ty := today_year hWfA
  have wb := hWfB
  unfold WfB at wb
  refine e216 (d := d) hR ?_
  refine ⟨by first | assumption | exact inRd rfl | omega | exact ⟨by omega, by omega⟩ | exact ho_inR hWfC hWfT (by assumption) | exact (dq (x := x3) (by omega)).1, ?_⟩
  refine ⟨by first | assumption | exact inRd rfl | omega | exact ⟨by omega, by omega⟩ | exact ho_inR hWfC hWfT (by assumption) | exact (dq (x := x3) (by omega)).1, ?_⟩
  refine ⟨fun c70 => ?_, fun c70 => ?_⟩
  · rw [if_pos c70] at ho
    refine ⟨by first | assumption | exact inRd rfl | omega | exact ⟨by omega, by omega⟩ | exact ho_inR hWfC hWfT (by assumption) | exact (dq (x := x3) (by omega)).1, ?_⟩
    refine ⟨fun c71 => ?_, fun c71 => ?_⟩
    · rw [if_pos c71] at ho
      refine ⟨by first | assumption | exact inRd rfl | omega | exact ⟨by omega, by omega⟩ | exact ho_inR hWfC hWfT (by assumption) | exact (dq (x := x3) (by omega)).1, ?_⟩
      refine ⟨fun c72 => ?_, fun c72 => ?_⟩
      · rw [if_pos c72] at ho
        refine ⟨fun c73 => ?_, fun c73 => ?_⟩
        · rw [if_pos c73] at ho
          rw [ho] at hK
          exact hK _ (FM.refl _) (hR)
        · rw [if_neg c73] at ho
          refine ⟨by first | assumption | exact inRd rfl | omega | exact ⟨by omega, by omega⟩ | exact ho_inR hWfC hWfT (by assumption) | exact (dq (x := x3) (by omega)).1, ?_⟩
          rw [ho] at hK
          exact hK _ (FM.wr (FM.wr (FM.wr (FM.wr (FM.wr (FM.wr (FM.wr (FM.wr (FM.wr (FM.refl _) (by decide)) (by decide)) (by decide)) (by decide)) (by decide)) (by decide)) (by decide)) (by decide)) (by decide)) (RM.set (RM.set (RM.set (RM.set (RM.set (RM.set (RM.set (RM.set (RM.set (hR) 103 (A 91 3).toNat (by first | assumption | exact inRd rfl | omega | exact ⟨by omega, by omega⟩ | exact ho_inR hWfC hWfT (by assumption) | exact (dq (x := x3) (by omega)).1) rfl) 104 (A 91 3).toNat (by first | assumption | exact inRd rfl | omega | exact ⟨by omega, by omega⟩ | exact ho_inR hWfC hWfT (by assumption) | exact (dq (x := x3) (by omega)).1) rfl) 105 (A 91 3).toNat (by first | assumption | exact inRd rfl | omega | exact ⟨by omega, by omega⟩ | exact ho_inR hWfC hWfT (by assumption) | exact (dq (x := x3) (by omega)).1) rfl) 106 (A 91 3).toNat (by first | assumption | exact inRd rfl | omega | exact ⟨by omega, by omega⟩ | exact ho_inR hWfC hWfT (by assumption) | exact (dq (x := x3) (by omega)).1) rfl) 107 (A 91 3).toNat (by first | assumption | exact inRd rfl | omega | exact ⟨by omega, by omega⟩ | exact ho_inR hWfC hWfT (by assumption) | exact (dq (x := x3) (by omega)).1) rfl) 108 (A 91 3).toNat (by first | assumption | exact inRd rfl | omega | exact ⟨by omega, by omega⟩ | exact ho_inR hWfC hWfT (by assumption) | exact (dq (x := x3) (by omega)).1) rfl) 109 (A 91 3).toNat (by first | assumption | exact inRd rfl | omega | exact ⟨by omega, by omega⟩ | exact ho_inR hWfC hWfT (by assumption) | exact (dq (x := x3) (by omega)).1) rfl) 110 0 (by first | assumption | exact inRd rfl | omega | exact ⟨by omega, by omega⟩ | exact ho_inR hWfC hWfT (by assumption) | exact (dq (x := x3) (by omega)).1) rfl) 91 3 (by first | assumption | exact inRd rfl | omega | exact ⟨by omega, by omega⟩ | exact ho_inR hWfC hWfT (by assumption) | exact (dq (x := x3) (by omega)).1) rfl)
      · rw [if_neg c72] at ho
        rw [ho] at hK
        exact hK _ (FM.refl _) (hR)
    · rw [if_neg c71] at ho
      refine ⟨by first | assumption | exact inRd rfl | omega | exact ⟨by omega, by omega⟩ | exact ho_inR hWfC hWfT (by assumption) | exact (dq (x := x3) (by omega)).1, ?_⟩
      refine ⟨fun c74 => ?_, fun c74 => ?_⟩
      · rw [if_pos c74] at ho
        refine ⟨by first | assumption | exact inRd rfl | omega | exact ⟨by omega, by omega⟩ | exact ho_inR hWfC hWfT (by assumption) | exact (dq (x := x3) (by omega)).1, ?_⟩
        refine ⟨fun c75 => ?_, fun c75 => ?_⟩
        · rw [if_pos c75] at ho
          refine ⟨fun c76 => ?_, fun c76 => ?_⟩
          · rw [if_pos c76] at ho
            rw [ho] at hK
            exact hK _ (FM.refl _) (hR)
          · rw [if_neg c76] at ho
            refine ⟨by first | assumption | exact inRd rfl | omega | exact ⟨by omega, by omega⟩ | exact ho_inR hWfC hWfT (by assumption) | exact (dq (x := x3) (by omega)).1, ?_⟩
            refine ⟨by first | assumption | exact inRd rfl | omega | exact ⟨by omega, by omega⟩ | exact ho_inR hWfC hWfT (by assumption) | exact (dq (x := x3) (by omega)).1, ?_⟩
            refine ⟨by first | assumption | exact inRd rfl | omega | exact ⟨by omega, by omega⟩ | exact ho_inR hWfC hWfT (by assumption) | exact (dq (x := x3) (by omega)).1, ?_⟩
            intro I26 q77_0 q77_1
            refine ⟨by first | assumption | exact inRd rfl | omega | exact ⟨by omega, by omega⟩ | exact ho_inR hWfC hWfT (by assumption) | exact (dq (x := x3) (by omega)).1, ?_⟩
            refine ⟨fun c78 => ?_, fun c78 => ?_⟩
            · rw [if_pos c78] at ho
              refine ⟨by first | assumption | exact inRd rfl | omega | exact ⟨by omega, by omega⟩ | exact ho_inR hWfC hWfT (by assumption) | exact (dq (x := x3) (by omega)).1, ?_⟩
              rw [ho] at hK
              exact hK _ (FM.wr (FM.wr (FM.wr (FM.wr (FM.wr (FM.wr (FM.wr (FM.wr (FM.wr (FM.trans (FM.refl _) (Fr.FM q77_0 rfl)) (by decide)) (by decide)) (by decide)) (by decide)) (by decide)) (by decide)) (by decide)) (by decide)) (by decide)) (RM.set (RM.set (RM.set (RM.set (RM.set (RM.set (RM.set (RM.set (RM.set (q77_1) 103 (A 91 3).toNat (by first | assumption | exact inRd rfl | omega | exact ⟨by omega, by omega⟩ | exact ho_inR hWfC hWfT (by assumption) | exact (dq (x := x3) (by omega)).1) rfl) 104 (A 91 3).toNat (by first | assumption | exact inRd rfl | omega | exact ⟨by omega, by omega⟩ | exact ho_inR hWfC hWfT (by assumption) | exact (dq (x := x3) (by omega)).1) rfl) 105 (A 91 3).toNat (by first | assumption | exact inRd rfl | omega | exact ⟨by omega, by omega⟩ | exact ho_inR hWfC hWfT (by assumption) | exact (dq (x := x3) (by omega)).1) rfl) 106 (A 91 3).toNat (by first | assumption | exact inRd rfl | omega | exact ⟨by omega, by omega⟩ | exact ho_inR hWfC hWfT (by assumption) | exact (dq (x := x3) (by omega)).1) rfl) 107 (A 91 3).toNat (by first | assumption | exact inRd rfl | omega | exact ⟨by omega, by omega⟩ | exact ho_inR hWfC hWfT (by assumption) | exact (dq (x := x3) (by omega)).1) rfl) 108 (A 91 3).toNat (by first | assumption | exact inRd rfl | omega | exact ⟨by omega, by omega⟩ | exact ho_inR hWfC hWfT (by assumption) | exact (dq (x := x3) (by omega)).1) rfl) 109 (A 91 3).toNat (by first | assumption | exact inRd rfl | omega | exact ⟨by omega, by omega⟩ | exact ho_inR hWfC hWfT (by assumption) | exact (dq (x := x3) (by omega)).1) rfl) 110 0 (by first | assumption | exact inRd rfl | omega | exact ⟨by omega, by omega⟩ | exact ho_inR hWfC hWfT (by assumption) | exact (dq (x := x3) (by omega)).1) rfl) 91 3 (by first | assumption | exact inRd rfl | omega | exact ⟨by omega, by omega⟩ | exact ho_inR hWfC hWfT (by assumption) | exact (dq (x := x3) (by omega)).1) rfl)
            · rw [if_neg c78] at ho
              have hh : inR (hoS A x2 (Int.tdiv x3 100)) := ho_inR hWfC hWfT (by assumption)
              refine l216 (I0 := I) (d := d + 26) hWfA hWfB (by assumption) rx1 rx2 rx3 hh ((q77_1)) (fun q => ?_) (fun q => ?_) (A 91 1).toNat 0 (by omega)
              · rw [if_pos q] at ho
                rw [ho] at hK
                exact fun I1 h1 h2 => rqI_of (hK I1 (FM.trans (FM.trans (FM.refl _) (Fr.FM q77_0 rfl)) h1) h2)
              · rw [if_neg q] at ho
                rw [ho] at hK
                exact rqI_of (hK _ (FM.trans (FM.refl _) (Fr.FM q77_0 rfl)) (q77_1))
        · rw [if_neg c75] at ho
          rw [ho] at hK
          exact hK _ (FM.refl _) (hR)
      · rw [if_neg c74] at ho
        rw [ho] at hK
        exact hK _ (FM.refl _) (hR)
  · rw [if_neg c70] at ho
    rw [ho] at hK
    exact hK _ (FM.refl _) (hR)
