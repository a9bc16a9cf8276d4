set_option maxRecDepth 4000 in
theorem e15 {d L : Nat} {I : Nat → Nat → Int32} {R : Nat → Nat → Option Nat} {S : List (Nat × Nat)} {K : Int32 → mM → Prop} {A : aS} (hC : RC R S I A) {x1 : Int} {x2 : Int} {x3 : Int} {x4 : Int} {x5 : Int} (hE : inR x1 ∧ (inR (A 91 1 - 1) ∧ (((0 ≤ x1 ∧ x1 ≤ A 91 1 - 1) → inR x2 ∧ (((0 ≤ x2 ∧ x2 ≤ 2) → inR x4 ∧ (((0 ≤ x4 ∧ x4 ≤ 799) → inR x5 ∧ (((0 ≤ x5 ∧ x5 ≤ 799) → ((x5 < x4) → K (oI (-1)) (bd L I R S)) ∧ (¬ (x5 < x4) → ((x2 = 0) → inR x3 ∧ (((0 ≤ x3 ∧ x3 ≤ 5) → (0 ≤ 3 + x2 ∧ 3 + x2 < 7) ∧ (((A 110 (3 + x2).toNat < ld I 1 (3 + x2).toNat) → CallI (d + 28) 91 [.ref 31, .int (oI (3 + x2)), .int (oI x1), .int (oI (A 91 0)), .int (oI x4), .int (oI x5), .int (oI x3)] (bd L (u2 I 8 9 (oI (ld I 8 9 + 1))) R S) (fun y s => ∃ (y27 : Int) (I26 : mI), y = oI y27 ∧ s = bd L I26 R S ∧ inR y27 ∧ (K (oI y27) (bd L I26 R S)))) ∧ (¬ (A 110 (3 + x2).toNat < ld I 1 (3 + x2).toNat) → K (oI (-1)) (bd L I R S)))) ∧ (¬ (0 ≤ x3 ∧ x3 ≤ 5) → K (oI (-1)) (bd L I R S)))) ∧ (¬ (x2 = 0) → (0 ≤ 3 + x2 ∧ 3 + x2 < 7) ∧ (((A 110 (3 + x2).toNat < ld I 1 (3 + x2).toNat) → ((x2 = 1) → WfA A ∧ (WfC A ∧ (WfP A ∧ ((0 ≤ x1 ∧ x1 < A 91 1) ∧ ((0 ≤ x4 ∧ x4 ≤ 799) ∧ (((¬ fsS A (hfE A x1 x4) (Int.tdiv x4 100) 9 (-1) = -1) → ∀ (I39 : mI), (Fr [60, 61, 68, 69] [(59, 13), (59, 14), (59, 15)] I I39) → CallI (d + 28) 91 [.ref 31, .int (oI (3 + x2)), .int (oI x1), .int (oI (A 91 0)), .int (oI x4), .int (oI x5), .int (oI 0)] (bd L (u2 I39 8 9 (oI (ld I39 8 9 + 1))) R S) (fun y s => ∃ (y45 : Int) (I44 : mI), y = oI y45 ∧ s = bd L I44 R S ∧ inR y45 ∧ (K (oI y45) (bd L I44 R S)))) ∧ ((fsS A (hfE A x1 x4) (Int.tdiv x4 100) 9 (-1) = -1) → ∀ (I39 : mI), (Fr [60, 61, 68, 69] [(59, 13), (59, 14), (59, 15)] I I39) → K (oI (-2)) (bd L I39 R S)))))))) ∧ (¬ (x2 = 1) → CallI (d + 28) 91 [.ref 31, .int (oI (3 + x2)), .int (oI x1), .int (oI (A 91 0)), .int (oI x4), .int (oI x5), .int (oI 0)] (bd L (u2 I 8 9 (oI (ld I 8 9 + 1))) R S) (fun y s => ∃ (y49 : Int) (I48 : mI), y = oI y49 ∧ s = bd L I48 R S ∧ inR y49 ∧ (K (oI y49) (bd L I48 R S))))) ∧ (¬ (A 110 (3 + x2).toNat < ld I 1 (3 + x2).toNat) → K (oI (-1)) (bd L I R S)))))) ∧ (¬ (0 ≤ x5 ∧ x5 ≤ 799) → K (oI (-1)) (bd L I R S)))) ∧ (¬ (0 ≤ x4 ∧ x4 ≤ 799) → K (oI (-1)) (bd L I R S)))) ∧ (¬ (0 ≤ x2 ∧ x2 ≤ 2) → K (oI (-1)) (bd L I R S)))) ∧ (¬ (0 ≤ x1 ∧ x1 ≤ A 91 1 - 1) → K (oI (-1)) (bd L I R S))))) : CallI (d + 29) 15 [.ref 8, .int (oI x1), .int (oI x2), .int (oI x3), .int (oI x4), .int (oI x5)] (bd L I R S) K := by
  refine cI_of (ls := [.ref 8, .int (oI x1), .int (oI x2), .int (oI x3), .int (oI x4), .int (oI x5)]) rfl ?_
  refine xG gb15.1 ?_
  refine s6 (p := 8) rfl ?_
  refine s4 (x := x1) rfl ?_
  refine sI rc7 rfl (Nat.le_of_ble_eq_true rfl) ?_
  refine cI_of (ls := [.ref 8, .int (oI x1)]) rfl ?_
  refine xG gb7 ?_
  refine s4 (x := x1) rfl ?_
  refine s0 ?_
  refine s6 (p := 8) rfl ?_
  refine s51 sh8 (by decide) (by decide) rf8_1 ?_
  refine s50 (v := A 91 1) sh21 (by decide) (by decide) (rdC hC.1 rfl) ?_
  refine s0 ?_
  refine s17 ?_
  obtain ⟨g1, hE⟩ := hE
  obtain ⟨g2, hE⟩ := hE
  refine sI rc3 rfl (Nat.le_of_ble_eq_true rfl) ?_
  refine k3 g1 (inRd rfl) g2 (fun c3 => ?_) (fun c3 => ?_)
  · replace hE := hE.1 c3
    refine s84 (by decide) ?_
    refine rqI_of ?_
    refine s67 (inRd rfl) (fun c4 => absurd c4 (by decide)) (fun _ => ?_)
    refine s4 (x := x2) rfl ?_
    refine s0 ?_
    refine s0 ?_
    obtain ⟨g5, hE⟩ := hE
    refine sI rc3 rfl (Nat.le_of_ble_eq_true rfl) ?_
    refine k3 g5 (inRd rfl) (inRd rfl) (fun c6 => ?_) (fun c6 => ?_)
    · replace hE := hE.1 c6
      refine s67 (inRd rfl) (fun c7 => absurd c7 (by decide)) (fun _ => ?_)
      refine s4 (x := x4) rfl ?_
      refine s4 (x := x5) rfl ?_
      refine sI rc12 rfl (Nat.le_of_ble_eq_true rfl) ?_
      refine cI_of (ls := [.int (oI x4), .int (oI x5)]) rfl ?_
      refine xG gb12.1 ?_
      refine s4 (x := x4) rfl ?_
      refine sI rc13 rfl (Nat.le_of_ble_eq_true rfl) ?_
      refine cI_of (ls := [.int (oI x4)]) rfl ?_
      refine xG gb13 ?_
      refine s4 (x := x4) rfl ?_
      refine s0 ?_
      refine s0 ?_
      obtain ⟨g8, hE⟩ := hE
      refine sI rc3 rfl (Nat.le_of_ble_eq_true rfl) ?_
      refine k3 g8 (inRd rfl) (inRd rfl) (fun c9 => ?_) (fun c9 => ?_)
      · replace hE := hE.1 c9
        refine s84 (by decide) ?_
        refine rqI_of ?_
        refine s67 (inRd rfl) (fun c10 => absurd c10 (by decide)) (fun _ => ?_)
        refine s4 (x := x5) rfl ?_
        refine sI rc13 rfl (Nat.le_of_ble_eq_true rfl) ?_
        refine cI_of (ls := [.int (oI x5)]) rfl ?_
        refine xG gb13 ?_
        refine s4 (x := x5) rfl ?_
        refine s0 ?_
        refine s0 ?_
        obtain ⟨g11, hE⟩ := hE
        refine sI rc3 rfl (Nat.le_of_ble_eq_true rfl) ?_
        refine k3 g11 (inRd rfl) (inRd rfl) (fun c12 => ?_) (fun c12 => ?_)
        · replace hE := hE.1 c12
          refine s84 (by decide) ?_
          refine rqI_of ?_
          refine s67 (inRd rfl) (fun c13 => absurd c13 (by decide)) (fun _ => ?_)
          refine s4 (x := x4) rfl ?_
          refine s4 (x := x5) rfl ?_
          refine s65 g8 g11 (fun c14 => ?_) (fun c14 => ?_)
          · replace hE := hE.1 c14
            refine xG gb12.2.1 ?_
            refine s0 ?_
            refine s79 ?_
            refine xG gb12.2.2 ?_
            refine s84 (by decide) ?_
            refine rqI_of ?_
            refine s68 (inRd rfl) (fun _ => ?_) (fun c15 => absurd (by decide) c15)
            refine s79 ?_
            refine xG gb15.2.1 ?_
            refine s0 ?_
            refine s80 ?_
            exact rqI_of hE
          · replace hE := hE.2 c14
            refine s0 ?_
            refine s60 ?_
            refine xG gb12.2.2 ?_
            refine s84 (by decide) ?_
            refine rqI_of ?_
            refine s68 (inRd rfl) (fun c16 => absurd c16 (by decide)) (fun _ => ?_)
            refine xG gb15.2.2.1 ?_
            refine s4 (x := x2) rfl ?_
            refine s68 g5 (fun c17 => ?_) (fun c17 => ?_)
            · replace hE := hE.1 c17
              refine s4 (x := x3) rfl ?_
              refine s0 ?_
              refine s0 ?_
              obtain ⟨g18, hE⟩ := hE
              refine sI rc3 rfl (Nat.le_of_ble_eq_true rfl) ?_
              refine k3 g18 (inRd rfl) (inRd rfl) (fun c19 => ?_) (fun c19 => ?_)
              · replace hE := hE.1 c19
                refine s67 (inRd rfl) (fun c20 => absurd c20 (by decide)) (fun _ => ?_)
                refine s79 ?_
                refine xG gb15.2.2.2.1 ?_
                refine s6 (p := 8) rfl ?_
                refine s51 sh8 (by decide) (by decide) rf8_2 ?_
                refine s0 ?_
                refine s4 (x := x2) rfl ?_
                refine s16 ?_
                refine sI rc86 rfl (Nat.le_of_ble_eq_true rfl) ?_
                refine cI_of (ls := [.ref 31, .int (oI (3 + x2))]) rfl ?_
                refine xG gb86.1 ?_
                refine s6 (p := 31) rfl ?_
                refine s51 sh31 (by decide) (by decide) rf31_10 ?_
                refine s4 (x := 3 + x2) rfl ?_
                obtain ⟨g21, hE⟩ := hE
                refine s40 (v := A 110 (3 + x2).toNat) sh42 g21 rfl (rdC hC.1 rfl) ?_
                refine s55 ?_
                refine s4 (x := 3 + x2) rfl ?_
                refine s40 (v := ld I 1 (3 + x2).toNat) sh1 g21 rfl (oI_ld _ _ _) ?_
                refine s63 (inC hC.1 (a := 42) (k := (3 + x2).toNat) rfl) (ld_inR _ _ _) (fun c22 => ?_) (fun c22 => ?_)
                · replace hE := hE.1 c22
                  refine xG gb86.2.1 ?_
                  refine s0 ?_
                  refine s79 ?_
                  refine xG gb86.2.2 ?_
                  refine s84 (by decide) ?_
                  refine rqI_of ?_
                  refine s67 (inRd rfl) (fun _ => ?_) (fun c23 => absurd (by decide) c23)
                  refine xG gb15.2.2.2.2.2.1 ?_
                  refine s4 (x := x2) rfl ?_
                  refine s0 ?_
                  refine s62 g5 (inRd rfl) (fun c24 => absurd c24 (fun h => absurd (h.symm.trans c17) (by decide))) (fun _ => ?_)
                  refine xG gb15.2.2.2.2.2.2.1 ?_
                  refine s6 (p := 8) rfl ?_
                  refine s13r ?_
                  refine s50 (v := ld I 8 9) sh8 (by decide) (by decide) (oI_ld _ _ _) ?_
                  refine s0 ?_
                  refine s16 ?_
                  refine s52 sh8 (by decide) (by decide) ?_
                  refine s6 (p := 8) rfl ?_
                  refine s51 sh8 (by decide) (by decide) rf8_2 ?_
                  refine s0 ?_
                  refine s4 (x := x2) rfl ?_
                  refine s16 ?_
                  refine s4 (x := x1) rfl ?_
                  refine s6 (p := 8) rfl ?_
                  refine s50 (v := A 91 0) sh8 (by decide) (by decide) ((v2_nk (by decide)).trans (rdC hC.1 rfl)) ?_
                  refine s4 (x := x4) rfl ?_
                  refine s4 (x := x5) rfl ?_
                  refine s4 (x := x2) rfl ?_
                  refine s68 g5 (fun _ => ?_) (fun c25 => absurd c17 c25)
                  refine s4 (x := x3) rfl ?_
                  refine s60 ?_
                  refine xG gb15.2.2.2.2.2.2.2.2 ?_
                  refine sI rc91 rfl (Nat.le_of_ble_eq_true rfl) ?_
                  refine CallI.mono hE ?_
                  rintro _ _ ⟨y27, I26, rfl, rfl, gy27, hE⟩
                  refine s80 ?_
                  exact rqI_of hE
                · replace hE := hE.2 c22
                  refine s0 ?_
                  refine s60 ?_
                  refine xG gb86.2.2 ?_
                  refine s84 (by decide) ?_
                  refine rqI_of ?_
                  refine s67 (inRd rfl) (fun c28 => absurd c28 (by decide)) (fun _ => ?_)
                  refine s79 ?_
                  refine xG gb15.2.2.2.2.1 ?_
                  refine s0 ?_
                  refine s80 ?_
                  exact rqI_of hE
              · replace hE := hE.2 c19
                refine s67 (inRd rfl) (fun _ => ?_) (fun c29 => absurd (by decide) c29)
                refine xG gb15.2.2.2.2.1 ?_
                refine s0 ?_
                refine s80 ?_
                exact rqI_of hE
            · replace hE := hE.2 c17
              refine xG gb15.2.2.2.1 ?_
              refine s6 (p := 8) rfl ?_
              refine s51 sh8 (by decide) (by decide) rf8_2 ?_
              refine s0 ?_
              refine s4 (x := x2) rfl ?_
              refine s16 ?_
              refine sI rc86 rfl (Nat.le_of_ble_eq_true rfl) ?_
              refine cI_of (ls := [.ref 31, .int (oI (3 + x2))]) rfl ?_
              refine xG gb86.1 ?_
              refine s6 (p := 31) rfl ?_
              refine s51 sh31 (by decide) (by decide) rf31_10 ?_
              refine s4 (x := 3 + x2) rfl ?_
              obtain ⟨g30, hE⟩ := hE
              refine s40 (v := A 110 (3 + x2).toNat) sh42 g30 rfl (rdC hC.1 rfl) ?_
              refine s55 ?_
              refine s4 (x := 3 + x2) rfl ?_
              refine s40 (v := ld I 1 (3 + x2).toNat) sh1 g30 rfl (oI_ld _ _ _) ?_
              refine s63 (inC hC.1 (a := 42) (k := (3 + x2).toNat) rfl) (ld_inR _ _ _) (fun c31 => ?_) (fun c31 => ?_)
              · replace hE := hE.1 c31
                refine xG gb86.2.1 ?_
                refine s0 ?_
                refine s79 ?_
                refine xG gb86.2.2 ?_
                refine s84 (by decide) ?_
                refine rqI_of ?_
                refine s67 (inRd rfl) (fun _ => ?_) (fun c32 => absurd (by decide) c32)
                refine xG gb15.2.2.2.2.2.1 ?_
                refine s4 (x := x2) rfl ?_
                refine s0 ?_
                refine s62 g5 (inRd rfl) (fun c33 => ?_) (fun c33 => ?_)
                · replace hE := hE.1 c33
                  refine s6 (p := 8) rfl ?_
                  refine s51 sh8 (by decide) (by decide) rf8_4 ?_
                  refine s4 (x := x1) rfl ?_
                  refine s4 (x := x4) rfl ?_
                  refine s6 (p := 8) rfl ?_
                  refine s50 (v := A 91 0) sh8 (by decide) (by decide) (rdC hC.1 rfl) ?_
                  obtain ⟨g34, hE⟩ := hE
                  obtain ⟨g35, hE⟩ := hE
                  obtain ⟨g36, hE⟩ := hE
                  obtain ⟨g37, hE⟩ := hE
                  obtain ⟨g38, hE⟩ := hE
                  refine sI rc141 rfl (Nat.le_of_ble_eq_true rfl) ?_
                  refine k141 hC g34 g35 g36 g37 g38 (fun c40 I39 q41 => ?_) (fun c40 I39 q41 => ?_)
                  · replace hE := hE.1 c40 I39 q41
                    refine s68 (inRd rfl) (fun c42 => absurd c42 (by decide)) (fun _ => ?_)
                    refine xG gb15.2.2.2.2.2.2.1 ?_
                    refine s6 (p := 8) rfl ?_
                    refine s13r ?_
                    refine s50 (v := ld I39 8 9) sh8 (by decide) (by decide) (oI_ld _ _ _) ?_
                    refine s0 ?_
                    refine s16 ?_
                    refine s52 sh8 (by decide) (by decide) ?_
                    refine s6 (p := 8) rfl ?_
                    refine s51 sh8 (by decide) (by decide) rf8_2 ?_
                    refine s0 ?_
                    refine s4 (x := x2) rfl ?_
                    refine s16 ?_
                    refine s4 (x := x1) rfl ?_
                    refine s6 (p := 8) rfl ?_
                    refine s50 (v := A 91 0) sh8 (by decide) (by decide) ((v2_nk (by decide)).trans (rdC (RC.fr hC q41 rfl).1 rfl)) ?_
                    refine s4 (x := x4) rfl ?_
                    refine s4 (x := x5) rfl ?_
                    refine s4 (x := x2) rfl ?_
                    refine s68 g5 (fun c43 => absurd c43 c17) (fun _ => ?_)
                    refine xG gb15.2.2.2.2.2.2.2.1 ?_
                    refine s0 ?_
                    refine s79 ?_
                    refine xG gb15.2.2.2.2.2.2.2.2 ?_
                    refine sI rc91 rfl (Nat.le_of_ble_eq_true rfl) ?_
                    refine CallI.mono hE ?_
                    rintro _ _ ⟨y45, I44, rfl, rfl, gy45, hE⟩
                    refine s80 ?_
                    exact rqI_of hE
                  · replace hE := hE.2 c40 I39 q41
                    refine s68 (inRd rfl) (fun _ => ?_) (fun c46 => absurd (by decide) c46)
                    refine s0 ?_
                    refine s80 ?_
                    exact rqI_of hE
                · replace hE := hE.2 c33
                  refine xG gb15.2.2.2.2.2.2.1 ?_
                  refine s6 (p := 8) rfl ?_
                  refine s13r ?_
                  refine s50 (v := ld I 8 9) sh8 (by decide) (by decide) (oI_ld _ _ _) ?_
                  refine s0 ?_
                  refine s16 ?_
                  refine s52 sh8 (by decide) (by decide) ?_
                  refine s6 (p := 8) rfl ?_
                  refine s51 sh8 (by decide) (by decide) rf8_2 ?_
                  refine s0 ?_
                  refine s4 (x := x2) rfl ?_
                  refine s16 ?_
                  refine s4 (x := x1) rfl ?_
                  refine s6 (p := 8) rfl ?_
                  refine s50 (v := A 91 0) sh8 (by decide) (by decide) ((v2_nk (by decide)).trans (rdC hC.1 rfl)) ?_
                  refine s4 (x := x4) rfl ?_
                  refine s4 (x := x5) rfl ?_
                  refine s4 (x := x2) rfl ?_
                  refine s68 g5 (fun c47 => absurd c47 c17) (fun _ => ?_)
                  refine xG gb15.2.2.2.2.2.2.2.1 ?_
                  refine s0 ?_
                  refine s79 ?_
                  refine xG gb15.2.2.2.2.2.2.2.2 ?_
                  refine sI rc91 rfl (Nat.le_of_ble_eq_true rfl) ?_
                  refine CallI.mono hE ?_
                  rintro _ _ ⟨y49, I48, rfl, rfl, gy49, hE⟩
                  refine s80 ?_
                  exact rqI_of hE
              · replace hE := hE.2 c31
                refine s0 ?_
                refine s60 ?_
                refine xG gb86.2.2 ?_
                refine s84 (by decide) ?_
                refine rqI_of ?_
                refine s67 (inRd rfl) (fun c50 => absurd c50 (by decide)) (fun _ => ?_)
                refine s79 ?_
                refine xG gb15.2.2.2.2.1 ?_
                refine s0 ?_
                refine s80 ?_
                exact rqI_of hE
        · replace hE := hE.2 c12
          refine s84 (by decide) ?_
          refine rqI_of ?_
          refine s67 (inRd rfl) (fun _ => ?_) (fun c51 => absurd (by decide) c51)
          refine xG gb12.2.1 ?_
          refine s0 ?_
          refine s79 ?_
          refine xG gb12.2.2 ?_
          refine s84 (by decide) ?_
          refine rqI_of ?_
          refine s68 (inRd rfl) (fun _ => ?_) (fun c52 => absurd (by decide) c52)
          refine s79 ?_
          refine xG gb15.2.1 ?_
          refine s0 ?_
          refine s80 ?_
          exact rqI_of hE
      · replace hE := hE.2 c9
        refine s84 (by decide) ?_
        refine rqI_of ?_
        refine s67 (inRd rfl) (fun _ => ?_) (fun c53 => absurd (by decide) c53)
        refine xG gb12.2.1 ?_
        refine s0 ?_
        refine s79 ?_
        refine xG gb12.2.2 ?_
        refine s84 (by decide) ?_
        refine rqI_of ?_
        refine s68 (inRd rfl) (fun _ => ?_) (fun c54 => absurd (by decide) c54)
        refine s79 ?_
        refine xG gb15.2.1 ?_
        refine s0 ?_
        refine s80 ?_
        exact rqI_of hE
    · replace hE := hE.2 c6
      refine s67 (inRd rfl) (fun _ => ?_) (fun c55 => absurd (by decide) c55)
      refine xG gb15.2.1 ?_
      refine s0 ?_
      refine s80 ?_
      exact rqI_of hE
  · replace hE := hE.2 c3
    refine s84 (by decide) ?_
    refine rqI_of ?_
    refine s67 (inRd rfl) (fun _ => ?_) (fun c56 => absurd (by decide) c56)
    refine xG gb15.2.1 ?_
    refine s0 ?_
    refine s80 ?_
    exact rqI_of hE
set_option maxRecDepth 4000 in
theorem q15 {d L n : Nat} {I : mI} {R : mR} {S : mSh} {A : aS} {K : Int32 → mM → Prop} {x1 : Int} {x2 : Int} {x3 : Int} {x4 : Int} {x5 : Int} (hX : CX R S I A n) (hW : WF A) (hn : n ≤ 100000) (rx1 : inR x1) (rx2 : inR x2) (rx3 : inR x3) (rx4 : inR x4) (rx5 : inR x5) (hK : ∀ I1, FK I I1 → CX R S I1 (o232 A x1 x2 x3 x4 x5).2 (n + 1) → K (oI (o232 A x1 x2 x3 x4 x5).1) (bd L I1 R S)) : CallI (d + 29) 15 [.ref 8, .int (oI x1), .int (oI x2), .int (oI x3), .int (oI x4), .int (oI x5)] (bd L I R S) K := by
  have hC := hX.1
  have hA := hW.1
  have w0 := hA.1
  have w1 := hA.2.1
  have w2 := hA.2.2.1
  have w3 : 0 ≤ A 91 3 ∧ A 91 3 ≤ 850 := hA.2.2.2.1
  have ty := today_year hA
  have c9 := hX.2.2.2.1
  have hB := hW.2.2.2.2.2.1
  obtain ⟨bs, b0, b1, b2, b3, b4, b5, b6⟩ := hB
  have hB := hW.2.2.2.2.2.1
  have m0 : ld I 1 0 = 150 := hC.2.2.2.2.2.1.1 0 (by decide)
  have m1 : ld I 1 1 = 30 := hC.2.2.2.2.2.1.1 1 (by decide)
  have m2 : ld I 1 2 = 300 := hC.2.2.2.2.2.1.1 2 (by decide)
  have m3 : ld I 1 3 = 60 := hC.2.2.2.2.2.1.1 3 (by decide)
  have m4 : ld I 1 4 = 30 := hC.2.2.2.2.2.1.1 4 (by decide)
  have m5 : ld I 1 5 = 30 := hC.2.2.2.2.2.1.1 5 (by decide)
  have m6 : ld I 1 6 = 250 := hC.2.2.2.2.2.1.1 6 (by decide)
  have y3 : x2 = 0 → A 110 (3 + x2).toNat = A 110 3 ∧ ld I 1 (3 + x2).toNat = 60 := fun h => by subst h; exact ⟨rfl, m3⟩
  have y4 : x2 = 1 → A 110 (3 + x2).toNat = A 110 4 ∧ ld I 1 (3 + x2).toNat = 30 := fun h => by subst h; exact ⟨rfl, m4⟩
  have y5 : x2 = 2 → A 110 (3 + x2).toNat = A 110 5 ∧ ld I 1 (3 + x2).toNat = 30 := fun h => by subst h; exact ⟨rfl, m5⟩
  refine e15 (d := d) hC ?_
  refine ⟨by first | assumption | exact inRd rfl | omega | exact ⟨by omega, by omega⟩ | (unfold WnOk; omega) | exact hW.1 | exact hW.2.1 | exact hW.2.2.1 | exact hW.2.2.2.1 | exact hW.2.2.2.2.1 | exact hW.2.2.2.2.2.2.2.2.2.1 | exact hW.2.2.2.2.2.2.2.2.2.2.1 | (constructor <;> omega), ?_⟩
  refine ⟨by first | assumption | exact inRd rfl | omega | exact ⟨by omega, by omega⟩ | (unfold WnOk; omega) | exact hW.1 | exact hW.2.1 | exact hW.2.2.1 | exact hW.2.2.2.1 | exact hW.2.2.2.2.1 | exact hW.2.2.2.2.2.2.2.2.2.1 | exact hW.2.2.2.2.2.2.2.2.2.2.1 | (constructor <;> omega), ?_⟩
  refine ⟨fun c1 => ?_, fun c1 => ?_⟩
  · refine ⟨by first | assumption | exact inRd rfl | omega | exact ⟨by omega, by omega⟩ | (unfold WnOk; omega) | exact hW.1 | exact hW.2.1 | exact hW.2.2.1 | exact hW.2.2.2.1 | exact hW.2.2.2.2.1 | exact hW.2.2.2.2.2.2.2.2.2.1 | exact hW.2.2.2.2.2.2.2.2.2.2.1 | (constructor <;> omega), ?_⟩
    refine ⟨fun c2 => ?_, fun c2 => ?_⟩
    · refine ⟨by first | assumption | exact inRd rfl | omega | exact ⟨by omega, by omega⟩ | (unfold WnOk; omega) | exact hW.1 | exact hW.2.1 | exact hW.2.2.1 | exact hW.2.2.2.1 | exact hW.2.2.2.2.1 | exact hW.2.2.2.2.2.2.2.2.2.1 | exact hW.2.2.2.2.2.2.2.2.2.2.1 | (constructor <;> omega), ?_⟩
      refine ⟨fun c3 => ?_, fun c3 => ?_⟩
      · refine ⟨by first | assumption | exact inRd rfl | omega | exact ⟨by omega, by omega⟩ | (unfold WnOk; omega) | exact hW.1 | exact hW.2.1 | exact hW.2.2.1 | exact hW.2.2.2.1 | exact hW.2.2.2.2.1 | exact hW.2.2.2.2.2.2.2.2.2.1 | exact hW.2.2.2.2.2.2.2.2.2.2.1 | (constructor <;> omega), ?_⟩
        refine ⟨fun c4 => ?_, fun c4 => ?_⟩
        · refine ⟨fun c5 => ?_, fun c5 => ?_⟩
          · have ho : o232 A x1 x2 x3 x4 x5 = ((-1), A) := by
              first | (unfold o232; rw [if_neg (by assumption)]) | (unfold o232; (repeat' split) <;> (first | (exfalso; omega) | with_reducible rfl))
            rw [ho] at hK
            exact hK I (FK.refl I) (hX.up (Nat.le_succ n))
          · refine ⟨fun c6 => ?_, fun c6 => ?_⟩
            · refine ⟨by first | assumption | exact inRd rfl | omega | exact ⟨by omega, by omega⟩ | (unfold WnOk; omega) | exact hW.1 | exact hW.2.1 | exact hW.2.2.1 | exact hW.2.2.2.1 | exact hW.2.2.2.2.1 | exact hW.2.2.2.2.2.2.2.2.2.1 | exact hW.2.2.2.2.2.2.2.2.2.2.1 | (constructor <;> omega), ?_⟩
              refine ⟨fun c7 => ?_, fun c7 => ?_⟩
              · refine ⟨by first | assumption | exact inRd rfl | omega | exact ⟨by omega, by omega⟩ | (unfold WnOk; omega) | exact hW.1 | exact hW.2.1 | exact hW.2.2.1 | exact hW.2.2.2.1 | exact hW.2.2.2.2.1 | exact hW.2.2.2.2.2.2.2.2.2.1 | exact hW.2.2.2.2.2.2.2.2.2.2.1 | (constructor <;> omega), ?_⟩
                refine ⟨fun c8 => ?_, fun c8 => ?_⟩
                · have hC0 : RC R S (u2 I 8 9 (oI (ld I 8 9 + 1))) A := RC.scr hC rfl
                  refine k91 (d := d + 27) (kd := 3 + x2) (w := x1) (a := x4) (b := x5) (c := x3) (fr := x4) (vl := x3) hC0 hA hB (by omega) (by omega) (by omega) ((if_neg (by omega)).symm) (by rw [if_neg (by omega), if_pos (by omega)]) ⟨by omega, by omega⟩ ⟨by omega, by omega⟩ ⟨by omega, by omega⟩ (fun I1 q1 r1 => ?_)
                  refine ⟨A 91 3, I1, rfl, rfl, ⟨by omega, by omega⟩, ?_⟩
                  have ho : o232 A x1 x2 x3 x4 x5 = (A 91 3, ntS A (3 + x2) (x1) (x4) (x5) (x3) (3 + x2 : Int).toNat) := by
                    unfold o232
                    rw [if_pos (by omega), if_pos (by omega), if_pos (by omega), if_pos (by omega), if_pos (by omega), if_pos (by omega), if_neg (by omega), if_neg (by omega), if_neg (by omega)]
                    try unfold ntS
                    exact Prod.ext (by dsimp only; omega) (by rfl)
                  rw [ho] at hK
                  have h8 : ld (u2 I 8 9 (oI (ld I 8 9 + 1))) 8 9 = ld I 8 9 + 1 := by
                    rw [ld_w ⟨by omega, by omega⟩, if_pos rfl]
                  exact hK I1 ((FK.wr (FK.refl I) (by decide)).trans (Fr.FK q1 rfl)) (CX.bump hX r1 (fun a k ha => ((q1.mm rfl).1 a k ha).trans ((MmK.wr (MmK.refl _) rfl) a k ha)) ((q1.ld rfl).trans h8))
                · have ho : o232 A x1 x2 x3 x4 x5 = ((-1), A) := by
                    first | (unfold o232; rw [if_neg (by assumption)]) | (unfold o232; (repeat' split) <;> (first | (exfalso; omega) | with_reducible rfl))
                  rw [ho] at hK
                  exact hK I (FK.refl I) (hX.up (Nat.le_succ n))
              · have ho : o232 A x1 x2 x3 x4 x5 = ((-1), A) := by
                  first | (unfold o232; rw [if_neg (by assumption)]) | (unfold o232; (repeat' split) <;> (first | (exfalso; omega) | with_reducible rfl))
                rw [ho] at hK
                exact hK I (FK.refl I) (hX.up (Nat.le_succ n))
            · refine ⟨by first | assumption | exact inRd rfl | omega | exact ⟨by omega, by omega⟩ | (unfold WnOk; omega) | exact hW.1 | exact hW.2.1 | exact hW.2.2.1 | exact hW.2.2.2.1 | exact hW.2.2.2.2.1 | exact hW.2.2.2.2.2.2.2.2.2.1 | exact hW.2.2.2.2.2.2.2.2.2.2.1 | (constructor <;> omega), ?_⟩
              refine ⟨fun c9 => ?_, fun c9 => ?_⟩
              · refine ⟨fun c10 => ?_, fun c10 => ?_⟩
                · refine ⟨by first | assumption | exact inRd rfl | omega | exact ⟨by omega, by omega⟩ | (unfold WnOk; omega) | exact hW.1 | exact hW.2.1 | exact hW.2.2.1 | exact hW.2.2.2.1 | exact hW.2.2.2.2.1 | exact hW.2.2.2.2.2.2.2.2.2.1 | exact hW.2.2.2.2.2.2.2.2.2.2.1 | (constructor <;> omega), ?_⟩
                  refine ⟨by first | assumption | exact inRd rfl | omega | exact ⟨by omega, by omega⟩ | (unfold WnOk; omega) | exact hW.1 | exact hW.2.1 | exact hW.2.2.1 | exact hW.2.2.2.1 | exact hW.2.2.2.2.1 | exact hW.2.2.2.2.2.2.2.2.2.1 | exact hW.2.2.2.2.2.2.2.2.2.2.1 | (constructor <;> omega), ?_⟩
                  refine ⟨by first | assumption | exact inRd rfl | omega | exact ⟨by omega, by omega⟩ | (unfold WnOk; omega) | exact hW.1 | exact hW.2.1 | exact hW.2.2.1 | exact hW.2.2.2.1 | exact hW.2.2.2.2.1 | exact hW.2.2.2.2.2.2.2.2.2.1 | exact hW.2.2.2.2.2.2.2.2.2.2.1 | (constructor <;> omega), ?_⟩
                  refine ⟨by first | assumption | exact inRd rfl | omega | exact ⟨by omega, by omega⟩ | (unfold WnOk; omega) | exact hW.1 | exact hW.2.1 | exact hW.2.2.1 | exact hW.2.2.2.1 | exact hW.2.2.2.2.1 | exact hW.2.2.2.2.2.2.2.2.2.1 | exact hW.2.2.2.2.2.2.2.2.2.2.1 | (constructor <;> omega), ?_⟩
                  refine ⟨by first | assumption | exact inRd rfl | omega | exact ⟨by omega, by omega⟩ | (unfold WnOk; omega) | exact hW.1 | exact hW.2.1 | exact hW.2.2.1 | exact hW.2.2.2.1 | exact hW.2.2.2.2.1 | exact hW.2.2.2.2.2.2.2.2.2.1 | exact hW.2.2.2.2.2.2.2.2.2.2.1 | (constructor <;> omega), ?_⟩
                  refine ⟨fun c11 => ?_, fun c11 => ?_⟩
                  · intro I2 q2
                    have hX2 := hX.fr q2 rfl rfl
                    have c9b := hX2.2.2.2.1
                    have hC0 : RC R S (u2 I2 8 9 (oI (ld I2 8 9 + 1))) A := RC.scr hX2.1 rfl
                    refine k91 (d := d + 27) (kd := 3 + x2) (w := x1) (a := x4) (b := x5) (c := x3) (fr := x4) (vl := 0) hC0 hA hB (by omega) (by omega) (by omega) ((if_neg (by omega)).symm) (by rw [if_neg (by omega), if_neg (by omega)]) ⟨by omega, by omega⟩ ⟨by omega, by omega⟩ ⟨by omega, by omega⟩ (fun I1 q1 r1 => ?_)
                    refine ⟨A 91 3, I1, rfl, rfl, ⟨by omega, by omega⟩, ?_⟩
                    have ho : o232 A x1 x2 x3 x4 x5 = (A 91 3, ntS A (3 + x2) (x1) (x4) (x5) (x3) (3 + x2 : Int).toNat) := by
                      unfold o232
                      rw [show putE (putE (putE zE 0 (max 0 (Int.tdiv (x4 - (A 92 x1.toNat)) 100))) 1 (stS A x1 (Int.tdiv x4 100) (A 91 0))) 3 (Int.tdiv x4 100) = hfE A x1 x4 from rfl]
                      rw [if_pos (by omega), if_pos (by omega), if_neg (by omega), if_pos (by omega), if_pos (by omega), if_neg (by omega), if_neg (by omega), if_pos (by omega), if_neg (by assumption)]
                      try unfold ntS
                      exact Prod.ext (by dsimp only; omega) (by rfl)
                    rw [ho] at hK
                    have h8 : ld (u2 I2 8 9 (oI (ld I2 8 9 + 1))) 8 9 = ld I2 8 9 + 1 := by
                      rw [ld_w ⟨by omega, by omega⟩, if_pos rfl]
                    exact hK I1 ((FK.wr (Fr.FK q2 rfl) (by decide)).trans (Fr.FK q1 rfl)) (CX.bump hX2 r1 (fun a k ha => ((q1.mm rfl).1 a k ha).trans ((MmK.wr (MmK.refl _) rfl) a k ha)) ((q1.ld rfl).trans h8))
                  · intro I2 q2
                    have ho : o232 A x1 x2 x3 x4 x5 = (-2, A) := by
                      unfold o232
                      rw [show putE (putE (putE zE 0 (max 0 (Int.tdiv (x4 - (A 92 x1.toNat)) 100))) 1 (stS A x1 (Int.tdiv x4 100) (A 91 0))) 3 (Int.tdiv x4 100) = hfE A x1 x4 from rfl]
                      rw [if_pos (by omega), if_pos (by omega), if_neg (by omega), if_pos (by omega), if_pos (by omega), if_neg (by omega), if_neg (by omega), if_pos (by omega), if_pos (by assumption)]
                    rw [ho] at hK
                    exact hK I2 (Fr.FK q2 rfl) (CX.up (hX.fr q2 rfl rfl) (Nat.le_succ n))
                · have hC0 : RC R S (u2 I 8 9 (oI (ld I 8 9 + 1))) A := RC.scr hC rfl
                  refine k91 (d := d + 27) (kd := 3 + x2) (w := x1) (a := x4) (b := x5) (c := x3) (fr := x4) (vl := 0) hC0 hA hB (by omega) (by omega) (by omega) ((if_neg (by omega)).symm) (by rw [if_neg (by omega), if_neg (by omega)]) ⟨by omega, by omega⟩ ⟨by omega, by omega⟩ ⟨by omega, by omega⟩ (fun I1 q1 r1 => ?_)
                  refine ⟨A 91 3, I1, rfl, rfl, ⟨by omega, by omega⟩, ?_⟩
                  have ho : o232 A x1 x2 x3 x4 x5 = (A 91 3, ntS A (3 + x2) (x1) (x4) (x5) (x3) (3 + x2 : Int).toNat) := by
                    unfold o232
                    rw [if_pos (by omega), if_pos (by omega), if_neg (by omega), if_pos (by omega), if_pos (by omega), if_neg (by omega), if_neg (by omega), if_neg (by omega)]
                    try unfold ntS
                    exact Prod.ext (by dsimp only; omega) (by rfl)
                  rw [ho] at hK
                  have h8 : ld (u2 I 8 9 (oI (ld I 8 9 + 1))) 8 9 = ld I 8 9 + 1 := by
                    rw [ld_w ⟨by omega, by omega⟩, if_pos rfl]
                  exact hK I1 ((FK.wr (FK.refl I) (by decide)).trans (Fr.FK q1 rfl)) (CX.bump hX r1 (fun a k ha => ((q1.mm rfl).1 a k ha).trans ((MmK.wr (MmK.refl _) rfl) a k ha)) ((q1.ld rfl).trans h8))
              · have ho : o232 A x1 x2 x3 x4 x5 = ((-1), A) := by
                  first | (unfold o232; rw [if_neg (by assumption)]) | (unfold o232; (repeat' split) <;> (first | (exfalso; omega) | with_reducible rfl))
                rw [ho] at hK
                exact hK I (FK.refl I) (hX.up (Nat.le_succ n))
        · have ho : o232 A x1 x2 x3 x4 x5 = ((-1), A) := by
            first | (unfold o232; rw [if_neg (by assumption)]) | (unfold o232; (repeat' split) <;> (first | (exfalso; omega) | with_reducible rfl))
          rw [ho] at hK
          exact hK I (FK.refl I) (hX.up (Nat.le_succ n))
      · have ho : o232 A x1 x2 x3 x4 x5 = ((-1), A) := by
          first | (unfold o232; rw [if_neg (by assumption)]) | (unfold o232; (repeat' split) <;> (first | (exfalso; omega) | with_reducible rfl))
        rw [ho] at hK
        exact hK I (FK.refl I) (hX.up (Nat.le_succ n))
    · have ho : o232 A x1 x2 x3 x4 x5 = ((-1), A) := by
        first | (unfold o232; rw [if_neg (by assumption)]) | (unfold o232; (repeat' split) <;> (first | (exfalso; omega) | with_reducible rfl))
      rw [ho] at hK
      exact hK I (FK.refl I) (hX.up (Nat.le_succ n))
  · have ho : o232 A x1 x2 x3 x4 x5 = ((-1), A) := by
      first | (unfold o232; rw [if_neg (by assumption)]) | (unfold o232; (repeat' split) <;> (first | (exfalso; omega) | with_reducible rfl))
    rw [ho] at hK
    exact hK I (FK.refl I) (hX.up (Nat.le_succ n))
def h10_2 (d L : Nat) (I : Nat → Nat → Int32) (R : Nat → Nat → Option Nat) (S : List (Nat × Nat)) (Q : Option Value → mM → Prop) (x1 : Int) (x2 : Int) (x3 : Int) (x4 : Int) (x5 : Int) (x6 : Int) : Prop := Wp d (gb 10 2) [.ref 8, .int (oI x1), .int (oI x2), .int (oI x3), .int (oI x4), .int (oI x5), .int (oI x6)] [] (bd L I R S) Q
set_option maxRecDepth 4000 in
theorem e10_2 {d L : Nat} {I : Nat → Nat → Int32} {R : Nat → Nat → Option Nat} {S : List (Nat × Nat)} {Q : Option Value → mM → Prop} {A : aS} (hC : RC R S I A) {x1 : Int} {x2 : Int} {x3 : Int} {x4 : Int} {x5 : Int} {x6 : Int} (hE : inR x6 ∧ (((x6 < A 91 1) → WfA A ∧ ((0 ≤ x6 ∧ x6 < A 91 1) ∧ (∃ f5 t6 n7 : Int, WnOk f5 t6 n7 ∧ WnP I f5 t6 n7 ∧ (∀ (I10 : mI), (Fr [62, 63, 64, 65, 66, 67] [(59, 16)] I I10) → (ld I10 59 16 = x6) → (LyP A I10 x6 f5 t6 n7) → inR x2 ∧ (((x6 = x2) → h10_2 (d + 4) L I10 R S Q x1 x2 x3 x4 x5 (x6 + 1)) ∧ (¬ (x6 = x2) → inR x3 ∧ (((ld I10 59 13 ≤ x3 ∧ x3 ≤ ld I10 59 14) → (0 ≤ x3 - (ld I10 59 13) ∧ x3 - (ld I10 59 13) < 100) ∧ (inR x1 ∧ (((ld I10 62 (x3 - (ld I10 59 13)).toNat = x1) → h10_2 (d + 4) L I10 R S Q x1 x2 x3 x4 (x5 + 1) (x6 + 1)) ∧ (¬ (ld I10 62 (x3 - (ld I10 59 13)).toNat = x1) → h10_2 (d + 4) L I10 R S Q x1 x2 x3 x4 x5 (x6 + 1))))) ∧ (¬ (ld I10 59 13 ≤ x3 ∧ x3 ≤ ld I10 59 14) → inR x1 ∧ ((((-1) = x1) → h10_2 (d + 4) L I10 R S Q x1 x2 x3 x4 (x5 + 1) (x6 + 1)) ∧ (¬ ((-1) = x1) → h10_2 (d + 4) L I10 R S Q x1 x2 x3 x4 x5 (x6 + 1))))))))))) ∧ (¬ (x6 < A 91 1) → inR x5 ∧ (inR x4 ∧ (((x5 < x4) → Q (some (.int (oI 0))) (bd L I R S)) ∧ (¬ (x5 < x4) → Q (some (.int (oI 1))) (bd L I R S))))))) : h10_2 (d + 4) L I R S Q x1 x2 x3 x4 x5 x6 := by
  unfold h10_2
  refine xG gb10.2.2.1 ?_
  refine s4 (x := x6) rfl ?_
  refine s6 (p := 8) rfl ?_
  refine s51 sh8 (by decide) (by decide) rf8_1 ?_
  refine s50 (v := A 91 1) sh21 (by decide) (by decide) (rdC hC.1 rfl) ?_
  obtain ⟨g1, hE⟩ := hE
  refine s64 g1 (inC hC.1 (a := 21) (k := 9) rfl) (fun c2 => ?_) (fun c2 => ?_)
  · replace hE := hE.1 c2
    refine s6 (p := 8) rfl ?_
    refine s51 sh8 (by decide) (by decide) rf8_4 ?_
    refine s4 (x := x6) rfl ?_
    obtain ⟨g3, hE⟩ := hE
    obtain ⟨g4, hE⟩ := hE
    obtain ⟨f5, t6, n7, k8, k9, hE⟩ := hE
    refine sV rc136 rfl (Nat.le_of_ble_eq_true rfl) ?_
    refine k136 hC k8 k9 g3 g4 (fun I10 q11 q12 q13 => ?_)
    replace hE := hE I10 q11 q12 q13
    refine s4 (x := x6) rfl ?_
    refine s4 (x := x2) rfl ?_
    obtain ⟨g14, hE⟩ := hE
    refine s61 g1 g14 (fun c15 => ?_) (fun c15 => ?_)
    · replace hE := hE.1 c15
      refine xG gb10.2.2.2.1 ?_
      refine s10 (x := x6) (ls' := [.ref 8, .int (oI x1), .int (oI x2), .int (oI x3), .int (oI x4), .int (oI x5), .int (oI (x6 + 1))]) rfl rfl ?_
      refine s60 ?_
      exact hE
    · replace hE := hE.2 c15
      refine s6 (p := 8) rfl ?_
      refine s51 sh8 (by decide) (by decide) rf8_4 ?_
      refine s4 (x := x3) rfl ?_
      refine sI rc140 rfl (Nat.le_of_ble_eq_true rfl) ?_
      refine cI_of (ls := [.ref 59, .int (oI x3)]) rfl ?_
      refine xG gb140.1 ?_
      refine s4 (x := x3) rfl ?_
      refine s6 (p := 59) rfl ?_
      refine s50 (v := ld I10 59 13) sh59 (by decide) (by decide) (oI_ld _ _ _) ?_
      refine s6 (p := 59) rfl ?_
      refine s50 (v := ld I10 59 14) sh59 (by decide) (by decide) (oI_ld _ _ _) ?_
      obtain ⟨g16, hE⟩ := hE
      refine sI rc3 rfl (Nat.le_of_ble_eq_true rfl) ?_
      refine k3 g16 (ld_inR _ _ _) (ld_inR _ _ _) (fun c17 => ?_) (fun c17 => ?_)
      · replace hE := hE.1 c17
        refine s67 (inRd rfl) (fun c18 => absurd c18 (by decide)) (fun _ => ?_)
        refine s6 (p := 59) rfl ?_
        refine s51 sh59 (by decide) (by decide) rf59_5 ?_
        refine s4 (x := x3) rfl ?_
        refine s6 (p := 59) rfl ?_
        refine s50 (v := ld I10 59 13) sh59 (by decide) (by decide) (oI_ld _ _ _) ?_
        refine s17 ?_
        obtain ⟨g19, hE⟩ := hE
        refine s40 (v := ld I10 62 (x3 - (ld I10 59 13)).toNat) sh62 g19 rfl (oI_ld _ _ _) ?_
        refine s60 ?_
        refine xG gb140.2.2 ?_
        refine s80 ?_
        refine rqI_of ?_
        refine s4 (x := x1) rfl ?_
        obtain ⟨g20, hE⟩ := hE
        refine s62 (ld_inR _ _ _) g20 (fun c21 => ?_) (fun c21 => ?_)
        · replace hE := hE.1 c21
          refine s10 (x := x5) (ls' := [.ref 8, .int (oI x1), .int (oI x2), .int (oI x3), .int (oI x4), .int (oI (x5 + 1)), .int (oI x6)]) rfl rfl ?_
          refine s79 ?_
          refine xG gb10.2.2.2.1 ?_
          refine s10 (x := x6) (ls' := [.ref 8, .int (oI x1), .int (oI x2), .int (oI x3), .int (oI x4), .int (oI (x5 + 1)), .int (oI (x6 + 1))]) rfl rfl ?_
          refine s60 ?_
          exact hE
        · replace hE := hE.2 c21
          refine xG gb10.2.2.2.1 ?_
          refine s10 (x := x6) (ls' := [.ref 8, .int (oI x1), .int (oI x2), .int (oI x3), .int (oI x4), .int (oI x5), .int (oI (x6 + 1))]) rfl rfl ?_
          refine s60 ?_
          exact hE
      · replace hE := hE.2 c17
        refine s67 (inRd rfl) (fun _ => ?_) (fun c22 => absurd (by decide) c22)
        refine xG gb140.2.1 ?_
        refine s0 ?_
        refine s79 ?_
        refine xG gb140.2.2 ?_
        refine s80 ?_
        refine rqI_of ?_
        refine s4 (x := x1) rfl ?_
        obtain ⟨g23, hE⟩ := hE
        refine s62 (inRd rfl) g23 (fun c24 => ?_) (fun c24 => ?_)
        · replace hE := hE.1 c24
          refine s10 (x := x5) (ls' := [.ref 8, .int (oI x1), .int (oI x2), .int (oI x3), .int (oI x4), .int (oI (x5 + 1)), .int (oI x6)]) rfl rfl ?_
          refine s79 ?_
          refine xG gb10.2.2.2.1 ?_
          refine s10 (x := x6) (ls' := [.ref 8, .int (oI x1), .int (oI x2), .int (oI x3), .int (oI x4), .int (oI (x5 + 1)), .int (oI (x6 + 1))]) rfl rfl ?_
          refine s60 ?_
          exact hE
        · replace hE := hE.2 c24
          refine xG gb10.2.2.2.1 ?_
          refine s10 (x := x6) (ls' := [.ref 8, .int (oI x1), .int (oI x2), .int (oI x3), .int (oI x4), .int (oI x5), .int (oI (x6 + 1))]) rfl rfl ?_
          refine s60 ?_
          exact hE
  · replace hE := hE.2 c2
    refine xG gb10.2.2.2.2.1 ?_
    refine s4 (x := x5) rfl ?_
    refine s4 (x := x4) rfl ?_
    obtain ⟨g25, hE⟩ := hE
    obtain ⟨g26, hE⟩ := hE
    refine s63 g25 g26 (fun c27 => ?_) (fun c27 => ?_)
    · replace hE := hE.1 c27
      refine xG gb10.2.2.2.2.2.1 ?_
      refine s0 ?_
      refine s79 ?_
      refine xG gb10.2.2.2.2.2.2 ?_
      refine s84 (by decide) ?_
      exact hE
    · replace hE := hE.2 c27
      refine s0 ?_
      refine s60 ?_
      refine xG gb10.2.2.2.2.2.2 ?_
      refine s84 (by decide) ?_
      exact hE
set_option maxRecDepth 4000 in
theorem e10 {d L : Nat} {I : Nat → Nat → Int32} {R : Nat → Nat → Option Nat} {S : List (Nat × Nat)} {K : Int32 → mM → Prop} {A : aS} (hC : RC R S I A) {x1 : Int} {x2 : Int} {x3 : Int} (hE : inR x3 ∧ (WfC A ∧ ((0 ≤ Int.tdiv x3 100 ∧ Int.tdiv x3 100 ≤ 7) ∧ (inR (tlS A zE (Int.tdiv x3 100) 138 1 0) ∧ (((tlS A zE (Int.tdiv x3 100) 138 1 0 = 0) → K (oI 0) (bd L I R S)) ∧ (¬ (tlS A zE (Int.tdiv x3 100) 138 1 0 = 0) → (0 ≤ x1 ∧ x1 < 6) ∧ (0 < tlS A zE (Int.tdiv x3 100) 138 1 0 ∧ (inR (Int.tdiv (A 100 x1.toNat) (tlS A zE (Int.tdiv x3 100) 138 1 0)) ∧ (((Int.tdiv (A 100 x1.toNat) (tlS A zE (Int.tdiv x3 100) 138 1 0) = (-1)) → K (oI 0) (bd L I R S)) ∧ (¬ (Int.tdiv (A 100 x1.toNat) (tlS A zE (Int.tdiv x3 100) 138 1 0) = (-1)) → WfA A ∧ (WnOk x3 x3 (A 91 0) ∧ (∀ (I13 : mI), (Fr [68] [(59, 13), (59, 14), (59, 15)] I I13) → (WnP I13 x3 x3 (A 91 0)) → (ShP A I13 x3 x3 (A 91 0)) → h10_2 (d + 26) L I13 R S (rqI K) x1 x2 x3 (Int.tdiv (A 100 x1.toNat) (tlS A zE (Int.tdiv x3 100) 138 1 0)) 0 0)))))))))))) : CallI (d + 26) 10 [.ref 8, .int (oI x1), .int (oI x2), .int (oI x3)] (bd L I R S) K := by
  refine cI_of (ls := [.ref 8, .int (oI x1), .int (oI x2), .int (oI x3), mUn, mUn, mUn]) rfl ?_
  refine xG gb10.1 ?_
  refine s6 (p := 8) rfl ?_
  refine s51 sh8 (by decide) (by decide) rf8_0 ?_
  refine s4 (x := x1) rfl ?_
  refine s6 (p := 8) rfl ?_
  refine s51 sh8 (by decide) (by decide) rf8_3 ?_
  refine s4 (x := x3) rfl ?_
  refine s0 ?_
  obtain ⟨g1, hE⟩ := hE
  refine s19 g1 ⟨(inRd rfl), by decide⟩ ?_
  refine s0 ?_
  refine s0 ?_
  refine s0 ?_
  refine sI rc96 rfl (Nat.le_of_ble_eq_true rfl) ?_
  refine cI_of (ls := [.ref 43, .int (oI (Int.tdiv x3 100)), .int (oI 138), .int (oI 1), .int (oI 0)]) rfl ?_
  refine xG gb96 ?_
  refine s6 (p := 43) rfl ?_
  refine s4 (x := Int.tdiv x3 100) rfl ?_
  refine s4 (x := 138) rfl ?_
  refine s4 (x := 1) rfl ?_
  refine s6 (p := 43) rfl ?_
  refine s51 sh43 (by decide) (by decide) rf43_13 ?_
  refine s4 (x := 0) rfl ?_
  obtain ⟨g2, hE⟩ := hE
  obtain ⟨g3, hE⟩ := hE
  refine sI rc97 rfl (Nat.le_of_ble_eq_true rfl) ?_
  refine k97a58 hC g2 (RC.zE hC) g3 (⟨by decide, by decide⟩ : (130 : Int) ≤ 138 ∧ (138 : Int) ≤ 144) (inRd rfl) ?_
  refine s80 ?_
  refine rqI_of ?_
  refine sI rc65 rfl (Nat.le_of_ble_eq_true rfl) ?_
  refine cI_of (ls := [.ref 9, .int (oI x1), .int (oI (tlS A zE (Int.tdiv x3 100) 138 1 0))]) rfl ?_
  refine xG gb65.1 ?_
  refine s4 (x := tlS A zE (Int.tdiv x3 100) 138 1 0) rfl ?_
  obtain ⟨g4, hE⟩ := hE
  refine s68 g4 (fun c5 => ?_) (fun c5 => ?_)
  · replace hE := hE.1 c5
    refine s0 ?_
    refine s60 ?_
    refine xG gb65.2.2 ?_
    refine s80 ?_
    refine rqI_of ?_
    refine s7 (ls' := [.ref 8, .int (oI x1), .int (oI x2), .int (oI x3), .int (oI (-1)), mUn, mUn]) (Nat.le_of_ble_eq_true rfl) rfl ?_
    refine s4 (x := (-1)) rfl ?_
    refine s0 ?_
    refine s62 (inRd rfl) (inRd rfl) (fun _ => ?_) (fun c6 => absurd (by decide) c6)
    refine s0 ?_
    refine s84 (by decide) ?_
    exact rqI_of hE
  · replace hE := hE.2 c5
    refine xG gb65.2.1 ?_
    refine s6 (p := 9) rfl ?_
    refine s51 sh9 (by decide) (by decide) rf9_6 ?_
    refine s4 (x := x1) rfl ?_
    obtain ⟨g7, hE⟩ := hE
    refine s40 (v := A 100 x1.toNat) sh16 g7 rfl (rdC hC.1 rfl) ?_
    refine s4 (x := tlS A zE (Int.tdiv x3 100) 138 1 0) rfl ?_
    obtain ⟨g8, hE⟩ := hE
    refine s19 (inC hC.1 (a := 16) (k := x1.toNat) rfl) ⟨g4, g8⟩ ?_
    refine s79 ?_
    refine xG gb65.2.2 ?_
    refine s80 ?_
    refine rqI_of ?_
    refine s7 (ls' := [.ref 8, .int (oI x1), .int (oI x2), .int (oI x3), .int (oI (Int.tdiv (A 100 x1.toNat) (tlS A zE (Int.tdiv x3 100) 138 1 0))), mUn, mUn]) (Nat.le_of_ble_eq_true rfl) rfl ?_
    refine s4 (x := Int.tdiv (A 100 x1.toNat) (tlS A zE (Int.tdiv x3 100) 138 1 0)) rfl ?_
    refine s0 ?_
    obtain ⟨g9, hE⟩ := hE
    refine s62 g9 (inRd rfl) (fun c10 => ?_) (fun c10 => ?_)
    · replace hE := hE.1 c10
      refine s0 ?_
      refine s84 (by decide) ?_
      exact rqI_of hE
    · replace hE := hE.2 c10
      refine xG gb10.2.1 ?_
      refine s6 (p := 8) rfl ?_
      refine s51 sh8 (by decide) (by decide) rf8_4 ?_
      refine s4 (x := x3) rfl ?_
      refine s4 (x := x3) rfl ?_
      refine s6 (p := 8) rfl ?_
      refine s50 (v := A 91 0) sh8 (by decide) (by decide) (rdC hC.1 rfl) ?_
      obtain ⟨g11, hE⟩ := hE
      obtain ⟨g12, hE⟩ := hE
      refine sV rc134 rfl (Nat.le_of_ble_eq_true rfl) ?_
      refine k134 hC g11 g12 (fun I13 q14 q15 q16 => ?_)
      replace hE := hE I13 q14 q15 q16
      refine s0 ?_
      refine s7 (ls' := [.ref 8, .int (oI x1), .int (oI x2), .int (oI x3), .int (oI (Int.tdiv (A 100 x1.toNat) (tlS A zE (Int.tdiv x3 100) 138 1 0))), .int (oI 0), mUn]) (Nat.le_of_ble_eq_true rfl) rfl ?_
      refine s0 ?_
      refine s7 (ls' := [.ref 8, .int (oI x1), .int (oI x2), .int (oI x3), .int (oI (Int.tdiv (A 100 x1.toNat) (tlS A zE (Int.tdiv x3 100) 138 1 0))), .int (oI 0), .int (oI 0)]) (Nat.le_of_ble_eq_true rfl) rfl ?_
      refine s79 ?_
      exact hE
section
variable {d L : Nat} {I I0 : mI} {R : mR} {S : mSh} {Q : Option Value → mM → Prop} {A : aS} {c day known kind half year subj code : Int}
theorem l10 {sc ch room : Int} (hA : WfA A) (hs : inR sc) (hch : inR ch) (hr : inR room) (hd : 0 ≤ day ∧ day ≤ 799) (hQ : ∀ I1, Fr [62, 63, 64, 65, 66, 67] [(59, 16)] I0 I1 → RC R S I1 A → Q (some (.int (oI (if roL A ch sc day (A 91 1).toNat < room then 0 else 1)))) (bd L I1 R S)) : ∀ (n k : Nat) (I : mI), k + n = (A 91 1).toNat → Fr [62, 63, 64, 65, 66, 67] [(59, 16)] I0 I → RC R S I A → WnP I day day (A 91 0) → h10_2 (d + 4) L I R S Q sc ch day room (roL A ch sc day k) k := by
  have w0 := hA.1
  have w1 := hA.2.1
  intro n
  induction n with
  | zero =>
    intro k I hk hf hC hwn
    obtain rfl : k = (A 91 1).toNat := by omega
    have ri := roL_in (A := A) (c := ch) (s := sc) (day := day) (A 91 1).toNat
    have q := hQ I hf hC
    refine e10_2 (d := d) hC ⟨⟨by omega, by omega⟩, fun c => by exfalso; omega, fun _ => ⟨⟨by omega, by omega⟩, hr, fun c => ?_, fun c => ?_⟩⟩
    · rw [if_pos c] at q; exact q
    · rw [if_neg c] at q; exact q
  | succ n ih =>
    intro k I hk hf hC hwn
    have er : roL A ch sc day (k + 1) = roL A ch sc day k + (if (k : Int) = ch then 0 else if onS A k day (A 91 0) = sc then 1 else 0) := rfl
    refine e10_2 (d := d) hC ⟨⟨by omega, by omega⟩, fun c => ⟨hA, by omega, day, day, A 91 0, by unfold WnOk; omega, hwn, ?_⟩, fun c => by exfalso; omega⟩
    intro I2 q2 p2 l2
    have wn2 := hwn.fr q2 rfl rfl rfl
    have q9 := ih (k + 1) I2 (by omega) (hf.trans (q2.sub rfl rfl)) (hC.fr q2 rfl) wn2
    rw [show ((k + 1 : Nat) : Int) = (k : Int) + 1 by omega, er] at q9
    have l := (l2 0 (by omega)).1
    rw [show day + ((0 : Nat) : Int) = day by omega] at l
    rw [wn2.1, wn2.2.1, show (day - day).toNat = 0 by omega, l]
    refine ⟨hch, fun c2 => ?_, fun c2 => ⟨⟨by omega, by omega⟩, fun _ => ⟨by omega, hs, fun c3 => ?_, fun c3 => ?_⟩, fun c3 => by exfalso; omega⟩⟩
    · rw [if_pos c2, Int.add_zero] at q9; exact q9
    · rw [if_neg c2, if_pos c3] at q9; exact q9
    · rw [if_neg c2, if_neg c3, Int.add_zero] at q9; exact q9
theorem k10 {sc ch : Int} {K : Int32 → mM → Prop} (hC : RC R S I A) (hA : WfA A) (hWC : WfC A) (hT : WfT A) (hs : 0 ≤ sc ∧ sc < A 91 2) (hch : inR ch) (hd : 0 ≤ day ∧ day ≤ 799) (hK : ∀ I1, Fr [62, 63, 64, 65, 66, 67, 68] [(59, 13), (59, 14), (59, 15), (59, 16)] I I1 → RC R S I1 A → K (oI (if hoS A sc (Int.tdiv day 100) = -1 then 0 else if roL A ch sc day (A 91 1).toNat < hoS A sc (Int.tdiv day 100) then 0 else 1)) (bd L I1 R S)) : CallI (d + 26) 10 [.ref 8, .int (oI sc), .int (oI ch), .int (oI day)] (bd L I R S) K := by
  have w0 := hA.1
  have w2 := hA.2.2.1
  have t10 : tlS A zE (Int.tdiv day 100) 138 1 0 = lnS A (Int.tdiv day 100) 10 0 := tlS_ln (b := 10) hWC (by omega)
  have t10i := tlS_in (A := A) (ow := 0) (h := zE) (y := Int.tdiv day 100) (kd := 138) (mask := 1) hWC
  have hy : 0 ≤ Int.tdiv day 100 ∧ Int.tdiv day 100 ≤ 7 := ⟨Int.tdiv_nonneg (by omega) (by omega), by rw [Int.tdiv_eq_ediv_of_nonneg (by omega)]; omega⟩
  have cu := hT.2.2.2.2 sc.toNat (by omega)
  have eh : hoS A sc (Int.tdiv day 100) = if tlS A zE (Int.tdiv day 100) 138 1 0 = 0 then -1 else Int.tdiv (A 100 sc.toNat) (tlS A zE (Int.tdiv day 100) 138 1 0) := by rw [t10]; rfl
  have rt : inR (tlS A zE (Int.tdiv day 100) 138 1 0) := ⟨by omega, by omega⟩
  refine e10 (d := d) hC ⟨⟨by omega, by omega⟩, hWC, hy, rt, fun c => ?_, fun c => ⟨by omega, by omega, ?_⟩⟩
  · have q := hK I (Fr.refl _ _ _) hC
    rw [eh, if_pos c, if_pos rfl] at q
    exact q
  · rw [if_neg c] at eh
    have hp : 0 ≤ hoS A sc (Int.tdiv day 100) ∧ hoS A sc (Int.tdiv day 100) ≤ 9999 := by
      rw [eh]
      refine ⟨Int.tdiv_nonneg cu.1 (by omega), ?_⟩
      rw [Int.tdiv_eq_ediv_of_nonneg cu.1]
      exact Int.le_trans (Int.ediv_le_self _ cu.1) cu.2
    rw [← eh]
    refine ⟨⟨by omega, by omega⟩, fun c2 => by exfalso; omega, fun c2 => ⟨hA, by unfold WnOk; omega, ?_⟩⟩
    intro I1 q1 wn1 sh1
    refine l10 (d := d + 22) (I0 := I1) hA ⟨by omega, by omega⟩ hch ⟨by omega, by omega⟩ hd (fun I2 q2 r2 => ?_) (A 91 1).toNat 0 I1 (by omega) (Fr.refl _ _ _) (hC.fr q1 rfl) wn1
    have q := hK I2 ((q1.sub rfl rfl).trans (q2.sub rfl rfl)) r2
    rw [if_neg c2] at q
    exact rqI_of q
end
set_option maxRecDepth 4000 in
theorem e8 {d L : Nat} {I : Nat → Nat → Int32} {R : Nat → Nat → Option Nat} {S : List (Nat × Nat)} {K : Int32 → mM → Prop} {A : aS} (hC : RC R S I A) {x1 : Int} {x2 : Int} {x3 : Int} (hE : inR x1 ∧ (inR (A 91 1 - 1) ∧ (((0 ≤ x1 ∧ x1 ≤ A 91 1 - 1) → inR x2 ∧ (((x2 = (-1)) → inR x3 ∧ (((0 ≤ x3 ∧ x3 ≤ A 91 0) → ((A 110 0 < ld I 1 0) → CallI (d + 1) 91 [.ref 31, .int (oI 0), .int (oI x1), .int (oI (A 91 0)), .int (oI x3), .int (oI x3), .int (oI x2)] (bd L (u2 I 8 9 (oI (ld I 8 9 + 1))) R S) (fun y s => ∃ (y15 : Int) (I14 : mI), y = oI y15 ∧ s = bd L I14 R S ∧ inR y15 ∧ (K (oI y15) (bd L I14 R S)))) ∧ (¬ (A 110 0 < ld I 1 0) → K (oI (-2)) (bd L I R S))) ∧ (¬ (0 ≤ x3 ∧ x3 ≤ A 91 0) → K (oI (-1)) (bd L I R S)))) ∧ (¬ (x2 = (-1)) → inR (A 91 2 - 1) ∧ (((0 ≤ x2 ∧ x2 ≤ A 91 2 - 1) → inR x3 ∧ (((0 ≤ x3 ∧ x3 ≤ A 91 0) → ((A 110 0 < ld I 1 0) → CallI (d + 1) 10 [.ref 8, .int (oI x2), .int (oI x1), .int (oI x3)] (bd L I R S) (fun y s => ∃ (y31 : Int) (I29 : mI), y = oI y31 ∧ s = bd L I29 R S ∧ inR y31 ∧ RC R S I29 A ∧ (((y31 = 0) → CallI (d + 1) 91 [.ref 31, .int (oI 0), .int (oI x1), .int (oI (A 91 0)), .int (oI x3), .int (oI x3), .int (oI x2)] (bd L (u2 I29 8 9 (oI (ld I29 8 9 + 1))) R S) (fun y s => ∃ (y34 : Int) (I33 : mI), y = oI y34 ∧ s = bd L I33 R S ∧ inR y34 ∧ (K (oI y34) (bd L I33 R S)))) ∧ (¬ (y31 = 0) → K (oI (-3)) (bd L I29 R S))))) ∧ (¬ (A 110 0 < ld I 1 0) → K (oI (-2)) (bd L I R S))) ∧ (¬ (0 ≤ x3 ∧ x3 ≤ A 91 0) → K (oI (-1)) (bd L I R S)))) ∧ (¬ (0 ≤ x2 ∧ x2 ≤ A 91 2 - 1) → K (oI (-1)) (bd L I R S)))))) ∧ (¬ (0 ≤ x1 ∧ x1 ≤ A 91 1 - 1) → K (oI (-1)) (bd L I R S))))) : CallI (d + 2) 8 [.ref 8, .int (oI x1), .int (oI x2), .int (oI x3)] (bd L I R S) K := by
  refine cI_of (ls := [.ref 8, .int (oI x1), .int (oI x2), .int (oI x3), mUn]) rfl ?_
  refine xG gb8.1 ?_
  refine s6 (p := 8) rfl ?_
  refine s4 (x := x1) rfl ?_
  refine sI rc7 rfl (Nat.le_of_ble_eq_true rfl) ?_
  refine cI_of (ls := [.ref 8, .int (oI x1)]) rfl ?_
  refine xG gb7 ?_
  refine s4 (x := x1) rfl ?_
  refine s0 ?_
  refine s6 (p := 8) rfl ?_
  refine s51 sh8 (by decide) (by decide) rf8_1 ?_
  refine s50 (v := A 91 1) sh21 (by decide) (by decide) (rdC hC.1 rfl) ?_
  refine s0 ?_
  refine s17 ?_
  obtain ⟨g1, hE⟩ := hE
  obtain ⟨g2, hE⟩ := hE
  refine sI rc3 rfl (Nat.le_of_ble_eq_true rfl) ?_
  refine k3 g1 (inRd rfl) g2 (fun c3 => ?_) (fun c3 => ?_)
  · replace hE := hE.1 c3
    refine s84 (by decide) ?_
    refine rqI_of ?_
    refine s67 (inRd rfl) (fun c4 => absurd c4 (by decide)) (fun _ => ?_)
    refine s4 (x := x2) rfl ?_
    refine s0 ?_
    obtain ⟨g5, hE⟩ := hE
    refine s61 g5 (inRd rfl) (fun c6 => ?_) (fun c6 => ?_)
    · replace hE := hE.1 c6
      refine xG gb8.2.1 ?_
      refine s4 (x := x3) rfl ?_
      refine s0 ?_
      refine s6 (p := 8) rfl ?_
      refine s50 (v := A 91 0) sh8 (by decide) (by decide) (rdC hC.1 rfl) ?_
      obtain ⟨g7, hE⟩ := hE
      refine sI rc3 rfl (Nat.le_of_ble_eq_true rfl) ?_
      refine k3 g7 (inRd rfl) (inC hC.1 (a := 8) (k := 8) rfl) (fun c8 => ?_) (fun c8 => ?_)
      · replace hE := hE.1 c8
        refine s67 (inRd rfl) (fun c9 => absurd c9 (by decide)) (fun _ => ?_)
        refine s0 ?_
        refine s60 ?_
        refine xG gb8.2.2.2.1 ?_
        refine s7 (ls' := [.ref 8, .int (oI x1), .int (oI x2), .int (oI x3), .int (oI 1)]) (Nat.le_of_ble_eq_true rfl) rfl ?_
        refine s4 (x := 1) rfl ?_
        refine s68 (inRd rfl) (fun c10 => absurd c10 (by decide)) (fun _ => ?_)
        refine xG gb8.2.2.2.2.1 ?_
        refine s6 (p := 8) rfl ?_
        refine s51 sh8 (by decide) (by decide) rf8_2 ?_
        refine s0 ?_
        refine sI rc86 rfl (Nat.le_of_ble_eq_true rfl) ?_
        refine cI_of (ls := [.ref 31, .int (oI 0)]) rfl ?_
        refine xG gb86.1 ?_
        refine s6 (p := 31) rfl ?_
        refine s51 sh31 (by decide) (by decide) rf31_10 ?_
        refine s4 (x := 0) rfl ?_
        refine s40 (v := A 110 0) sh42 (⟨by decide, by decide⟩ : (0 : Int) ≤ 0 ∧ (0 : Int) < 7) rfl (rdC hC.1 rfl) ?_
        refine s55 ?_
        refine s4 (x := 0) rfl ?_
        refine s40 (v := ld I 1 0) sh1 (⟨by decide, by decide⟩ : (0 : Int) ≤ 0 ∧ (0 : Int) < 7) rfl (oI_ld _ _ _) ?_
        refine s63 (inC hC.1 (a := 42) (k := 0) rfl) (ld_inR _ _ _) (fun c11 => ?_) (fun c11 => ?_)
        · replace hE := hE.1 c11
          refine xG gb86.2.1 ?_
          refine s0 ?_
          refine s79 ?_
          refine xG gb86.2.2 ?_
          refine s84 (by decide) ?_
          refine rqI_of ?_
          refine s67 (inRd rfl) (fun _ => ?_) (fun c12 => absurd (by decide) c12)
          refine xG gb8.2.2.2.2.2.1 ?_
          refine s4 (x := x2) rfl ?_
          refine s0 ?_
          refine s61 g5 (inRd rfl) (fun _ => ?_) (fun c13 => absurd c6 c13)
          refine xG gb8.2.2.2.2.2.2 ?_
          refine s6 (p := 8) rfl ?_
          refine s13r ?_
          refine s50 (v := ld I 8 9) sh8 (by decide) (by decide) (oI_ld _ _ _) ?_
          refine s0 ?_
          refine s16 ?_
          refine s52 sh8 (by decide) (by decide) ?_
          refine s6 (p := 8) rfl ?_
          refine s51 sh8 (by decide) (by decide) rf8_2 ?_
          refine s0 ?_
          refine s4 (x := x1) rfl ?_
          refine s6 (p := 8) rfl ?_
          refine s50 (v := A 91 0) sh8 (by decide) (by decide) ((v2_nk (by decide)).trans (rdC hC.1 rfl)) ?_
          refine s4 (x := x3) rfl ?_
          refine s4 (x := x3) rfl ?_
          refine s4 (x := x2) rfl ?_
          refine sI rc91 rfl (Nat.le_of_ble_eq_true rfl) ?_
          refine CallI.mono hE ?_
          rintro _ _ ⟨y15, I14, rfl, rfl, gy15, hE⟩
          refine s80 ?_
          exact rqI_of hE
        · replace hE := hE.2 c11
          refine s0 ?_
          refine s60 ?_
          refine xG gb86.2.2 ?_
          refine s84 (by decide) ?_
          refine rqI_of ?_
          refine s67 (inRd rfl) (fun c16 => absurd c16 (by decide)) (fun _ => ?_)
          refine s0 ?_
          refine s80 ?_
          exact rqI_of hE
      · replace hE := hE.2 c8
        refine s67 (inRd rfl) (fun _ => ?_) (fun c17 => absurd (by decide) c17)
        refine xG gb8.2.2.1 ?_
        refine s0 ?_
        refine s79 ?_
        refine xG gb8.2.2.2.1 ?_
        refine s7 (ls' := [.ref 8, .int (oI x1), .int (oI x2), .int (oI x3), .int (oI 0)]) (Nat.le_of_ble_eq_true rfl) rfl ?_
        refine s4 (x := 0) rfl ?_
        refine s68 (inRd rfl) (fun _ => ?_) (fun c18 => absurd (by decide) c18)
        refine s0 ?_
        refine s80 ?_
        exact rqI_of hE
    · replace hE := hE.2 c6
      refine s6 (p := 8) rfl ?_
      refine s4 (x := x2) rfl ?_
      refine sI rc9 rfl (Nat.le_of_ble_eq_true rfl) ?_
      refine cI_of (ls := [.ref 8, .int (oI x2)]) rfl ?_
      refine xG gb9 ?_
      refine s4 (x := x2) rfl ?_
      refine s0 ?_
      refine s6 (p := 8) rfl ?_
      refine s51 sh8 (by decide) (by decide) rf8_0 ?_
      refine s50 (v := A 91 2) sh9 (by decide) (by decide) (rdC hC.1 rfl) ?_
      refine s0 ?_
      refine s17 ?_
      obtain ⟨g19, hE⟩ := hE
      refine sI rc3 rfl (Nat.le_of_ble_eq_true rfl) ?_
      refine k3 g5 (inRd rfl) g19 (fun c20 => ?_) (fun c20 => ?_)
      · replace hE := hE.1 c20
        refine s84 (by decide) ?_
        refine rqI_of ?_
        refine s67 (inRd rfl) (fun c21 => absurd c21 (by decide)) (fun _ => ?_)
        refine s79 ?_
        refine xG gb8.2.1 ?_
        refine s4 (x := x3) rfl ?_
        refine s0 ?_
        refine s6 (p := 8) rfl ?_
        refine s50 (v := A 91 0) sh8 (by decide) (by decide) (rdC hC.1 rfl) ?_
        obtain ⟨g22, hE⟩ := hE
        refine sI rc3 rfl (Nat.le_of_ble_eq_true rfl) ?_
        refine k3 g22 (inRd rfl) (inC hC.1 (a := 8) (k := 8) rfl) (fun c23 => ?_) (fun c23 => ?_)
        · replace hE := hE.1 c23
          refine s67 (inRd rfl) (fun c24 => absurd c24 (by decide)) (fun _ => ?_)
          refine s0 ?_
          refine s60 ?_
          refine xG gb8.2.2.2.1 ?_
          refine s7 (ls' := [.ref 8, .int (oI x1), .int (oI x2), .int (oI x3), .int (oI 1)]) (Nat.le_of_ble_eq_true rfl) rfl ?_
          refine s4 (x := 1) rfl ?_
          refine s68 (inRd rfl) (fun c25 => absurd c25 (by decide)) (fun _ => ?_)
          refine xG gb8.2.2.2.2.1 ?_
          refine s6 (p := 8) rfl ?_
          refine s51 sh8 (by decide) (by decide) rf8_2 ?_
          refine s0 ?_
          refine sI rc86 rfl (Nat.le_of_ble_eq_true rfl) ?_
          refine cI_of (ls := [.ref 31, .int (oI 0)]) rfl ?_
          refine xG gb86.1 ?_
          refine s6 (p := 31) rfl ?_
          refine s51 sh31 (by decide) (by decide) rf31_10 ?_
          refine s4 (x := 0) rfl ?_
          refine s40 (v := A 110 0) sh42 (⟨by decide, by decide⟩ : (0 : Int) ≤ 0 ∧ (0 : Int) < 7) rfl (rdC hC.1 rfl) ?_
          refine s55 ?_
          refine s4 (x := 0) rfl ?_
          refine s40 (v := ld I 1 0) sh1 (⟨by decide, by decide⟩ : (0 : Int) ≤ 0 ∧ (0 : Int) < 7) rfl (oI_ld _ _ _) ?_
          refine s63 (inC hC.1 (a := 42) (k := 0) rfl) (ld_inR _ _ _) (fun c26 => ?_) (fun c26 => ?_)
          · replace hE := hE.1 c26
            refine xG gb86.2.1 ?_
            refine s0 ?_
            refine s79 ?_
            refine xG gb86.2.2 ?_
            refine s84 (by decide) ?_
            refine rqI_of ?_
            refine s67 (inRd rfl) (fun _ => ?_) (fun c27 => absurd (by decide) c27)
            refine xG gb8.2.2.2.2.2.1 ?_
            refine s4 (x := x2) rfl ?_
            refine s0 ?_
            refine s61 g5 (inRd rfl) (fun c28 => absurd c28 c6) (fun _ => ?_)
            refine s6 (p := 8) rfl ?_
            refine s4 (x := x2) rfl ?_
            refine s4 (x := x1) rfl ?_
            refine s4 (x := x3) rfl ?_
            refine sI rc10 rfl (Nat.le_of_ble_eq_true rfl) ?_
            refine CallI.mono hE ?_
            rintro _ _ ⟨y31, I29, rfl, rfl, gy31, q30, hE⟩
            refine s67 gy31 (fun c32 => ?_) (fun c32 => ?_)
            · replace hE := hE.1 c32
              refine xG gb8.2.2.2.2.2.2 ?_
              refine s6 (p := 8) rfl ?_
              refine s13r ?_
              refine s50 (v := ld I29 8 9) sh8 (by decide) (by decide) (oI_ld _ _ _) ?_
              refine s0 ?_
              refine s16 ?_
              refine s52 sh8 (by decide) (by decide) ?_
              refine s6 (p := 8) rfl ?_
              refine s51 sh8 (by decide) (by decide) rf8_2 ?_
              refine s0 ?_
              refine s4 (x := x1) rfl ?_
              refine s6 (p := 8) rfl ?_
              refine s50 (v := A 91 0) sh8 (by decide) (by decide) ((v2_nk (by decide)).trans (rdC q30.1 rfl)) ?_
              refine s4 (x := x3) rfl ?_
              refine s4 (x := x3) rfl ?_
              refine s4 (x := x2) rfl ?_
              refine sI rc91 rfl (Nat.le_of_ble_eq_true rfl) ?_
              refine CallI.mono hE ?_
              rintro _ _ ⟨y34, I33, rfl, rfl, gy34, hE⟩
              refine s80 ?_
              exact rqI_of hE
            · replace hE := hE.2 c32
              refine s0 ?_
              refine s80 ?_
              exact rqI_of hE
          · replace hE := hE.2 c26
            refine s0 ?_
            refine s60 ?_
            refine xG gb86.2.2 ?_
            refine s84 (by decide) ?_
            refine rqI_of ?_
            refine s67 (inRd rfl) (fun c35 => absurd c35 (by decide)) (fun _ => ?_)
            refine s0 ?_
            refine s80 ?_
            exact rqI_of hE
        · replace hE := hE.2 c23
          refine s67 (inRd rfl) (fun _ => ?_) (fun c36 => absurd (by decide) c36)
          refine xG gb8.2.2.1 ?_
          refine s0 ?_
          refine s79 ?_
          refine xG gb8.2.2.2.1 ?_
          refine s7 (ls' := [.ref 8, .int (oI x1), .int (oI x2), .int (oI x3), .int (oI 0)]) (Nat.le_of_ble_eq_true rfl) rfl ?_
          refine s4 (x := 0) rfl ?_
          refine s68 (inRd rfl) (fun _ => ?_) (fun c37 => absurd (by decide) c37)
          refine s0 ?_
          refine s80 ?_
          exact rqI_of hE
      · replace hE := hE.2 c20
        refine s84 (by decide) ?_
        refine rqI_of ?_
        refine s67 (inRd rfl) (fun _ => ?_) (fun c38 => absurd (by decide) c38)
        refine xG gb8.2.2.1 ?_
        refine s0 ?_
        refine s79 ?_
        refine xG gb8.2.2.2.1 ?_
        refine s7 (ls' := [.ref 8, .int (oI x1), .int (oI x2), .int (oI x3), .int (oI 0)]) (Nat.le_of_ble_eq_true rfl) rfl ?_
        refine s4 (x := 0) rfl ?_
        refine s68 (inRd rfl) (fun _ => ?_) (fun c39 => absurd (by decide) c39)
        refine s0 ?_
        refine s80 ?_
        exact rqI_of hE
  · replace hE := hE.2 c3
    refine s84 (by decide) ?_
    refine rqI_of ?_
    refine s67 (inRd rfl) (fun _ => ?_) (fun c40 => absurd (by decide) c40)
    refine xG gb8.2.2.1 ?_
    refine s0 ?_
    refine s79 ?_
    refine xG gb8.2.2.2.1 ?_
    refine s7 (ls' := [.ref 8, .int (oI x1), .int (oI x2), .int (oI x3), .int (oI 0)]) (Nat.le_of_ble_eq_true rfl) rfl ?_
    refine s4 (x := 0) rfl ?_
    refine s68 (inRd rfl) (fun _ => ?_) (fun c41 => absurd (by decide) c41)
    refine s0 ?_
    refine s80 ?_
    exact rqI_of hE
set_option maxRecDepth 4000 in
theorem q8 {d L n : Nat} {I : mI} {R : mR} {S : mSh} {A : aS} {K : Int32 → mM → Prop} {x1 : Int} {x2 : Int} {x3 : Int} (hX : CX R S I A n) (hW : WF A) (hn : n ≤ 100000) (rx1 : inR x1) (rx2 : inR x2) (rx3 : inR x3) (hK : ∀ I1, FK I I1 → CX R S I1 (o216 A x1 x2 x3).2 (n + 1) → K (oI (o216 A x1 x2 x3).1) (bd L I1 R S)) : CallI (d + 27) 8 [.ref 8, .int (oI x1), .int (oI x2), .int (oI x3)] (bd L I R S) K := by
  have hC := hX.1
  have hA := hW.1
  have w0 := hA.1
  have w1 := hA.2.1
  have w2 := hA.2.2.1
  have w3 : 0 ≤ A 91 3 ∧ A 91 3 ≤ 850 := hA.2.2.2.1
  have ty := today_year hA
  have c9 := hX.2.2.2.1
  have hB := hW.2.2.2.2.2.1
  obtain ⟨bs, b0, b1, b2, b3, b4, b5, b6⟩ := hB
  have hB := hW.2.2.2.2.2.1
  have m0 : ld I 1 0 = 150 := hC.2.2.2.2.2.1.1 0 (by decide)
  have m1 : ld I 1 1 = 30 := hC.2.2.2.2.2.1.1 1 (by decide)
  have m2 : ld I 1 2 = 300 := hC.2.2.2.2.2.1.1 2 (by decide)
  have m3 : ld I 1 3 = 60 := hC.2.2.2.2.2.1.1 3 (by decide)
  have m4 : ld I 1 4 = 30 := hC.2.2.2.2.2.1.1 4 (by decide)
  have m5 : ld I 1 5 = 30 := hC.2.2.2.2.2.1.1 5 (by decide)
  have m6 : ld I 1 6 = 250 := hC.2.2.2.2.2.1.1 6 (by decide)
  refine e8 (d := d + 25) hC ?_
  refine ⟨by first | assumption | exact inRd rfl | omega | exact ⟨by omega, by omega⟩ | (unfold WnOk; omega) | exact hW.1 | exact hW.2.1 | exact hW.2.2.1 | exact hW.2.2.2.1 | exact hW.2.2.2.2.1 | exact hW.2.2.2.2.2.2.2.2.2.1 | exact hW.2.2.2.2.2.2.2.2.2.2.1 | (constructor <;> omega), ?_⟩
  refine ⟨by first | assumption | exact inRd rfl | omega | exact ⟨by omega, by omega⟩ | (unfold WnOk; omega) | exact hW.1 | exact hW.2.1 | exact hW.2.2.1 | exact hW.2.2.2.1 | exact hW.2.2.2.2.1 | exact hW.2.2.2.2.2.2.2.2.2.1 | exact hW.2.2.2.2.2.2.2.2.2.2.1 | (constructor <;> omega), ?_⟩
  refine ⟨fun c1 => ?_, fun c1 => ?_⟩
  · refine ⟨by first | assumption | exact inRd rfl | omega | exact ⟨by omega, by omega⟩ | (unfold WnOk; omega) | exact hW.1 | exact hW.2.1 | exact hW.2.2.1 | exact hW.2.2.2.1 | exact hW.2.2.2.2.1 | exact hW.2.2.2.2.2.2.2.2.2.1 | exact hW.2.2.2.2.2.2.2.2.2.2.1 | (constructor <;> omega), ?_⟩
    refine ⟨fun c2 => ?_, fun c2 => ?_⟩
    · refine ⟨by first | assumption | exact inRd rfl | omega | exact ⟨by omega, by omega⟩ | (unfold WnOk; omega) | exact hW.1 | exact hW.2.1 | exact hW.2.2.1 | exact hW.2.2.2.1 | exact hW.2.2.2.2.1 | exact hW.2.2.2.2.2.2.2.2.2.1 | exact hW.2.2.2.2.2.2.2.2.2.2.1 | (constructor <;> omega), ?_⟩
      refine ⟨fun c3 => ?_, fun c3 => ?_⟩
      · refine ⟨fun c4 => ?_, fun c4 => ?_⟩
        · have hC0 : RC R S (u2 I 8 9 (oI (ld I 8 9 + 1))) A := RC.scr hC rfl
          refine k91 (d := d + 25) (kd := 0) (w := x1) (a := x2) (b := x3) (c := 0) (fr := x3) (vl := x2) hC0 hA hB (by omega) (by omega) (by omega) ((if_pos rfl).symm) ((if_pos rfl).symm) ⟨by omega, by omega⟩ ⟨by omega, by omega⟩ ⟨by omega, by omega⟩ (fun I1 q1 r1 => ?_)
          refine ⟨A 91 3, I1, rfl, rfl, ⟨by omega, by omega⟩, ?_⟩
          have ho : o216 A x1 x2 x3 = (A 91 3, ntS A (0) (x1) (x2) (x3) (0) (0 : Int).toNat) := by
            unfold o216
            rw [if_pos (by omega), if_pos (by omega), if_pos (by omega), if_neg (by omega)]
            try unfold ntS
            exact Prod.ext (by dsimp only; omega) (by rfl)
          rw [ho] at hK
          have h8 : ld (u2 I 8 9 (oI (ld I 8 9 + 1))) 8 9 = ld I 8 9 + 1 := by
            rw [ld_w ⟨by omega, by omega⟩, if_pos rfl]
          exact hK I1 ((FK.wr (FK.refl I) (by decide)).trans (Fr.FK q1 rfl)) (CX.bump hX r1 (fun a k ha => ((q1.mm rfl).1 a k ha).trans ((MmK.wr (MmK.refl _) rfl) a k ha)) ((q1.ld rfl).trans h8))
        · have ho : o216 A x1 x2 x3 = ((-2), A) := by
            first | (unfold o216; rw [if_neg (by assumption)]) | (unfold o216; (repeat' split) <;> (first | (exfalso; omega) | with_reducible rfl))
          rw [ho] at hK
          exact hK I (FK.refl I) (hX.up (Nat.le_succ n))
      · have ho : o216 A x1 x2 x3 = ((-1), A) := by
          first | (unfold o216; rw [if_neg (by assumption)]) | (unfold o216; (repeat' split) <;> (first | (exfalso; omega) | with_reducible rfl))
        rw [ho] at hK
        exact hK I (FK.refl I) (hX.up (Nat.le_succ n))
    · refine ⟨by first | assumption | exact inRd rfl | omega | exact ⟨by omega, by omega⟩ | (unfold WnOk; omega) | exact hW.1 | exact hW.2.1 | exact hW.2.2.1 | exact hW.2.2.2.1 | exact hW.2.2.2.2.1 | exact hW.2.2.2.2.2.2.2.2.2.1 | exact hW.2.2.2.2.2.2.2.2.2.2.1 | (constructor <;> omega), ?_⟩
      refine ⟨fun c5 => ?_, fun c5 => ?_⟩
      · refine ⟨by first | assumption | exact inRd rfl | omega | exact ⟨by omega, by omega⟩ | (unfold WnOk; omega) | exact hW.1 | exact hW.2.1 | exact hW.2.2.1 | exact hW.2.2.2.1 | exact hW.2.2.2.2.1 | exact hW.2.2.2.2.2.2.2.2.2.1 | exact hW.2.2.2.2.2.2.2.2.2.2.1 | (constructor <;> omega), ?_⟩
        refine ⟨fun c6 => ?_, fun c6 => ?_⟩
        · refine ⟨fun c7 => ?_, fun c7 => ?_⟩
          · refine k10 (d := d) hC hA hW.2.2.2.2.2.2.2.2.2.2.1 hW.2.2.1 (by omega) rx1 (by omega) (fun I2 q2 r2 => ?_)
            have hX2 := hX.fr q2 rfl rfl
            have c9b := hX2.2.2.2.1
            by_cases g1 : hoS A x2 (Int.tdiv x3 100) = -1
            · rw [if_pos g1]
              refine ⟨0, I2, rfl, rfl, inRd rfl, r2, fun _ => ?_, fun c => absurd rfl c⟩
              have hC0 : RC R S (u2 I2 8 9 (oI (ld I2 8 9 + 1))) A := RC.scr r2 rfl
              refine k91 (d := d + 25) (kd := 0) (w := x1) (a := x2) (b := x3) (c := 0) (fr := x3) (vl := x2) hC0 hA hB (by omega) (by omega) (by omega) ((if_pos rfl).symm) ((if_pos rfl).symm) ⟨by omega, by omega⟩ ⟨by omega, by omega⟩ ⟨by omega, by omega⟩ (fun I1 q1 r1 => ?_)
              refine ⟨A 91 3, I1, rfl, rfl, ⟨by omega, by omega⟩, ?_⟩
              have ho : o216 A x1 x2 x3 = (A 91 3, ntS A (0) (x1) (x2) (x3) (0) (0 : Int).toNat) := by
                unfold o216
                rw [if_pos (by omega), if_neg (by omega), if_pos (by omega), if_pos (by omega), if_neg (by omega), if_pos (g1)]
                try unfold ntS
                exact Prod.ext (by dsimp only; omega) (by rfl)
              rw [ho] at hK
              have h8 : ld (u2 I2 8 9 (oI (ld I2 8 9 + 1))) 8 9 = ld I2 8 9 + 1 := by
                rw [ld_w ⟨by omega, by omega⟩, if_pos rfl]
              exact hK I1 ((FK.wr (Fr.FK q2 rfl) (by decide)).trans (Fr.FK q1 rfl)) (CX.bump hX2 r1 (fun a k ha => ((q1.mm rfl).1 a k ha).trans ((MmK.wr (MmK.refl _) rfl) a k ha)) ((q1.ld rfl).trans h8))
            · rw [if_neg g1]
              by_cases g2 : roL A x1 x2 x3 (A 91 1).toNat < hoS A x2 (Int.tdiv x3 100)
              · rw [if_pos g2]
                refine ⟨0, I2, rfl, rfl, inRd rfl, r2, fun _ => ?_, fun c => absurd rfl c⟩
                have hC0 : RC R S (u2 I2 8 9 (oI (ld I2 8 9 + 1))) A := RC.scr r2 rfl
                refine k91 (d := d + 25) (kd := 0) (w := x1) (a := x2) (b := x3) (c := 0) (fr := x3) (vl := x2) hC0 hA hB (by omega) (by omega) (by omega) ((if_pos rfl).symm) ((if_pos rfl).symm) ⟨by omega, by omega⟩ ⟨by omega, by omega⟩ ⟨by omega, by omega⟩ (fun I1 q1 r1 => ?_)
                refine ⟨A 91 3, I1, rfl, rfl, ⟨by omega, by omega⟩, ?_⟩
                have ho : o216 A x1 x2 x3 = (A 91 3, ntS A (0) (x1) (x2) (x3) (0) (0 : Int).toNat) := by
                  unfold o216
                  rw [if_pos (by omega), if_neg (by omega), if_pos (by omega), if_pos (by omega), if_neg (by omega), if_neg (g1), if_pos (g2)]
                  try unfold ntS
                  exact Prod.ext (by dsimp only; omega) (by rfl)
                rw [ho] at hK
                have h8 : ld (u2 I2 8 9 (oI (ld I2 8 9 + 1))) 8 9 = ld I2 8 9 + 1 := by
                  rw [ld_w ⟨by omega, by omega⟩, if_pos rfl]
                exact hK I1 ((FK.wr (Fr.FK q2 rfl) (by decide)).trans (Fr.FK q1 rfl)) (CX.bump hX2 r1 (fun a k ha => ((q1.mm rfl).1 a k ha).trans ((MmK.wr (MmK.refl _) rfl) a k ha)) ((q1.ld rfl).trans h8))
              · rw [if_neg g2]
                refine ⟨1, I2, rfl, rfl, inRd rfl, r2, fun c => absurd c (by decide), fun _ => ?_⟩
                have ho : o216 A x1 x2 x3 = (-3, A) := by
                  unfold o216
                  rw [if_pos (by omega), if_neg (by omega), if_pos (by omega), if_pos (by omega), if_neg (by omega), if_neg g1, if_neg g2]
                rw [ho] at hK
                exact hK I2 (Fr.FK q2 rfl) (CX.up hX2 (Nat.le_succ n))
          · have ho : o216 A x1 x2 x3 = ((-2), A) := by
              first | (unfold o216; rw [if_neg (by assumption)]) | (unfold o216; (repeat' split) <;> (first | (exfalso; omega) | with_reducible rfl))
            rw [ho] at hK
            exact hK I (FK.refl I) (hX.up (Nat.le_succ n))
        · have ho : o216 A x1 x2 x3 = ((-1), A) := by
            first | (unfold o216; rw [if_neg (by assumption)]) | (unfold o216; (repeat' split) <;> (first | (exfalso; omega) | with_reducible rfl))
          rw [ho] at hK
          exact hK I (FK.refl I) (hX.up (Nat.le_succ n))
      · have ho : o216 A x1 x2 x3 = ((-1), A) := by
          first | (unfold o216; rw [if_neg (by assumption)]) | (unfold o216; (repeat' split) <;> (first | (exfalso; omega) | with_reducible rfl))
        rw [ho] at hK
        exact hK I (FK.refl I) (hX.up (Nat.le_succ n))
  · have ho : o216 A x1 x2 x3 = ((-1), A) := by
      first | (unfold o216; rw [if_neg (by assumption)]) | (unfold o216; (repeat' split) <;> (first | (exfalso; omega) | with_reducible rfl))
    rw [ho] at hK
    exact hK I (FK.refl I) (hX.up (Nat.le_succ n))
