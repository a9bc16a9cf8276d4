set_option maxRecDepth 4000 in
theorem e149 {d L : Nat} {I : Nat → Nat → Int32} {R : Nat → Nat → Option Nat} {S : List (Nat × Nat)} {K : Int32 → mM → Prop} {A : aS} (hC : RC R S I A) {x1 : Int} {x2 : Int} {x3 : Int} (hE : inR x1 ∧ (((ld I 59 13 ≤ x1 ∧ x1 ≤ ld I 59 14) → (0 ≤ x1 - (ld I 59 13) ∧ x1 - (ld I 59 13) < 100) ∧ (((ld I 62 (x1 - (ld I 59 13)).toNat = (-1)) → K (oI 0) (bd L I R S)) ∧ (¬ (ld I 62 (x1 - (ld I 59 13)).toNat = (-1)) → ((iAnd (iShr (ld I 68 (x1 - (ld I 59 13)).toNat) (ld I 62 (x1 - (ld I 59 13)).toNat)) 1 = 0) → inR x2 ∧ (((0 ≤ x2 ∧ x2 ≤ 1) → (0 ≤ ((x1 - (ld I 59 13)) * 2) + x2 ∧ ((x1 - (ld I 59 13)) * 2) + x2 < 200) ∧ (((ld I 64 (((x1 - (ld I 59 13)) * 2) + x2).toNat = 0) → ((ld I 65 (x1 - (ld I 59 13)).toNat = 0) → K (oI 0) (bd L I R S)) ∧ (¬ (ld I 65 (x1 - (ld I 59 13)).toNat = 0) → ∀ (I18 : mI), (Fr [60] [] I I18) → (∀ j : Nat, j < 12 → ld I18 60 j = 0) → (0 ≤ ld I18 59 16 ∧ ld I18 59 16 < 40) ∧ (inR (x1 - (A 92 (ld I18 59 16).toNat)) ∧ (inR (Int.tdiv (x1 - (A 92 (ld I18 59 16).toNat)) 100) ∧ ((0 ≤ Int.tdiv x1 100 ∧ Int.tdiv x1 100 < 8) ∧ ((0 ≤ x1 - (ld I18 59 13) ∧ x1 - (ld I18 59 13) < 100) ∧ (WfC A ∧ ((0 ≤ x3 ∧ x3 ≤ 7) ∧ (∃ e30 : Nat → Int, EnvC 60 (u2 (u2 (u2 (u2 (u2 (u2 (u2 (u2 I18 60 1 (oI (max 0 (Int.tdiv (x1 - (A 92 (ld I18 59 16).toNat)) 100)))) 60 2 (oI (ld I18 69 (Int.tdiv x1 100).toNat))) 60 3 (oI (x1 - Int.tdiv x1 100 * 100))) 60 4 (oI (Int.tdiv x1 100))) 60 6 (oI (ld I18 66 (x1 - (ld I18 59 13)).toNat))) 60 0 (oI x2)) 60 5 (oI 1)) 60 11 (oI (ld I18 67 (x1 - (ld I18 59 13)).toNat))) e30 ∧ (K (oI (tlS A e30 x3 131 (ld I 65 (x1 - (ld I 59 13)).toNat) 0)) (bd L (u2 (u2 (u2 (u2 (u2 (u2 (u2 (u2 I18 60 1 (oI (max 0 (Int.tdiv (x1 - (A 92 (ld I18 59 16).toNat)) 100)))) 60 2 (oI (ld I18 69 (Int.tdiv x1 100).toNat))) 60 3 (oI (x1 - Int.tdiv x1 100 * 100))) 60 4 (oI (Int.tdiv x1 100))) 60 6 (oI (ld I18 66 (x1 - (ld I18 59 13)).toNat))) 60 0 (oI x2)) 60 5 (oI 1)) 60 11 (oI (ld I18 67 (x1 - (ld I18 59 13)).toNat))) R S))))))))))) ∧ (¬ (ld I 64 (((x1 - (ld I 59 13)) * 2) + x2).toNat = 0) → ∀ (I32 : mI), (Fr [60] [] I I32) → (∀ j : Nat, j < 12 → ld I32 60 j = 0) → (0 ≤ ld I32 59 16 ∧ ld I32 59 16 < 40) ∧ (inR (x1 - (A 92 (ld I32 59 16).toNat)) ∧ (inR (Int.tdiv (x1 - (A 92 (ld I32 59 16).toNat)) 100) ∧ ((0 ≤ Int.tdiv x1 100 ∧ Int.tdiv x1 100 < 8) ∧ ((0 ≤ x1 - (ld I32 59 13) ∧ x1 - (ld I32 59 13) < 100) ∧ (WfC A ∧ ((0 ≤ x3 ∧ x3 ≤ 7) ∧ (∃ e43 : Nat → Int, EnvC 60 (u2 (u2 (u2 (u2 (u2 (u2 (u2 (u2 I32 60 1 (oI (max 0 (Int.tdiv (x1 - (A 92 (ld I32 59 16).toNat)) 100)))) 60 2 (oI (ld I32 69 (Int.tdiv x1 100).toNat))) 60 3 (oI (x1 - Int.tdiv x1 100 * 100))) 60 4 (oI (Int.tdiv x1 100))) 60 6 (oI (ld I32 66 (x1 - (ld I32 59 13)).toNat))) 60 0 (oI x2)) 60 5 (oI (if ld I 65 (x1 - (ld I 59 13)).toNat = 0 then (0 : Int) else 1))) 60 11 (oI (ld I32 67 (x1 - (ld I32 59 13)).toNat))) e43 ∧ (K (oI (tlS A e43 x3 130 (iShl 1 (ld I 64 (((x1 - (ld I 59 13)) * 2) + x2).toNat)) 0)) (bd L (u2 (u2 (u2 (u2 (u2 (u2 (u2 (u2 I32 60 1 (oI (max 0 (Int.tdiv (x1 - (A 92 (ld I32 59 16).toNat)) 100)))) 60 2 (oI (ld I32 69 (Int.tdiv x1 100).toNat))) 60 3 (oI (x1 - Int.tdiv x1 100 * 100))) 60 4 (oI (Int.tdiv x1 100))) 60 6 (oI (ld I32 66 (x1 - (ld I32 59 13)).toNat))) 60 0 (oI x2)) 60 5 (oI (if ld I 65 (x1 - (ld I 59 13)).toNat = 0 then (0 : Int) else 1))) 60 11 (oI (ld I32 67 (x1 - (ld I32 59 13)).toNat))) R S)))))))))))) ∧ (¬ (0 ≤ x2 ∧ x2 ≤ 1) → ((ld I 65 (x1 - (ld I 59 13)).toNat = 0) → K (oI 0) (bd L I R S)) ∧ (¬ (ld I 65 (x1 - (ld I 59 13)).toNat = 0) → ∀ (I48 : mI), (Fr [60] [] I I48) → (∀ j : Nat, j < 12 → ld I48 60 j = 0) → (0 ≤ ld I48 59 16 ∧ ld I48 59 16 < 40) ∧ (inR (x1 - (A 92 (ld I48 59 16).toNat)) ∧ (inR (Int.tdiv (x1 - (A 92 (ld I48 59 16).toNat)) 100) ∧ ((0 ≤ Int.tdiv x1 100 ∧ Int.tdiv x1 100 < 8) ∧ ((0 ≤ x1 - (ld I48 59 13) ∧ x1 - (ld I48 59 13) < 100) ∧ (WfC A ∧ ((0 ≤ x3 ∧ x3 ≤ 7) ∧ (∃ e60 : Nat → Int, EnvC 60 (u2 (u2 (u2 (u2 (u2 (u2 (u2 (u2 I48 60 1 (oI (max 0 (Int.tdiv (x1 - (A 92 (ld I48 59 16).toNat)) 100)))) 60 2 (oI (ld I48 69 (Int.tdiv x1 100).toNat))) 60 3 (oI (x1 - Int.tdiv x1 100 * 100))) 60 4 (oI (Int.tdiv x1 100))) 60 6 (oI (ld I48 66 (x1 - (ld I48 59 13)).toNat))) 60 0 (oI x2)) 60 5 (oI 1)) 60 11 (oI (ld I48 67 (x1 - (ld I48 59 13)).toNat))) e60 ∧ (K (oI (tlS A e60 x3 131 (ld I 65 (x1 - (ld I 59 13)).toNat) 0)) (bd L (u2 (u2 (u2 (u2 (u2 (u2 (u2 (u2 I48 60 1 (oI (max 0 (Int.tdiv (x1 - (A 92 (ld I48 59 16).toNat)) 100)))) 60 2 (oI (ld I48 69 (Int.tdiv x1 100).toNat))) 60 3 (oI (x1 - Int.tdiv x1 100 * 100))) 60 4 (oI (Int.tdiv x1 100))) 60 6 (oI (ld I48 66 (x1 - (ld I48 59 13)).toNat))) 60 0 (oI x2)) 60 5 (oI 1)) 60 11 (oI (ld I48 67 (x1 - (ld I48 59 13)).toNat))) R S))))))))))))) ∧ (¬ (iAnd (iShr (ld I 68 (x1 - (ld I 59 13)).toNat) (ld I 62 (x1 - (ld I 59 13)).toNat)) 1 = 0) → K (oI 0) (bd L I R S))))) ∧ (¬ (ld I 59 13 ≤ x1 ∧ x1 ≤ ld I 59 14) → K (oI 0) (bd L I R S)))) : CallI (d + 25) 149 [.ref 59, .int (oI x1), .int (oI x2), .int (oI x3)] (bd L I R S) K := by
  refine cI_of (ls := [.ref 59, .int (oI x1), .int (oI x2), .int (oI x3), mUn, mUn]) rfl ?_
  refine xG gb149.1 ?_
  refine s6 (p := 59) rfl ?_
  refine s4 (x := x1) rfl ?_
  refine sI rc150 rfl (Nat.le_of_ble_eq_true rfl) ?_
  refine cI_of (ls := [.ref 59, .int (oI x1), mUn]) rfl ?_
  refine xG gb150.1 ?_
  refine s6 (p := 59) rfl ?_
  refine s4 (x := x1) rfl ?_
  refine sI rc140 rfl (Nat.le_of_ble_eq_true rfl) ?_
  refine cI_of (ls := [.ref 59, .int (oI x1)]) rfl ?_
  refine xG gb140.1 ?_
  refine s4 (x := x1) rfl ?_
  refine s6 (p := 59) rfl ?_
  refine s50 (v := ld I 59 13) sh59 (by decide) (by decide) (oI_ld _ _ _) ?_
  refine s6 (p := 59) rfl ?_
  refine s50 (v := ld I 59 14) sh59 (by decide) (by decide) (oI_ld _ _ _) ?_
  obtain ⟨g1, hE⟩ := hE
  refine sI rc3 rfl (Nat.le_of_ble_eq_true rfl) ?_
  refine k3 g1 (ld_inR _ _ _) (ld_inR _ _ _) (fun c2 => ?_) (fun c2 => ?_)
  · replace hE := hE.1 c2
    refine s67 (inRd rfl) (fun c3 => absurd c3 (by decide)) (fun _ => ?_)
    refine s6 (p := 59) rfl ?_
    refine s51 sh59 (by decide) (by decide) rf59_5 ?_
    refine s4 (x := x1) rfl ?_
    refine s6 (p := 59) rfl ?_
    refine s50 (v := ld I 59 13) sh59 (by decide) (by decide) (oI_ld _ _ _) ?_
    refine s17 ?_
    obtain ⟨g4, hE⟩ := hE
    refine s40 (v := ld I 62 (x1 - (ld I 59 13)).toNat) sh62 g4 rfl (oI_ld _ _ _) ?_
    refine s60 ?_
    refine xG gb140.2.2 ?_
    refine s80 ?_
    refine rqI_of ?_
    refine s7 (ls' := [.ref 59, .int (oI x1), .int (oI (ld I 62 (x1 - (ld I 59 13)).toNat))]) (Nat.le_of_ble_eq_true rfl) rfl ?_
    refine s4 (x := ld I 62 (x1 - (ld I 59 13)).toNat) rfl ?_
    refine s0 ?_
    refine s61 (ld_inR _ _ _) (inRd rfl) (fun c5 => ?_) (fun c5 => ?_)
    · replace hE := hE.1 c5
      refine xG gb150.2.1 ?_
      refine s0 ?_
      refine s79 ?_
      refine xG gb150.2.2 ?_
      refine s84 (by decide) ?_
      refine rqI_of ?_
      refine s68 (inRd rfl) (fun _ => ?_) (fun c6 => absurd (by decide) c6)
      refine s0 ?_
      refine s80 ?_
      exact rqI_of hE
    · replace hE := hE.2 c5
      refine s6 (p := 59) rfl ?_
      refine s4 (x := ld I 62 (x1 - (ld I 59 13)).toNat) rfl ?_
      refine s4 (x := x1) rfl ?_
      refine sI rc151 rfl (Nat.le_of_ble_eq_true rfl) ?_
      refine cI_of (ls := [.ref 59, .int (oI (ld I 62 (x1 - (ld I 59 13)).toNat)), .int (oI x1)]) rfl ?_
      refine xG gb151.1 ?_
      refine s6 (p := 59) rfl ?_
      refine s51 sh59 (by decide) (by decide) rf59_11 ?_
      refine s4 (x := x1) rfl ?_
      refine s6 (p := 59) rfl ?_
      refine s50 (v := ld I 59 13) sh59 (by decide) (by decide) (oI_ld _ _ _) ?_
      refine s17 ?_
      refine s40 (v := ld I 68 (x1 - (ld I 59 13)).toNat) sh68 g4 rfl (oI_ld _ _ _) ?_
      refine s4 (x := ld I 62 (x1 - (ld I 59 13)).toNat) rfl ?_
      refine s23 ?_
      refine s0 ?_
      refine s25 ?_
      refine s67 (inR_toInt _) (fun c7 => ?_) (fun c7 => ?_)
      · replace hE := hE.1 c7
        refine xG gb151.2.1 ?_
        refine s0 ?_
        refine s79 ?_
        refine xG gb151.2.2 ?_
        refine s84 (by decide) ?_
        refine rqI_of ?_
        refine s68 (inRd rfl) (fun _ => ?_) (fun c8 => absurd (by decide) c8)
        refine s0 ?_
        refine s60 ?_
        refine xG gb150.2.2 ?_
        refine s84 (by decide) ?_
        refine rqI_of ?_
        refine s68 (inRd rfl) (fun c9 => absurd c9 (by decide)) (fun _ => ?_)
        refine xG gb149.2.1 ?_
        refine s6 (p := 59) rfl ?_
        refine s4 (x := x1) rfl ?_
        refine s4 (x := x2) rfl ?_
        refine sI rc148 rfl (Nat.le_of_ble_eq_true rfl) ?_
        refine cI_of (ls := [.ref 59, .int (oI x1), .int (oI x2)]) rfl ?_
        refine xG gb148.1 ?_
        refine s4 (x := x1) rfl ?_
        refine s6 (p := 59) rfl ?_
        refine s50 (v := ld I 59 13) sh59 (by decide) (by decide) (oI_ld _ _ _) ?_
        refine s6 (p := 59) rfl ?_
        refine s50 (v := ld I 59 14) sh59 (by decide) (by decide) (oI_ld _ _ _) ?_
        refine sI rc3 rfl (Nat.le_of_ble_eq_true rfl) ?_
        refine k3 g1 (ld_inR _ _ _) (ld_inR _ _ _) (fun _ => ?_) (fun c10 => absurd c2 c10)
        refine s67 (inRd rfl) (fun c11 => absurd c11 (by decide)) (fun _ => ?_)
        refine s4 (x := x2) rfl ?_
        refine s0 ?_
        refine s0 ?_
        obtain ⟨g12, hE⟩ := hE
        refine sI rc3 rfl (Nat.le_of_ble_eq_true rfl) ?_
        refine k3 g12 (inRd rfl) (inRd rfl) (fun c13 => ?_) (fun c13 => ?_)
        · replace hE := hE.1 c13
          refine s67 (inRd rfl) (fun c14 => absurd c14 (by decide)) (fun _ => ?_)
          refine s6 (p := 59) rfl ?_
          refine s51 sh59 (by decide) (by decide) rf59_7 ?_
          refine s4 (x := x1) rfl ?_
          refine s6 (p := 59) rfl ?_
          refine s50 (v := ld I 59 13) sh59 (by decide) (by decide) (oI_ld _ _ _) ?_
          refine s17 ?_
          refine s0 ?_
          refine s18 ?_
          refine s4 (x := x2) rfl ?_
          refine s16 ?_
          obtain ⟨g15, hE⟩ := hE
          refine s40 (v := ld I 64 (((x1 - (ld I 59 13)) * 2) + x2).toNat) sh64 g15 rfl (oI_ld _ _ _) ?_
          refine s60 ?_
          refine xG gb148.2.2 ?_
          refine s80 ?_
          refine rqI_of ?_
          refine s7 (ls' := [.ref 59, .int (oI x1), .int (oI x2), .int (oI x3), .int (oI (ld I 64 (((x1 - (ld I 59 13)) * 2) + x2).toNat)), mUn]) (Nat.le_of_ble_eq_true rfl) rfl ?_
          refine s6 (p := 59) rfl ?_
          refine s51 sh59 (by decide) (by decide) rf59_8 ?_
          refine s4 (x := x1) rfl ?_
          refine s6 (p := 59) rfl ?_
          refine s50 (v := ld I 59 13) sh59 (by decide) (by decide) (oI_ld _ _ _) ?_
          refine s17 ?_
          refine s40 (v := ld I 65 (x1 - (ld I 59 13)).toNat) sh65 g4 rfl (oI_ld _ _ _) ?_
          refine s7 (ls' := [.ref 59, .int (oI x1), .int (oI x2), .int (oI x3), .int (oI (ld I 64 (((x1 - (ld I 59 13)) * 2) + x2).toNat)), .int (oI (ld I 65 (x1 - (ld I 59 13)).toNat))]) (Nat.le_of_ble_eq_true rfl) rfl ?_
          refine s4 (x := ld I 64 (((x1 - (ld I 59 13)) * 2) + x2).toNat) rfl ?_
          refine s68 (ld_inR _ _ _) (fun c16 => ?_) (fun c16 => ?_)
          · replace hE := hE.1 c16
            refine s4 (x := ld I 65 (x1 - (ld I 59 13)).toNat) rfl ?_
            refine s68 (ld_inR _ _ _) (fun c17 => ?_) (fun c17 => ?_)
            · replace hE := hE.1 c17
              refine s0 ?_
              refine s80 ?_
              exact rqI_of hE
            · replace hE := hE.2 c17
              refine xG gb149.2.2.1 ?_
              refine s6 (p := 59) rfl ?_
              refine s4 (x := x1) rfl ?_
              refine sV rc152 rfl (Nat.le_of_ble_eq_true rfl) ?_
              refine cV_of (ls := [.ref 59, .int (oI x1), mUn]) rfl ?_
              refine xG gb152 ?_
              refine s6 (p := 59) rfl ?_
              refine s51 sh59 (by decide) (by decide) rf59_0 ?_
              refine s0 ?_
              refine sV rc350 rfl (Nat.le_of_ble_eq_true rfl) ?_
              refine k350a60 hC (inRd rfl) (fun I18 q19 q20 => ?_)
              replace hE := hE I18 q19 q20
              refine s4 (x := x1) rfl ?_
              refine s0 ?_
              refine s19 g1 ⟨(inRd rfl), by decide⟩ ?_
              refine s7 (ls' := [.ref 59, .int (oI x1), .int (oI (Int.tdiv x1 100))]) (Nat.le_of_ble_eq_true rfl) rfl ?_
              refine s6 (p := 59) rfl ?_
              refine s51 sh59 (by decide) (by decide) rf59_0 ?_
              refine s0 ?_
              refine s6 (p := 59) rfl ?_
              refine s51 sh59 (by decide) (by decide) rf59_3 ?_
              refine s6 (p := 59) rfl ?_
              refine s50 (v := ld I18 59 16) sh59 (by decide) (by decide) (oI_ld _ _ _) ?_
              refine s4 (x := x1) rfl ?_
              refine sI rc81 rfl (Nat.le_of_ble_eq_true rfl) ?_
              refine cI_of (ls := [.ref 21, .int (oI (ld I18 59 16)), .int (oI x1)]) rfl ?_
              refine xG gb81 ?_
              refine s0 ?_
              refine s4 (x := x1) rfl ?_
              refine s6 (p := 21) rfl ?_
              refine s51 sh21 (by decide) (by decide) rf21_0 ?_
              refine s4 (x := ld I18 59 16) rfl ?_
              obtain ⟨g21, hE⟩ := hE
              refine s40 (v := A 92 (ld I18 59 16).toNat) sh22 g21 rfl (rdC (RC.fr hC q19 rfl).1 rfl) ?_
              refine s17 ?_
              refine s0 ?_
              obtain ⟨g22, hE⟩ := hE
              refine s19 g22 ⟨(inRd rfl), by decide⟩ ?_
              obtain ⟨g23, hE⟩ := hE
              refine sI rc346 rfl (Nat.le_of_ble_eq_true rfl) ?_
              refine k346 (inRd rfl) g23 ?_
              refine s80 ?_
              refine rqI_of ?_
              refine s44 sh60 (by decide) (⟨by decide, by decide⟩ : (0 : Int) ≤ 1 ∧ (1 : Int) < 12) rfl ?_
              refine s6 (p := 59) rfl ?_
              refine s51 sh59 (by decide) (by decide) rf59_0 ?_
              refine s0 ?_
              refine s6 (p := 59) rfl ?_
              refine s51 sh59 (by decide) (by decide) rf59_12 ?_
              refine s4 (x := Int.tdiv x1 100) rfl ?_
              obtain ⟨g24, hE⟩ := hE
              refine s40 (v := ld I18 69 (Int.tdiv x1 100).toNat) sh69 g24 rfl ((v2_ne (by decide)).trans (oI_ld _ _ _)) ?_
              refine s44 sh60 (by decide) (⟨by decide, by decide⟩ : (0 : Int) ≤ 2 ∧ (2 : Int) < 12) rfl ?_
              refine s6 (p := 59) rfl ?_
              refine s51 sh59 (by decide) (by decide) rf59_0 ?_
              refine s0 ?_
              refine s4 (x := x1) rfl ?_
              refine s0 ?_
              refine s20 g1 ⟨(inRd rfl), by decide⟩ ?_
              refine s44 sh60 (by decide) (⟨by decide, by decide⟩ : (0 : Int) ≤ 3 ∧ (3 : Int) < 12) rfl ?_
              refine s6 (p := 59) rfl ?_
              refine s51 sh59 (by decide) (by decide) rf59_0 ?_
              refine s0 ?_
              refine s4 (x := Int.tdiv x1 100) rfl ?_
              refine s44 sh60 (by decide) (⟨by decide, by decide⟩ : (0 : Int) ≤ 4 ∧ (4 : Int) < 12) rfl ?_
              refine s6 (p := 59) rfl ?_
              refine s51 sh59 (by decide) (by decide) rf59_0 ?_
              refine s0 ?_
              refine s6 (p := 59) rfl ?_
              refine s51 sh59 (by decide) (by decide) rf59_9 ?_
              refine s4 (x := x1) rfl ?_
              refine s6 (p := 59) rfl ?_
              refine s50 (v := ld I18 59 13) sh59 (by decide) (by decide) ((v2_ne (by decide)).trans ((v2_ne (by decide)).trans ((v2_ne (by decide)).trans ((v2_ne (by decide)).trans (oI_ld _ _ _))))) ?_
              refine s17 ?_
              obtain ⟨g25, hE⟩ := hE
              refine s40 (v := ld I18 66 (x1 - (ld I18 59 13)).toNat) sh66 g25 rfl ((v2_ne (by decide)).trans ((v2_ne (by decide)).trans ((v2_ne (by decide)).trans ((v2_ne (by decide)).trans (oI_ld _ _ _))))) ?_
              refine s44 sh60 (by decide) (⟨by decide, by decide⟩ : (0 : Int) ≤ 6 ∧ (6 : Int) < 12) rfl ?_
              refine s83 ?_
              refine rqV_of ?_
              refine s6 (p := 59) rfl ?_
              refine s51 sh59 (by decide) (by decide) rf59_0 ?_
              refine s0 ?_
              refine s4 (x := x2) rfl ?_
              refine s44 sh60 (by decide) (⟨by decide, by decide⟩ : (0 : Int) ≤ 0 ∧ (0 : Int) < 12) rfl ?_
              refine s6 (p := 59) rfl ?_
              refine s51 sh59 (by decide) (by decide) rf59_0 ?_
              refine s0 ?_
              refine s4 (x := ld I 65 (x1 - (ld I 59 13)).toNat) rfl ?_
              refine s68 (ld_inR _ _ _) (fun c26 => absurd c26 c17) (fun _ => ?_)
              refine xG gb149.2.2.2.1 ?_
              refine s0 ?_
              refine s79 ?_
              refine xG gb149.2.2.2.2.1 ?_
              refine s44 sh60 (by decide) (⟨by decide, by decide⟩ : (0 : Int) ≤ 5 ∧ (5 : Int) < 12) rfl ?_
              refine s6 (p := 59) rfl ?_
              refine s51 sh59 (by decide) (by decide) rf59_0 ?_
              refine s0 ?_
              refine s6 (p := 59) rfl ?_
              refine s51 sh59 (by decide) (by decide) rf59_10 ?_
              refine s4 (x := x1) rfl ?_
              refine s6 (p := 59) rfl ?_
              refine s50 (v := ld I18 59 13) sh59 (by decide) (by decide) ((v2_ne (by decide)).trans ((v2_ne (by decide)).trans ((v2_ne (by decide)).trans ((v2_ne (by decide)).trans ((v2_ne (by decide)).trans ((v2_ne (by decide)).trans ((v2_ne (by decide)).trans (oI_ld _ _ _)))))))) ?_
              refine s17 ?_
              refine s40 (v := ld I18 67 (x1 - (ld I18 59 13)).toNat) sh67 g25 rfl ((v2_ne (by decide)).trans ((v2_ne (by decide)).trans ((v2_ne (by decide)).trans ((v2_ne (by decide)).trans ((v2_ne (by decide)).trans ((v2_ne (by decide)).trans ((v2_ne (by decide)).trans (oI_ld _ _ _)))))))) ?_
              refine s44 sh60 (by decide) (⟨by decide, by decide⟩ : (0 : Int) ≤ 11 ∧ (11 : Int) < 12) rfl ?_
              refine s4 (x := ld I 64 (((x1 - (ld I 59 13)) * 2) + x2).toNat) rfl ?_
              refine s68 (ld_inR _ _ _) (fun _ => ?_) (fun c27 => absurd c16 c27)
              refine s6 (p := 59) rfl ?_
              refine s51 sh59 (by decide) (by decide) rf59_4 ?_
              refine s4 (x := x3) rfl ?_
              refine s0 ?_
              refine s4 (x := ld I 65 (x1 - (ld I 59 13)).toNat) rfl ?_
              refine s6 (p := 59) rfl ?_
              refine s51 sh59 (by decide) (by decide) rf59_0 ?_
              refine s0 ?_
              obtain ⟨g28, hE⟩ := hE
              obtain ⟨g29, hE⟩ := hE
              obtain ⟨e30, k31, hE⟩ := hE
              refine sI rc97 rfl (Nat.le_of_ble_eq_true rfl) ?_
              refine k97a60 (RC.scr (RC.scr (RC.scr (RC.scr (RC.scr (RC.scr (RC.scr (RC.scr (RC.fr hC q19 rfl) rfl) rfl) rfl) rfl) rfl) rfl) rfl) rfl) g28 k31 g29 (⟨by decide, by decide⟩ : (130 : Int) ≤ 131 ∧ (131 : Int) ≤ 144) (inRd rfl) ?_
              refine s60 ?_
              refine xG gb149.2.2.2.2.2.2 ?_
              refine s80 ?_
              exact rqI_of hE
          · replace hE := hE.2 c16
            refine xG gb149.2.2.1 ?_
            refine s6 (p := 59) rfl ?_
            refine s4 (x := x1) rfl ?_
            refine sV rc152 rfl (Nat.le_of_ble_eq_true rfl) ?_
            refine cV_of (ls := [.ref 59, .int (oI x1), mUn]) rfl ?_
            refine xG gb152 ?_
            refine s6 (p := 59) rfl ?_
            refine s51 sh59 (by decide) (by decide) rf59_0 ?_
            refine s0 ?_
            refine sV rc350 rfl (Nat.le_of_ble_eq_true rfl) ?_
            refine k350a60 hC (inRd rfl) (fun I32 q33 q34 => ?_)
            replace hE := hE I32 q33 q34
            refine s4 (x := x1) rfl ?_
            refine s0 ?_
            refine s19 g1 ⟨(inRd rfl), by decide⟩ ?_
            refine s7 (ls' := [.ref 59, .int (oI x1), .int (oI (Int.tdiv x1 100))]) (Nat.le_of_ble_eq_true rfl) rfl ?_
            refine s6 (p := 59) rfl ?_
            refine s51 sh59 (by decide) (by decide) rf59_0 ?_
            refine s0 ?_
            refine s6 (p := 59) rfl ?_
            refine s51 sh59 (by decide) (by decide) rf59_3 ?_
            refine s6 (p := 59) rfl ?_
            refine s50 (v := ld I32 59 16) sh59 (by decide) (by decide) (oI_ld _ _ _) ?_
            refine s4 (x := x1) rfl ?_
            refine sI rc81 rfl (Nat.le_of_ble_eq_true rfl) ?_
            refine cI_of (ls := [.ref 21, .int (oI (ld I32 59 16)), .int (oI x1)]) rfl ?_
            refine xG gb81 ?_
            refine s0 ?_
            refine s4 (x := x1) rfl ?_
            refine s6 (p := 21) rfl ?_
            refine s51 sh21 (by decide) (by decide) rf21_0 ?_
            refine s4 (x := ld I32 59 16) rfl ?_
            obtain ⟨g35, hE⟩ := hE
            refine s40 (v := A 92 (ld I32 59 16).toNat) sh22 g35 rfl (rdC (RC.fr hC q33 rfl).1 rfl) ?_
            refine s17 ?_
            refine s0 ?_
            obtain ⟨g36, hE⟩ := hE
            refine s19 g36 ⟨(inRd rfl), by decide⟩ ?_
            obtain ⟨g37, hE⟩ := hE
            refine sI rc346 rfl (Nat.le_of_ble_eq_true rfl) ?_
            refine k346 (inRd rfl) g37 ?_
            refine s80 ?_
            refine rqI_of ?_
            refine s44 sh60 (by decide) (⟨by decide, by decide⟩ : (0 : Int) ≤ 1 ∧ (1 : Int) < 12) rfl ?_
            refine s6 (p := 59) rfl ?_
            refine s51 sh59 (by decide) (by decide) rf59_0 ?_
            refine s0 ?_
            refine s6 (p := 59) rfl ?_
            refine s51 sh59 (by decide) (by decide) rf59_12 ?_
            refine s4 (x := Int.tdiv x1 100) rfl ?_
            obtain ⟨g38, hE⟩ := hE
            refine s40 (v := ld I32 69 (Int.tdiv x1 100).toNat) sh69 g38 rfl ((v2_ne (by decide)).trans (oI_ld _ _ _)) ?_
            refine s44 sh60 (by decide) (⟨by decide, by decide⟩ : (0 : Int) ≤ 2 ∧ (2 : Int) < 12) rfl ?_
            refine s6 (p := 59) rfl ?_
            refine s51 sh59 (by decide) (by decide) rf59_0 ?_
            refine s0 ?_
            refine s4 (x := x1) rfl ?_
            refine s0 ?_
            refine s20 g1 ⟨(inRd rfl), by decide⟩ ?_
            refine s44 sh60 (by decide) (⟨by decide, by decide⟩ : (0 : Int) ≤ 3 ∧ (3 : Int) < 12) rfl ?_
            refine s6 (p := 59) rfl ?_
            refine s51 sh59 (by decide) (by decide) rf59_0 ?_
            refine s0 ?_
            refine s4 (x := Int.tdiv x1 100) rfl ?_
            refine s44 sh60 (by decide) (⟨by decide, by decide⟩ : (0 : Int) ≤ 4 ∧ (4 : Int) < 12) rfl ?_
            refine s6 (p := 59) rfl ?_
            refine s51 sh59 (by decide) (by decide) rf59_0 ?_
            refine s0 ?_
            refine s6 (p := 59) rfl ?_
            refine s51 sh59 (by decide) (by decide) rf59_9 ?_
            refine s4 (x := x1) rfl ?_
            refine s6 (p := 59) rfl ?_
            refine s50 (v := ld I32 59 13) sh59 (by decide) (by decide) ((v2_ne (by decide)).trans ((v2_ne (by decide)).trans ((v2_ne (by decide)).trans ((v2_ne (by decide)).trans (oI_ld _ _ _))))) ?_
            refine s17 ?_
            obtain ⟨g39, hE⟩ := hE
            refine s40 (v := ld I32 66 (x1 - (ld I32 59 13)).toNat) sh66 g39 rfl ((v2_ne (by decide)).trans ((v2_ne (by decide)).trans ((v2_ne (by decide)).trans ((v2_ne (by decide)).trans (oI_ld _ _ _))))) ?_
            refine s44 sh60 (by decide) (⟨by decide, by decide⟩ : (0 : Int) ≤ 6 ∧ (6 : Int) < 12) rfl ?_
            refine s83 ?_
            refine rqV_of ?_
            refine s6 (p := 59) rfl ?_
            refine s51 sh59 (by decide) (by decide) rf59_0 ?_
            refine s0 ?_
            refine s4 (x := x2) rfl ?_
            refine s44 sh60 (by decide) (⟨by decide, by decide⟩ : (0 : Int) ≤ 0 ∧ (0 : Int) < 12) rfl ?_
            refine s6 (p := 59) rfl ?_
            refine s51 sh59 (by decide) (by decide) rf59_0 ?_
            refine s0 ?_
            refine s4 (x := ld I 65 (x1 - (ld I 59 13)).toNat) rfl ?_
            refine s68j (j := 4) (v1 := 0) (v0 := 1) (ld_inR _ _ _) (fun hJ => ?_) (fun hJ => ?_) ?_
            · exact s0 (s60 hJ)
            · refine xG gb149.2.2.2.1 ?_
              exact s0 (s79 hJ)
            refine xG gb149.2.2.2.2.1 ?_
            refine s44 sh60 (by decide) (⟨by decide, by decide⟩ : (0 : Int) ≤ 5 ∧ (5 : Int) < 12) rfl ?_
            refine s6 (p := 59) rfl ?_
            refine s51 sh59 (by decide) (by decide) rf59_0 ?_
            refine s0 ?_
            refine s6 (p := 59) rfl ?_
            refine s51 sh59 (by decide) (by decide) rf59_10 ?_
            refine s4 (x := x1) rfl ?_
            refine s6 (p := 59) rfl ?_
            refine s50 (v := ld I32 59 13) sh59 (by decide) (by decide) ((v2_ne (by decide)).trans ((v2_ne (by decide)).trans ((v2_ne (by decide)).trans ((v2_ne (by decide)).trans ((v2_ne (by decide)).trans ((v2_ne (by decide)).trans ((v2_ne (by decide)).trans (oI_ld _ _ _)))))))) ?_
            refine s17 ?_
            refine s40 (v := ld I32 67 (x1 - (ld I32 59 13)).toNat) sh67 g39 rfl ((v2_ne (by decide)).trans ((v2_ne (by decide)).trans ((v2_ne (by decide)).trans ((v2_ne (by decide)).trans ((v2_ne (by decide)).trans ((v2_ne (by decide)).trans ((v2_ne (by decide)).trans (oI_ld _ _ _)))))))) ?_
            refine s44 sh60 (by decide) (⟨by decide, by decide⟩ : (0 : Int) ≤ 11 ∧ (11 : Int) < 12) rfl ?_
            refine s4 (x := ld I 64 (((x1 - (ld I 59 13)) * 2) + x2).toNat) rfl ?_
            refine s68 (ld_inR _ _ _) (fun c40 => absurd c40 c16) (fun _ => ?_)
            refine xG gb149.2.2.2.2.2.1 ?_
            refine s6 (p := 59) rfl ?_
            refine s51 sh59 (by decide) (by decide) rf59_4 ?_
            refine s4 (x := x3) rfl ?_
            refine s0 ?_
            refine s0 ?_
            refine s4 (x := ld I 64 (((x1 - (ld I 59 13)) * 2) + x2).toNat) rfl ?_
            refine s22 ?_
            refine s6 (p := 59) rfl ?_
            refine s51 sh59 (by decide) (by decide) rf59_0 ?_
            refine s0 ?_
            obtain ⟨g41, hE⟩ := hE
            obtain ⟨g42, hE⟩ := hE
            obtain ⟨e43, k44, hE⟩ := hE
            refine sI rc97 rfl (Nat.le_of_ble_eq_true rfl) ?_
            refine k97a60 (RC.scr (RC.scr (RC.scr (RC.scr (RC.scr (RC.scr (RC.scr (RC.scr (RC.fr hC q33 rfl) rfl) rfl) rfl) rfl) rfl) rfl) rfl) rfl) g41 k44 g42 (⟨by decide, by decide⟩ : (130 : Int) ≤ 130 ∧ (130 : Int) ≤ 144) (inRd rfl) ?_
            refine s79 ?_
            refine xG gb149.2.2.2.2.2.2 ?_
            refine s80 ?_
            exact rqI_of hE
        · replace hE := hE.2 c13
          refine s67 (inRd rfl) (fun _ => ?_) (fun c45 => absurd (by decide) c45)
          refine xG gb148.2.1 ?_
          refine s0 ?_
          refine s79 ?_
          refine xG gb148.2.2 ?_
          refine s80 ?_
          refine rqI_of ?_
          refine s7 (ls' := [.ref 59, .int (oI x1), .int (oI x2), .int (oI x3), .int (oI 0), mUn]) (Nat.le_of_ble_eq_true rfl) rfl ?_
          refine s6 (p := 59) rfl ?_
          refine s51 sh59 (by decide) (by decide) rf59_8 ?_
          refine s4 (x := x1) rfl ?_
          refine s6 (p := 59) rfl ?_
          refine s50 (v := ld I 59 13) sh59 (by decide) (by decide) (oI_ld _ _ _) ?_
          refine s17 ?_
          refine s40 (v := ld I 65 (x1 - (ld I 59 13)).toNat) sh65 g4 rfl (oI_ld _ _ _) ?_
          refine s7 (ls' := [.ref 59, .int (oI x1), .int (oI x2), .int (oI x3), .int (oI 0), .int (oI (ld I 65 (x1 - (ld I 59 13)).toNat))]) (Nat.le_of_ble_eq_true rfl) rfl ?_
          refine s4 (x := 0) rfl ?_
          refine s68 (inRd rfl) (fun _ => ?_) (fun c46 => absurd (by decide) c46)
          refine s4 (x := ld I 65 (x1 - (ld I 59 13)).toNat) rfl ?_
          refine s68 (ld_inR _ _ _) (fun c47 => ?_) (fun c47 => ?_)
          · replace hE := hE.1 c47
            refine s0 ?_
            refine s80 ?_
            exact rqI_of hE
          · replace hE := hE.2 c47
            refine xG gb149.2.2.1 ?_
            refine s6 (p := 59) rfl ?_
            refine s4 (x := x1) rfl ?_
            refine sV rc152 rfl (Nat.le_of_ble_eq_true rfl) ?_
            refine cV_of (ls := [.ref 59, .int (oI x1), mUn]) rfl ?_
            refine xG gb152 ?_
            refine s6 (p := 59) rfl ?_
            refine s51 sh59 (by decide) (by decide) rf59_0 ?_
            refine s0 ?_
            refine sV rc350 rfl (Nat.le_of_ble_eq_true rfl) ?_
            refine k350a60 hC (inRd rfl) (fun I48 q49 q50 => ?_)
            replace hE := hE I48 q49 q50
            refine s4 (x := x1) rfl ?_
            refine s0 ?_
            refine s19 g1 ⟨(inRd rfl), by decide⟩ ?_
            refine s7 (ls' := [.ref 59, .int (oI x1), .int (oI (Int.tdiv x1 100))]) (Nat.le_of_ble_eq_true rfl) rfl ?_
            refine s6 (p := 59) rfl ?_
            refine s51 sh59 (by decide) (by decide) rf59_0 ?_
            refine s0 ?_
            refine s6 (p := 59) rfl ?_
            refine s51 sh59 (by decide) (by decide) rf59_3 ?_
            refine s6 (p := 59) rfl ?_
            refine s50 (v := ld I48 59 16) sh59 (by decide) (by decide) (oI_ld _ _ _) ?_
            refine s4 (x := x1) rfl ?_
            refine sI rc81 rfl (Nat.le_of_ble_eq_true rfl) ?_
            refine cI_of (ls := [.ref 21, .int (oI (ld I48 59 16)), .int (oI x1)]) rfl ?_
            refine xG gb81 ?_
            refine s0 ?_
            refine s4 (x := x1) rfl ?_
            refine s6 (p := 21) rfl ?_
            refine s51 sh21 (by decide) (by decide) rf21_0 ?_
            refine s4 (x := ld I48 59 16) rfl ?_
            obtain ⟨g51, hE⟩ := hE
            refine s40 (v := A 92 (ld I48 59 16).toNat) sh22 g51 rfl (rdC (RC.fr hC q49 rfl).1 rfl) ?_
            refine s17 ?_
            refine s0 ?_
            obtain ⟨g52, hE⟩ := hE
            refine s19 g52 ⟨(inRd rfl), by decide⟩ ?_
            obtain ⟨g53, hE⟩ := hE
            refine sI rc346 rfl (Nat.le_of_ble_eq_true rfl) ?_
            refine k346 (inRd rfl) g53 ?_
            refine s80 ?_
            refine rqI_of ?_
            refine s44 sh60 (by decide) (⟨by decide, by decide⟩ : (0 : Int) ≤ 1 ∧ (1 : Int) < 12) rfl ?_
            refine s6 (p := 59) rfl ?_
            refine s51 sh59 (by decide) (by decide) rf59_0 ?_
            refine s0 ?_
            refine s6 (p := 59) rfl ?_
            refine s51 sh59 (by decide) (by decide) rf59_12 ?_
            refine s4 (x := Int.tdiv x1 100) rfl ?_
            obtain ⟨g54, hE⟩ := hE
            refine s40 (v := ld I48 69 (Int.tdiv x1 100).toNat) sh69 g54 rfl ((v2_ne (by decide)).trans (oI_ld _ _ _)) ?_
            refine s44 sh60 (by decide) (⟨by decide, by decide⟩ : (0 : Int) ≤ 2 ∧ (2 : Int) < 12) rfl ?_
            refine s6 (p := 59) rfl ?_
            refine s51 sh59 (by decide) (by decide) rf59_0 ?_
            refine s0 ?_
            refine s4 (x := x1) rfl ?_
            refine s0 ?_
            refine s20 g1 ⟨(inRd rfl), by decide⟩ ?_
            refine s44 sh60 (by decide) (⟨by decide, by decide⟩ : (0 : Int) ≤ 3 ∧ (3 : Int) < 12) rfl ?_
            refine s6 (p := 59) rfl ?_
            refine s51 sh59 (by decide) (by decide) rf59_0 ?_
            refine s0 ?_
            refine s4 (x := Int.tdiv x1 100) rfl ?_
            refine s44 sh60 (by decide) (⟨by decide, by decide⟩ : (0 : Int) ≤ 4 ∧ (4 : Int) < 12) rfl ?_
            refine s6 (p := 59) rfl ?_
            refine s51 sh59 (by decide) (by decide) rf59_0 ?_
            refine s0 ?_
            refine s6 (p := 59) rfl ?_
            refine s51 sh59 (by decide) (by decide) rf59_9 ?_
            refine s4 (x := x1) rfl ?_
            refine s6 (p := 59) rfl ?_
            refine s50 (v := ld I48 59 13) sh59 (by decide) (by decide) ((v2_ne (by decide)).trans ((v2_ne (by decide)).trans ((v2_ne (by decide)).trans ((v2_ne (by decide)).trans (oI_ld _ _ _))))) ?_
            refine s17 ?_
            obtain ⟨g55, hE⟩ := hE
            refine s40 (v := ld I48 66 (x1 - (ld I48 59 13)).toNat) sh66 g55 rfl ((v2_ne (by decide)).trans ((v2_ne (by decide)).trans ((v2_ne (by decide)).trans ((v2_ne (by decide)).trans (oI_ld _ _ _))))) ?_
            refine s44 sh60 (by decide) (⟨by decide, by decide⟩ : (0 : Int) ≤ 6 ∧ (6 : Int) < 12) rfl ?_
            refine s83 ?_
            refine rqV_of ?_
            refine s6 (p := 59) rfl ?_
            refine s51 sh59 (by decide) (by decide) rf59_0 ?_
            refine s0 ?_
            refine s4 (x := x2) rfl ?_
            refine s44 sh60 (by decide) (⟨by decide, by decide⟩ : (0 : Int) ≤ 0 ∧ (0 : Int) < 12) rfl ?_
            refine s6 (p := 59) rfl ?_
            refine s51 sh59 (by decide) (by decide) rf59_0 ?_
            refine s0 ?_
            refine s4 (x := ld I 65 (x1 - (ld I 59 13)).toNat) rfl ?_
            refine s68 (ld_inR _ _ _) (fun c56 => absurd c56 c47) (fun _ => ?_)
            refine xG gb149.2.2.2.1 ?_
            refine s0 ?_
            refine s79 ?_
            refine xG gb149.2.2.2.2.1 ?_
            refine s44 sh60 (by decide) (⟨by decide, by decide⟩ : (0 : Int) ≤ 5 ∧ (5 : Int) < 12) rfl ?_
            refine s6 (p := 59) rfl ?_
            refine s51 sh59 (by decide) (by decide) rf59_0 ?_
            refine s0 ?_
            refine s6 (p := 59) rfl ?_
            refine s51 sh59 (by decide) (by decide) rf59_10 ?_
            refine s4 (x := x1) rfl ?_
            refine s6 (p := 59) rfl ?_
            refine s50 (v := ld I48 59 13) sh59 (by decide) (by decide) ((v2_ne (by decide)).trans ((v2_ne (by decide)).trans ((v2_ne (by decide)).trans ((v2_ne (by decide)).trans ((v2_ne (by decide)).trans ((v2_ne (by decide)).trans ((v2_ne (by decide)).trans (oI_ld _ _ _)))))))) ?_
            refine s17 ?_
            refine s40 (v := ld I48 67 (x1 - (ld I48 59 13)).toNat) sh67 g55 rfl ((v2_ne (by decide)).trans ((v2_ne (by decide)).trans ((v2_ne (by decide)).trans ((v2_ne (by decide)).trans ((v2_ne (by decide)).trans ((v2_ne (by decide)).trans ((v2_ne (by decide)).trans (oI_ld _ _ _)))))))) ?_
            refine s44 sh60 (by decide) (⟨by decide, by decide⟩ : (0 : Int) ≤ 11 ∧ (11 : Int) < 12) rfl ?_
            refine s4 (x := 0) rfl ?_
            refine s68 (inRd rfl) (fun _ => ?_) (fun c57 => absurd (by decide) c57)
            refine s6 (p := 59) rfl ?_
            refine s51 sh59 (by decide) (by decide) rf59_4 ?_
            refine s4 (x := x3) rfl ?_
            refine s0 ?_
            refine s4 (x := ld I 65 (x1 - (ld I 59 13)).toNat) rfl ?_
            refine s6 (p := 59) rfl ?_
            refine s51 sh59 (by decide) (by decide) rf59_0 ?_
            refine s0 ?_
            obtain ⟨g58, hE⟩ := hE
            obtain ⟨g59, hE⟩ := hE
            obtain ⟨e60, k61, hE⟩ := hE
            refine sI rc97 rfl (Nat.le_of_ble_eq_true rfl) ?_
            refine k97a60 (RC.scr (RC.scr (RC.scr (RC.scr (RC.scr (RC.scr (RC.scr (RC.scr (RC.fr hC q49 rfl) rfl) rfl) rfl) rfl) rfl) rfl) rfl) rfl) g58 k61 g59 (⟨by decide, by decide⟩ : (130 : Int) ≤ 131 ∧ (131 : Int) ≤ 144) (inRd rfl) ?_
            refine s60 ?_
            refine xG gb149.2.2.2.2.2.2 ?_
            refine s80 ?_
            exact rqI_of hE
      · replace hE := hE.2 c7
        refine s0 ?_
        refine s60 ?_
        refine xG gb151.2.2 ?_
        refine s84 (by decide) ?_
        refine rqI_of ?_
        refine s68 (inRd rfl) (fun c62 => absurd c62 (by decide)) (fun _ => ?_)
        refine xG gb150.2.1 ?_
        refine s0 ?_
        refine s79 ?_
        refine xG gb150.2.2 ?_
        refine s84 (by decide) ?_
        refine rqI_of ?_
        refine s68 (inRd rfl) (fun _ => ?_) (fun c63 => absurd (by decide) c63)
        refine s0 ?_
        refine s80 ?_
        exact rqI_of hE
  · replace hE := hE.2 c2
    refine s67 (inRd rfl) (fun _ => ?_) (fun c64 => absurd (by decide) c64)
    refine xG gb140.2.1 ?_
    refine s0 ?_
    refine s79 ?_
    refine xG gb140.2.2 ?_
    refine s80 ?_
    refine rqI_of ?_
    refine s7 (ls' := [.ref 59, .int (oI x1), .int (oI (-1))]) (Nat.le_of_ble_eq_true rfl) rfl ?_
    refine s4 (x := (-1)) rfl ?_
    refine s0 ?_
    refine s61 (inRd rfl) (inRd rfl) (fun _ => ?_) (fun c65 => absurd (by decide) c65)
    refine xG gb150.2.1 ?_
    refine s0 ?_
    refine s79 ?_
    refine xG gb150.2.2 ?_
    refine s84 (by decide) ?_
    refine rqI_of ?_
    refine s68 (inRd rfl) (fun _ => ?_) (fun c66 => absurd (by decide) c66)
    refine s0 ?_
    refine s80 ?_
    exact rqI_of hE
set_option maxRecDepth 4000 in
theorem e158 {d L : Nat} {I : Nat → Nat → Int32} {R : Nat → Nat → Option Nat} {S : List (Nat × Nat)} {K : Int32 → mM → Prop} {A : aS} (hC : RC R S I A) {x1 : Int} (hE : inR x1 ∧ (((ld I 59 13 ≤ x1 ∧ x1 ≤ ld I 59 14) → (0 ≤ x1 - (ld I 59 13) ∧ x1 - (ld I 59 13) < 100) ∧ (((ld I 62 (x1 - (ld I 59 13)).toNat = (-1)) → K (oI 0) (bd L I R S)) ∧ (¬ (ld I 62 (x1 - (ld I 59 13)).toNat = (-1)) → ((iAnd (iShr (ld I 68 (x1 - (ld I 59 13)).toNat) (ld I 62 (x1 - (ld I 59 13)).toNat)) 1 = 0) → ((ld I 67 (x1 - (ld I 59 13)).toNat = 0) → ∀ (I11 : mI), (Fr [60] [] I I11) → (∀ j : Nat, j < 12 → ld I11 60 j = 0) → (0 ≤ ld I11 59 16 ∧ ld I11 59 16 < 40) ∧ (inR (x1 - (A 92 (ld I11 59 16).toNat)) ∧ (inR (Int.tdiv (x1 - (A 92 (ld I11 59 16).toNat)) 100) ∧ ((0 ≤ Int.tdiv x1 100 ∧ Int.tdiv x1 100 < 8) ∧ ((0 ≤ x1 - (ld I11 59 13) ∧ x1 - (ld I11 59 13) < 100) ∧ (WfC A ∧ ((0 ≤ Int.tdiv x1 100 ∧ Int.tdiv x1 100 ≤ 7) ∧ (∃ e21 : Nat → Int, EnvC 60 (u2 (u2 (u2 (u2 (u2 I11 60 1 (oI (max 0 (Int.tdiv (x1 - (A 92 (ld I11 59 16).toNat)) 100)))) 60 2 (oI (ld I11 69 (Int.tdiv x1 100).toNat))) 60 3 (oI (x1 - Int.tdiv x1 100 * 100))) 60 4 (oI (Int.tdiv x1 100))) 60 6 (oI (ld I11 66 (x1 - (ld I11 59 13)).toNat))) e21 ∧ (K (oI (tlS A e21 (Int.tdiv x1 100) 137 1 0)) (bd L (u2 (u2 (u2 (u2 (u2 I11 60 1 (oI (max 0 (Int.tdiv (x1 - (A 92 (ld I11 59 16).toNat)) 100)))) 60 2 (oI (ld I11 69 (Int.tdiv x1 100).toNat))) 60 3 (oI (x1 - Int.tdiv x1 100 * 100))) 60 4 (oI (Int.tdiv x1 100))) 60 6 (oI (ld I11 66 (x1 - (ld I11 59 13)).toNat))) R S)))))))))) ∧ (¬ (ld I 67 (x1 - (ld I 59 13)).toNat = 0) → K (oI 0) (bd L I R S))) ∧ (¬ (iAnd (iShr (ld I 68 (x1 - (ld I 59 13)).toNat) (ld I 62 (x1 - (ld I 59 13)).toNat)) 1 = 0) → K (oI 0) (bd L I R S))))) ∧ (¬ (ld I 59 13 ≤ x1 ∧ x1 ≤ ld I 59 14) → K (oI 0) (bd L I R S)))) : CallI (d + 25) 158 [.ref 59, .int (oI x1)] (bd L I R S) K := by
  refine cI_of (ls := [.ref 59, .int (oI x1)]) rfl ?_
  refine xG gb158.1 ?_
  refine s6 (p := 59) rfl ?_
  refine s4 (x := x1) rfl ?_
  refine sI rc150 rfl (Nat.le_of_ble_eq_true rfl) ?_
  refine cI_of (ls := [.ref 59, .int (oI x1), mUn]) rfl ?_
  refine xG gb150.1 ?_
  refine s6 (p := 59) rfl ?_
  refine s4 (x := x1) rfl ?_
  refine sI rc140 rfl (Nat.le_of_ble_eq_true rfl) ?_
  refine cI_of (ls := [.ref 59, .int (oI x1)]) rfl ?_
  refine xG gb140.1 ?_
  refine s4 (x := x1) rfl ?_
  refine s6 (p := 59) rfl ?_
  refine s50 (v := ld I 59 13) sh59 (by decide) (by decide) (oI_ld _ _ _) ?_
  refine s6 (p := 59) rfl ?_
  refine s50 (v := ld I 59 14) sh59 (by decide) (by decide) (oI_ld _ _ _) ?_
  obtain ⟨g1, hE⟩ := hE
  refine sI rc3 rfl (Nat.le_of_ble_eq_true rfl) ?_
  refine k3 g1 (ld_inR _ _ _) (ld_inR _ _ _) (fun c2 => ?_) (fun c2 => ?_)
  · replace hE := hE.1 c2
    refine s67 (inRd rfl) (fun c3 => absurd c3 (by decide)) (fun _ => ?_)
    refine s6 (p := 59) rfl ?_
    refine s51 sh59 (by decide) (by decide) rf59_5 ?_
    refine s4 (x := x1) rfl ?_
    refine s6 (p := 59) rfl ?_
    refine s50 (v := ld I 59 13) sh59 (by decide) (by decide) (oI_ld _ _ _) ?_
    refine s17 ?_
    obtain ⟨g4, hE⟩ := hE
    refine s40 (v := ld I 62 (x1 - (ld I 59 13)).toNat) sh62 g4 rfl (oI_ld _ _ _) ?_
    refine s60 ?_
    refine xG gb140.2.2 ?_
    refine s80 ?_
    refine rqI_of ?_
    refine s7 (ls' := [.ref 59, .int (oI x1), .int (oI (ld I 62 (x1 - (ld I 59 13)).toNat))]) (Nat.le_of_ble_eq_true rfl) rfl ?_
    refine s4 (x := ld I 62 (x1 - (ld I 59 13)).toNat) rfl ?_
    refine s0 ?_
    refine s61 (ld_inR _ _ _) (inRd rfl) (fun c5 => ?_) (fun c5 => ?_)
    · replace hE := hE.1 c5
      refine xG gb150.2.1 ?_
      refine s0 ?_
      refine s79 ?_
      refine xG gb150.2.2 ?_
      refine s84 (by decide) ?_
      refine rqI_of ?_
      refine s67 (inRd rfl) (fun _ => ?_) (fun c6 => absurd (by decide) c6)
      refine xG gb158.2.1 ?_
      refine s0 ?_
      refine s80 ?_
      exact rqI_of hE
    · replace hE := hE.2 c5
      refine s6 (p := 59) rfl ?_
      refine s4 (x := ld I 62 (x1 - (ld I 59 13)).toNat) rfl ?_
      refine s4 (x := x1) rfl ?_
      refine sI rc151 rfl (Nat.le_of_ble_eq_true rfl) ?_
      refine cI_of (ls := [.ref 59, .int (oI (ld I 62 (x1 - (ld I 59 13)).toNat)), .int (oI x1)]) rfl ?_
      refine xG gb151.1 ?_
      refine s6 (p := 59) rfl ?_
      refine s51 sh59 (by decide) (by decide) rf59_11 ?_
      refine s4 (x := x1) rfl ?_
      refine s6 (p := 59) rfl ?_
      refine s50 (v := ld I 59 13) sh59 (by decide) (by decide) (oI_ld _ _ _) ?_
      refine s17 ?_
      refine s40 (v := ld I 68 (x1 - (ld I 59 13)).toNat) sh68 g4 rfl (oI_ld _ _ _) ?_
      refine s4 (x := ld I 62 (x1 - (ld I 59 13)).toNat) rfl ?_
      refine s23 ?_
      refine s0 ?_
      refine s25 ?_
      refine s67 (inR_toInt _) (fun c7 => ?_) (fun c7 => ?_)
      · replace hE := hE.1 c7
        refine xG gb151.2.1 ?_
        refine s0 ?_
        refine s79 ?_
        refine xG gb151.2.2 ?_
        refine s84 (by decide) ?_
        refine rqI_of ?_
        refine s68 (inRd rfl) (fun _ => ?_) (fun c8 => absurd (by decide) c8)
        refine s0 ?_
        refine s60 ?_
        refine xG gb150.2.2 ?_
        refine s84 (by decide) ?_
        refine rqI_of ?_
        refine s67 (inRd rfl) (fun c9 => absurd c9 (by decide)) (fun _ => ?_)
        refine s6 (p := 59) rfl ?_
        refine s51 sh59 (by decide) (by decide) rf59_10 ?_
        refine s4 (x := x1) rfl ?_
        refine s6 (p := 59) rfl ?_
        refine s50 (v := ld I 59 13) sh59 (by decide) (by decide) (oI_ld _ _ _) ?_
        refine s17 ?_
        refine s40 (v := ld I 67 (x1 - (ld I 59 13)).toNat) sh67 g4 rfl (oI_ld _ _ _) ?_
        refine s67 (ld_inR _ _ _) (fun c10 => ?_) (fun c10 => ?_)
        · replace hE := hE.1 c10
          refine xG gb158.2.2 ?_
          refine s6 (p := 59) rfl ?_
          refine s4 (x := x1) rfl ?_
          refine sV rc152 rfl (Nat.le_of_ble_eq_true rfl) ?_
          refine cV_of (ls := [.ref 59, .int (oI x1), mUn]) rfl ?_
          refine xG gb152 ?_
          refine s6 (p := 59) rfl ?_
          refine s51 sh59 (by decide) (by decide) rf59_0 ?_
          refine s0 ?_
          refine sV rc350 rfl (Nat.le_of_ble_eq_true rfl) ?_
          refine k350a60 hC (inRd rfl) (fun I11 q12 q13 => ?_)
          replace hE := hE I11 q12 q13
          refine s4 (x := x1) rfl ?_
          refine s0 ?_
          refine s19 g1 ⟨(inRd rfl), by decide⟩ ?_
          refine s7 (ls' := [.ref 59, .int (oI x1), .int (oI (Int.tdiv x1 100))]) (Nat.le_of_ble_eq_true rfl) rfl ?_
          refine s6 (p := 59) rfl ?_
          refine s51 sh59 (by decide) (by decide) rf59_0 ?_
          refine s0 ?_
          refine s6 (p := 59) rfl ?_
          refine s51 sh59 (by decide) (by decide) rf59_3 ?_
          refine s6 (p := 59) rfl ?_
          refine s50 (v := ld I11 59 16) sh59 (by decide) (by decide) (oI_ld _ _ _) ?_
          refine s4 (x := x1) rfl ?_
          refine sI rc81 rfl (Nat.le_of_ble_eq_true rfl) ?_
          refine cI_of (ls := [.ref 21, .int (oI (ld I11 59 16)), .int (oI x1)]) rfl ?_
          refine xG gb81 ?_
          refine s0 ?_
          refine s4 (x := x1) rfl ?_
          refine s6 (p := 21) rfl ?_
          refine s51 sh21 (by decide) (by decide) rf21_0 ?_
          refine s4 (x := ld I11 59 16) rfl ?_
          obtain ⟨g14, hE⟩ := hE
          refine s40 (v := A 92 (ld I11 59 16).toNat) sh22 g14 rfl (rdC (RC.fr hC q12 rfl).1 rfl) ?_
          refine s17 ?_
          refine s0 ?_
          obtain ⟨g15, hE⟩ := hE
          refine s19 g15 ⟨(inRd rfl), by decide⟩ ?_
          obtain ⟨g16, hE⟩ := hE
          refine sI rc346 rfl (Nat.le_of_ble_eq_true rfl) ?_
          refine k346 (inRd rfl) g16 ?_
          refine s80 ?_
          refine rqI_of ?_
          refine s44 sh60 (by decide) (⟨by decide, by decide⟩ : (0 : Int) ≤ 1 ∧ (1 : Int) < 12) rfl ?_
          refine s6 (p := 59) rfl ?_
          refine s51 sh59 (by decide) (by decide) rf59_0 ?_
          refine s0 ?_
          refine s6 (p := 59) rfl ?_
          refine s51 sh59 (by decide) (by decide) rf59_12 ?_
          refine s4 (x := Int.tdiv x1 100) rfl ?_
          obtain ⟨g17, hE⟩ := hE
          refine s40 (v := ld I11 69 (Int.tdiv x1 100).toNat) sh69 g17 rfl ((v2_ne (by decide)).trans (oI_ld _ _ _)) ?_
          refine s44 sh60 (by decide) (⟨by decide, by decide⟩ : (0 : Int) ≤ 2 ∧ (2 : Int) < 12) rfl ?_
          refine s6 (p := 59) rfl ?_
          refine s51 sh59 (by decide) (by decide) rf59_0 ?_
          refine s0 ?_
          refine s4 (x := x1) rfl ?_
          refine s0 ?_
          refine s20 g1 ⟨(inRd rfl), by decide⟩ ?_
          refine s44 sh60 (by decide) (⟨by decide, by decide⟩ : (0 : Int) ≤ 3 ∧ (3 : Int) < 12) rfl ?_
          refine s6 (p := 59) rfl ?_
          refine s51 sh59 (by decide) (by decide) rf59_0 ?_
          refine s0 ?_
          refine s4 (x := Int.tdiv x1 100) rfl ?_
          refine s44 sh60 (by decide) (⟨by decide, by decide⟩ : (0 : Int) ≤ 4 ∧ (4 : Int) < 12) rfl ?_
          refine s6 (p := 59) rfl ?_
          refine s51 sh59 (by decide) (by decide) rf59_0 ?_
          refine s0 ?_
          refine s6 (p := 59) rfl ?_
          refine s51 sh59 (by decide) (by decide) rf59_9 ?_
          refine s4 (x := x1) rfl ?_
          refine s6 (p := 59) rfl ?_
          refine s50 (v := ld I11 59 13) sh59 (by decide) (by decide) ((v2_ne (by decide)).trans ((v2_ne (by decide)).trans ((v2_ne (by decide)).trans ((v2_ne (by decide)).trans (oI_ld _ _ _))))) ?_
          refine s17 ?_
          obtain ⟨g18, hE⟩ := hE
          refine s40 (v := ld I11 66 (x1 - (ld I11 59 13)).toNat) sh66 g18 rfl ((v2_ne (by decide)).trans ((v2_ne (by decide)).trans ((v2_ne (by decide)).trans ((v2_ne (by decide)).trans (oI_ld _ _ _))))) ?_
          refine s44 sh60 (by decide) (⟨by decide, by decide⟩ : (0 : Int) ≤ 6 ∧ (6 : Int) < 12) rfl ?_
          refine s83 ?_
          refine rqV_of ?_
          refine s6 (p := 59) rfl ?_
          refine s51 sh59 (by decide) (by decide) rf59_4 ?_
          refine s4 (x := x1) rfl ?_
          refine s0 ?_
          refine s19 g1 ⟨(inRd rfl), by decide⟩ ?_
          refine s0 ?_
          refine s0 ?_
          refine s6 (p := 59) rfl ?_
          refine s51 sh59 (by decide) (by decide) rf59_0 ?_
          refine s0 ?_
          obtain ⟨g19, hE⟩ := hE
          obtain ⟨g20, hE⟩ := hE
          obtain ⟨e21, k22, hE⟩ := hE
          refine sI rc97 rfl (Nat.le_of_ble_eq_true rfl) ?_
          refine k97a60 (RC.scr (RC.scr (RC.scr (RC.scr (RC.scr (RC.fr hC q12 rfl) rfl) rfl) rfl) rfl) rfl) g19 k22 g20 (⟨by decide, by decide⟩ : (130 : Int) ≤ 137 ∧ (137 : Int) ≤ 144) (inRd rfl) ?_
          refine s80 ?_
          exact rqI_of hE
        · replace hE := hE.2 c10
          refine s79 ?_
          refine xG gb158.2.1 ?_
          refine s0 ?_
          refine s80 ?_
          exact rqI_of hE
      · replace hE := hE.2 c7
        refine s0 ?_
        refine s60 ?_
        refine xG gb151.2.2 ?_
        refine s84 (by decide) ?_
        refine rqI_of ?_
        refine s68 (inRd rfl) (fun c23 => absurd c23 (by decide)) (fun _ => ?_)
        refine xG gb150.2.1 ?_
        refine s0 ?_
        refine s79 ?_
        refine xG gb150.2.2 ?_
        refine s84 (by decide) ?_
        refine rqI_of ?_
        refine s67 (inRd rfl) (fun _ => ?_) (fun c24 => absurd (by decide) c24)
        refine xG gb158.2.1 ?_
        refine s0 ?_
        refine s80 ?_
        exact rqI_of hE
  · replace hE := hE.2 c2
    refine s67 (inRd rfl) (fun _ => ?_) (fun c25 => absurd (by decide) c25)
    refine xG gb140.2.1 ?_
    refine s0 ?_
    refine s79 ?_
    refine xG gb140.2.2 ?_
    refine s80 ?_
    refine rqI_of ?_
    refine s7 (ls' := [.ref 59, .int (oI x1), .int (oI (-1))]) (Nat.le_of_ble_eq_true rfl) rfl ?_
    refine s4 (x := (-1)) rfl ?_
    refine s0 ?_
    refine s61 (inRd rfl) (inRd rfl) (fun _ => ?_) (fun c26 => absurd (by decide) c26)
    refine xG gb150.2.1 ?_
    refine s0 ?_
    refine s79 ?_
    refine xG gb150.2.2 ?_
    refine s84 (by decide) ?_
    refine rqI_of ?_
    refine s67 (inRd rfl) (fun _ => ?_) (fun c27 => absurd (by decide) c27)
    refine xG gb158.2.1 ?_
    refine s0 ?_
    refine s80 ?_
    exact rqI_of hE
set_option maxRecDepth 4000 in
theorem e141 {d L : Nat} {I : Nat → Nat → Int32} {R : Nat → Nat → Option Nat} {S : List (Nat × Nat)} {K : Int32 → mM → Prop} {A : aS} (hC : RC R S I A) {x1 : Int} {x2 : Int} {x3 : Int} (hE : WfA A ∧ (WnOk x2 x2 x3 ∧ (∀ (I3 : mI), (Fr [68] [(59, 13), (59, 14), (59, 15)] I I3) → (WnP I3 x2 x2 x3) → (ShP A I3 x2 x2 x3) → inR x2 ∧ (WfP A ∧ (WfC A ∧ ((0 ≤ x1 ∧ x1 < A 91 1) ∧ ((0 ≤ Int.tdiv x2 100 ∧ Int.tdiv x2 100 ≤ 7) ∧ ((0 ≤ ld I3 59 15 ∧ ld I3 59 15 ≤ 799) ∧ (∀ (I13 : mI), (Fr [60, 61, 69] [] I3 I13) → (∀ j : Nat, (j : Int) ≤ Int.tdiv x2 100 → ld I13 69 j = stS A x1 j (ld I3 59 15)) → ∀ (I16 : mI), (Fr [60] [] I13 I16) → (∀ j : Nat, j < 12 → ld I16 60 j = 0) → (0 ≤ x1 ∧ x1 < 40) ∧ (inR (x2 - (A 92 x1.toNat)) ∧ (inR (Int.tdiv (x2 - (A 92 x1.toNat)) 100) ∧ (∃ e22 : Nat → Int, EnvC 60 (u2 (u2 (u2 I16 60 1 (oI (max 0 (Int.tdiv (x2 - (A 92 x1.toNat)) 100)))) 60 2 (oI (stS A x1 (Int.tdiv x2 100) (ld I3 59 15)))) 60 4 (oI (Int.tdiv x2 100))) e22 ∧ (inR (tlS A e22 (Int.tdiv x2 100) 144 1 (-1)) ∧ (((tlS A e22 (Int.tdiv x2 100) 144 1 (-1) = (-1)) → K (oI 0) (bd L (u2 (u2 (u2 I16 60 1 (oI (max 0 (Int.tdiv (x2 - (A 92 x1.toNat)) 100)))) 60 2 (oI (stS A x1 (Int.tdiv x2 100) (ld I3 59 15)))) 60 4 (oI (Int.tdiv x2 100))) R S)) ∧ (¬ (tlS A e22 (Int.tdiv x2 100) 144 1 (-1) = (-1)) → K (oI 1) (bd L (u2 (u2 (u2 I16 60 1 (oI (max 0 (Int.tdiv (x2 - (A 92 x1.toNat)) 100)))) 60 2 (oI (stS A x1 (Int.tdiv x2 100) (ld I3 59 15)))) 60 4 (oI (Int.tdiv x2 100))) R S)))))))))))))))) : CallI (d + 28) 141 [.ref 59, .int (oI x1), .int (oI x2), .int (oI x3)] (bd L I R S) K := by
  refine cI_of (ls := [.ref 59, .int (oI x1), .int (oI x2), .int (oI x3), mUn, mUn]) rfl ?_
  refine xG gb141.1 ?_
  refine s6 (p := 59) rfl ?_
  refine s4 (x := x2) rfl ?_
  refine s4 (x := x2) rfl ?_
  refine s4 (x := x3) rfl ?_
  obtain ⟨g1, hE⟩ := hE
  obtain ⟨g2, hE⟩ := hE
  refine sV rc134 rfl (Nat.le_of_ble_eq_true rfl) ?_
  refine k134 hC g1 g2 (fun I3 q4 q5 q6 => ?_)
  replace hE := hE I3 q4 q5 q6
  refine s4 (x := x2) rfl ?_
  refine s0 ?_
  obtain ⟨g7, hE⟩ := hE
  refine s19 g7 ⟨(inRd rfl), by decide⟩ ?_
  refine s7 (ls' := [.ref 59, .int (oI x1), .int (oI x2), .int (oI x3), .int (oI (Int.tdiv x2 100)), mUn]) (Nat.le_of_ble_eq_true rfl) rfl ?_
  refine s6 (p := 59) rfl ?_
  refine s4 (x := x1) rfl ?_
  refine s4 (x := Int.tdiv x2 100) rfl ?_
  obtain ⟨g8, hE⟩ := hE
  obtain ⟨g9, hE⟩ := hE
  obtain ⟨g10, hE⟩ := hE
  obtain ⟨g11, hE⟩ := hE
  obtain ⟨g12, hE⟩ := hE
  refine sI rc142 rfl (Nat.le_of_ble_eq_true rfl) ?_
  refine k142 (RC.fr hC q4 rfl) g1 g8 g9 g10 g11 g12 (fun I13 q14 q15 => ?_)
  replace hE := hE I13 q14 q15
  refine s7 (ls' := [.ref 59, .int (oI x1), .int (oI x2), .int (oI x3), .int (oI (Int.tdiv x2 100)), .int (oI (stS A x1 (Int.tdiv x2 100) (ld I3 59 15)))]) (Nat.le_of_ble_eq_true rfl) rfl ?_
  refine s6 (p := 59) rfl ?_
  refine s51 sh59 (by decide) (by decide) rf59_0 ?_
  refine s0 ?_
  refine sV rc350 rfl (Nat.le_of_ble_eq_true rfl) ?_
  refine k350a60 (RC.fr (RC.fr hC q4 rfl) q14 rfl) (inRd rfl) (fun I16 q17 q18 => ?_)
  replace hE := hE I16 q17 q18
  refine s6 (p := 59) rfl ?_
  refine s51 sh59 (by decide) (by decide) rf59_0 ?_
  refine s0 ?_
  refine s6 (p := 59) rfl ?_
  refine s51 sh59 (by decide) (by decide) rf59_3 ?_
  refine s4 (x := x1) rfl ?_
  refine s4 (x := x2) rfl ?_
  refine sI rc81 rfl (Nat.le_of_ble_eq_true rfl) ?_
  refine cI_of (ls := [.ref 21, .int (oI x1), .int (oI x2)]) rfl ?_
  refine xG gb81 ?_
  refine s0 ?_
  refine s4 (x := x2) rfl ?_
  refine s6 (p := 21) rfl ?_
  refine s51 sh21 (by decide) (by decide) rf21_0 ?_
  refine s4 (x := x1) rfl ?_
  obtain ⟨g19, hE⟩ := hE
  refine s40 (v := A 92 x1.toNat) sh22 g19 rfl (rdC (RC.fr (RC.fr (RC.fr hC q4 rfl) q14 rfl) q17 rfl).1 rfl) ?_
  refine s17 ?_
  refine s0 ?_
  obtain ⟨g20, hE⟩ := hE
  refine s19 g20 ⟨(inRd rfl), by decide⟩ ?_
  obtain ⟨g21, hE⟩ := hE
  refine sI rc346 rfl (Nat.le_of_ble_eq_true rfl) ?_
  refine k346 (inRd rfl) g21 ?_
  refine s80 ?_
  refine rqI_of ?_
  refine s44 sh60 (by decide) (⟨by decide, by decide⟩ : (0 : Int) ≤ 1 ∧ (1 : Int) < 12) rfl ?_
  refine s6 (p := 59) rfl ?_
  refine s51 sh59 (by decide) (by decide) rf59_0 ?_
  refine s0 ?_
  refine s4 (x := stS A x1 (Int.tdiv x2 100) (ld I3 59 15)) rfl ?_
  refine s44 sh60 (by decide) (⟨by decide, by decide⟩ : (0 : Int) ≤ 2 ∧ (2 : Int) < 12) rfl ?_
  refine s6 (p := 59) rfl ?_
  refine s51 sh59 (by decide) (by decide) rf59_0 ?_
  refine s0 ?_
  refine s4 (x := Int.tdiv x2 100) rfl ?_
  refine s44 sh60 (by decide) (⟨by decide, by decide⟩ : (0 : Int) ≤ 4 ∧ (4 : Int) < 12) rfl ?_
  refine s6 (p := 59) rfl ?_
  refine s51 sh59 (by decide) (by decide) rf59_4 ?_
  refine s4 (x := Int.tdiv x2 100) rfl ?_
  refine s0 ?_
  refine s0 ?_
  refine s6 (p := 59) rfl ?_
  refine s51 sh59 (by decide) (by decide) rf59_0 ?_
  refine s0 ?_
  obtain ⟨e22, k23, hE⟩ := hE
  refine sI rc97 rfl (Nat.le_of_ble_eq_true rfl) ?_
  refine k97a60 (RC.scr (RC.scr (RC.scr (RC.fr (RC.fr (RC.fr hC q4 rfl) q14 rfl) q17 rfl) rfl) rfl) rfl) g9 k23 g11 (⟨by decide, by decide⟩ : (130 : Int) ≤ 144 ∧ (144 : Int) ≤ 144) (inRd rfl) ?_
  refine s0 ?_
  obtain ⟨g24, hE⟩ := hE
  refine s61 g24 (inRd rfl) (fun c25 => ?_) (fun c25 => ?_)
  · replace hE := hE.1 c25
    refine xG gb141.2.1 ?_
    refine s0 ?_
    refine s79 ?_
    refine xG gb141.2.2 ?_
    refine s84 (by decide) ?_
    exact rqI_of hE
  · replace hE := hE.2 c25
    refine s0 ?_
    refine s60 ?_
    refine xG gb141.2.2 ?_
    refine s84 (by decide) ?_
    exact rqI_of hE
def h155_1 (d L : Nat) (I : Nat → Nat → Int32) (R : Nat → Nat → Option Nat) (S : List (Nat × Nat)) (Q : Option Value → mM → Prop) (x1 : Int) (x2 : Int) (x3 : Int) : Prop := Wp d (gb 155 1) [.ref 59, .int (oI x1), .int (oI x2), .int (oI x3)] [] (bd L I R S) Q
set_option maxRecDepth 4000 in
theorem e155_1 {d L : Nat} {I : Nat → Nat → Int32} {R : Nat → Nat → Option Nat} {S : List (Nat × Nat)} {Q : Option Value → mM → Prop} {A : aS} (hC : RC R S I A) {x1 : Int} {x2 : Int} {x3 : Int} (hE : inR x3 ∧ (((ld I 59 14 < x3) → Q (some (.int (oI x2))) (bd L I R S)) ∧ (¬ (ld I 59 14 < x3) → (0 ≤ x3 - (ld I 59 13) ∧ x3 - (ld I 59 13) < 100) ∧ (((iAnd (iShr (ld I 68 (x3 - (ld I 59 13)).toNat) x1) 1 = 0) → h155_1 (d + 1) L I R S Q x1 (x2 + 1) (x3 + 1)) ∧ (¬ (iAnd (iShr (ld I 68 (x3 - (ld I 59 13)).toNat) x1) 1 = 0) → h155_1 (d + 1) L I R S Q x1 (x2 + 0) (x3 + 1)))))) : h155_1 (d + 1) L I R S Q x1 x2 x3 := by
  unfold h155_1
  refine xG gb155.2.1 ?_
  refine s4 (x := x3) rfl ?_
  refine s6 (p := 59) rfl ?_
  refine s50 (v := ld I 59 14) sh59 (by decide) (by decide) (oI_ld _ _ _) ?_
  obtain ⟨g1, hE⟩ := hE
  refine s65 g1 (ld_inR _ _ _) (fun c2 => ?_) (fun c2 => ?_)
  · replace hE := hE.1 c2
    refine xG gb155.2.2.2.2 ?_
    refine s4 (x := x2) rfl ?_
    refine s80 ?_
    exact hE
  · replace hE := hE.2 c2
    refine s4 (x := x2) rfl ?_
    refine s6 (p := 59) rfl ?_
    refine s4 (x := x1) rfl ?_
    refine s4 (x := x3) rfl ?_
    refine sI rc151 rfl (Nat.le_of_ble_eq_true rfl) ?_
    refine cI_of (ls := [.ref 59, .int (oI x1), .int (oI x3)]) rfl ?_
    refine xG gb151.1 ?_
    refine s6 (p := 59) rfl ?_
    refine s51 sh59 (by decide) (by decide) rf59_11 ?_
    refine s4 (x := x3) rfl ?_
    refine s6 (p := 59) rfl ?_
    refine s50 (v := ld I 59 13) sh59 (by decide) (by decide) (oI_ld _ _ _) ?_
    refine s17 ?_
    obtain ⟨g3, hE⟩ := hE
    refine s40 (v := ld I 68 (x3 - (ld I 59 13)).toNat) sh68 g3 rfl (oI_ld _ _ _) ?_
    refine s4 (x := x1) rfl ?_
    refine s23 ?_
    refine s0 ?_
    refine s25 ?_
    refine s67 (inR_toInt _) (fun c4 => ?_) (fun c4 => ?_)
    · replace hE := hE.1 c4
      refine xG gb151.2.1 ?_
      refine s0 ?_
      refine s79 ?_
      refine xG gb151.2.2 ?_
      refine s84 (by decide) ?_
      refine rqI_of ?_
      refine s67 (inRd rfl) (fun _ => ?_) (fun c5 => absurd (by decide) c5)
      refine xG gb155.2.2.1 ?_
      refine s0 ?_
      refine s79 ?_
      refine xG gb155.2.2.2.1 ?_
      refine s16 ?_
      refine s7 (ls' := [.ref 59, .int (oI x1), .int (oI (x2 + 1)), .int (oI x3)]) (Nat.le_of_ble_eq_true rfl) rfl ?_
      refine s10 (x := x3) (ls' := [.ref 59, .int (oI x1), .int (oI (x2 + 1)), .int (oI (x3 + 1))]) rfl rfl ?_
      refine s60 ?_
      exact hE
    · replace hE := hE.2 c4
      refine s0 ?_
      refine s60 ?_
      refine xG gb151.2.2 ?_
      refine s84 (by decide) ?_
      refine rqI_of ?_
      refine s67 (inRd rfl) (fun c6 => absurd c6 (by decide)) (fun _ => ?_)
      refine s0 ?_
      refine s60 ?_
      refine xG gb155.2.2.2.1 ?_
      refine s16 ?_
      refine s7 (ls' := [.ref 59, .int (oI x1), .int (oI (x2 + 0)), .int (oI x3)]) (Nat.le_of_ble_eq_true rfl) rfl ?_
      refine s10 (x := x3) (ls' := [.ref 59, .int (oI x1), .int (oI (x2 + 0)), .int (oI (x3 + 1))]) rfl rfl ?_
      refine s60 ?_
      exact hE
set_option maxRecDepth 4000 in
theorem e155 {d L : Nat} {I : Nat → Nat → Int32} {R : Nat → Nat → Option Nat} {S : List (Nat × Nat)} {K : Int32 → mM → Prop} {A : aS} (hC : RC R S I A) {x1 : Int} (hE : h155_1 d L I R S (rqI K) x1 0 (ld I 59 13)) : CallI d 155 [.ref 59, .int (oI x1)] (bd L I R S) K := by
  refine cI_of (ls := [.ref 59, .int (oI x1), mUn, mUn]) rfl ?_
  refine xG gb155.1 ?_
  refine s0 ?_
  refine s7 (ls' := [.ref 59, .int (oI x1), .int (oI 0), mUn]) (Nat.le_of_ble_eq_true rfl) rfl ?_
  refine s6 (p := 59) rfl ?_
  refine s50 (v := ld I 59 13) sh59 (by decide) (by decide) (oI_ld _ _ _) ?_
  refine s7 (ls' := [.ref 59, .int (oI x1), .int (oI 0), .int (oI (ld I 59 13))]) (Nat.le_of_ble_eq_true rfl) rfl ?_
  refine s79 ?_
  exact hE
