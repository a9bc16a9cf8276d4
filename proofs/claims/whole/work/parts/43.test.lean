/-! test -/
theorem e210 {d L : Nat} {I : Nat → Nat → Int32} {R : Nat → Nat → Option Nat} {S : List (Nat × Nat)} {K : Int32 → mM → Prop} {A : aS} (hM : RelM I A) {x0 : Int} {x1 : Int} {x2 : Int} (hE : inR x0 ∧ (inR x1 ∧ (((x0 < x1) → K (oI 0) (bd L I R S)) ∧ (¬ (x0 < x1) → inR x2 ∧ (((x2 < x0) → K (oI 0) (bd L I R S)) ∧ (¬ (x2 < x0) → K (oI 1) (bd L I R S))))))) : CallI d 210 [.int (oI x0), .int (oI x1), .int (oI x2)] (bd L I R S) K := by
  refine cI_of (ls := [.int (oI x0), .int (oI x1), .int (oI x2)]) rfl ?_
  refine xG gb210.1 ?_
  refine s4 (x := x0) rfl ?_
  refine s4 (x := x1) rfl ?_
  obtain ⟨g1, hE⟩ := hE
  obtain ⟨g2, hE⟩ := hE
  refine s63 g1 g2 (fun c3 => ?_) (fun c3 => ?_)
  · replace hE := hE.1 c3
    refine xG gb210.2.1 ?_
    refine s0 ?_
    refine s79 ?_
    refine xG gb210.2.2 ?_
    refine s84 (by decide) ?_
    exact rqI_of hE
  · replace hE := hE.2 c3
    refine s4 (x := x0) rfl ?_
    refine s4 (x := x2) rfl ?_
    obtain ⟨g4, hE⟩ := hE
    refine s65 g1 g4 (fun c5 => ?_) (fun c5 => ?_)
    · replace hE := hE.1 c5
      refine xG gb210.2.1 ?_
      refine s0 ?_
      refine s79 ?_
      refine xG gb210.2.2 ?_
      refine s84 (by decide) ?_
      exact rqI_of hE
    · replace hE := hE.2 c5
      refine s0 ?_
      refine s60 ?_
      refine xG gb210.2.2 ?_
      refine s84 (by decide) ?_
      exact rqI_of hE
theorem e208 {d L : Nat} {I : Nat → Nat → Int32} {R : Nat → Nat → Option Nat} {S : List (Nat × Nat)} {K : Int32 → mM → Prop} {A : aS} (hM : RelM I A) {x1 : Int} (hE : inR x1 ∧ (((A 91 0 < x1) → ((799 < x1) → K (oI 0) (bd L I R S)) ∧ (¬ (799 < x1) → K (oI 1) (bd L (u2 I 91 0 (oI x1)) R S))) ∧ (¬ (A 91 0 < x1) → K (oI 0) (bd L I R S)))) : CallI d 208 [.ref 91, .int (oI x1)] (bd L I R S) K := by
  refine cI_of (ls := [.ref 91, .int (oI x1)]) rfl ?_
  refine xG gb208.1 ?_
  refine s4 (x := x1) rfl ?_
  refine s6 (p := 91) rfl ?_
  refine s50 (v := A 91 0) sh91 (by decide) (by decide) (rdM hM rfl) ?_
  obtain ⟨g1, hE⟩ := hE
  refine s66 g1 (inA hM (a := 91) (k := 0) rfl) (fun c2 => ?_) (fun c2 => ?_)
  · replace hE := hE.1 c2
    refine s4 (x := x1) rfl ?_
    refine s0 ?_
    refine s66 g1 (inRd rfl) (fun c3 => ?_) (fun c3 => ?_)
    · replace hE := hE.1 c3
      refine s79 ?_
      refine xG gb208.2.1 ?_
      refine s0 ?_
      refine s84 (by decide) ?_
      exact rqI_of hE
    · replace hE := hE.2 c3
      refine xG gb208.2.2 ?_
      refine s6 (p := 91) rfl ?_
      refine s4 (x := x1) rfl ?_
      refine s52 sh91 (by decide) (by decide) ?_
      refine s0 ?_
      refine s84 (by decide) ?_
      exact rqI_of hE
  · replace hE := hE.2 c2
    refine xG gb208.2.1 ?_
    refine s0 ?_
    refine s84 (by decide) ?_
    exact rqI_of hE
theorem e211 {d L : Nat} {I : Nat → Nat → Int32} {R : Nat → Nat → Option Nat} {S : List (Nat × Nat)} {K : Int32 → mM → Prop} {A : aS} (hM : RelM I A) {x1 : Int} {x2 : Int} {x3 : Int} (hE : inR x1 ∧ (((x1 < 0) → K (oI (-1)) (bd L I R S)) ∧ (¬ (x1 < 0) → ((60 < x1) → K (oI (-1)) (bd L I R S)) ∧ (¬ (60 < x1) → inR x2 ∧ (((x2 < 0) → K (oI (-1)) (bd L I R S)) ∧ (¬ (x2 < 0) → ((60 < x2) → K (oI (-1)) (bd L I R S)) ∧ (¬ (60 < x2) → inR x3 ∧ (((x3 < 0) → K (oI (-1)) (bd L I R S)) ∧ (¬ (x3 < 0) → ((9999 < x3) → K (oI (-1)) (bd L I R S)) ∧ (¬ (9999 < x3) → ((A 91 2 = 6) → K (oI (-1)) (bd L I R S)) ∧ (¬ (A 91 2 = 6) → (0 ≤ A 91 2 ∧ A 91 2 < 6) ∧ (K (oI (A 91 2 + 1 - 1)) (bd L (u2 (u2 (u2 (u2 I 98 (A 91 2).toNat (oI x1)) 99 (A 91 2).toNat (oI x2)) 100 (A 91 2).toNat (oI x3)) 91 2 (oI (A 91 2 + 1))) R S))))))))))))) : CallI (d + 2) 211 [.ref 91, .int (oI x1), .int (oI x2), .int (oI x3)] (bd L I R S) K := by
  refine cI_of (ls := [.ref 91, .int (oI x1), .int (oI x2), .int (oI x3)]) rfl ?_
  refine xG gb211.1 ?_
  refine s4 (x := x1) rfl ?_
  refine s4 (x := x2) rfl ?_
  refine sI rc212 rfl (Nat.le_of_ble_eq_true rfl) ?_
  refine cI_of (ls := [.int (oI x1), .int (oI x2)]) rfl ?_
  refine xG gb212.1 ?_
  refine s4 (x := x1) rfl ?_
  refine s0 ?_
  refine s0 ?_
  refine sI rc210 rfl (Nat.le_of_ble_eq_true rfl) ?_
  refine cI_of (ls := [.int (oI x1), .int (oI 0), .int (oI 60)]) rfl ?_
  refine xG gb210.1 ?_
  refine s4 (x := x1) rfl ?_
  refine s4 (x := 0) rfl ?_
  obtain ⟨g1, hE⟩ := hE
  refine s63 g1 (inRd rfl) (fun c2 => ?_) (fun c2 => ?_)
  · replace hE := hE.1 c2
    refine xG gb210.2.1 ?_
    refine s0 ?_
    refine s79 ?_
    refine xG gb210.2.2 ?_
    refine s84 (by decide) ?_
    refine rqI_of ?_
    refine s67 (inRd rfl) (fun _ => ?_) (fun c3 => absurd (by decide) c3)
    refine xG gb212.2.1 ?_
    refine s0 ?_
    refine s79 ?_
    refine xG gb212.2.2 ?_
    refine s84 (by decide) ?_
    refine rqI_of ?_
    refine s67 (inRd rfl) (fun _ => ?_) (fun c4 => absurd (by decide) c4)
    refine xG gb211.2.1 ?_
    refine s0 ?_
    refine s80 ?_
    exact rqI_of hE
  · replace hE := hE.2 c2
    refine s4 (x := x1) rfl ?_
    refine s4 (x := 60) rfl ?_
    refine s65 g1 (inRd rfl) (fun c5 => ?_) (fun c5 => ?_)
    · replace hE := hE.1 c5
      refine xG gb210.2.1 ?_
      refine s0 ?_
      refine s79 ?_
      refine xG gb210.2.2 ?_
      refine s84 (by decide) ?_
      refine rqI_of ?_
      refine s67 (inRd rfl) (fun _ => ?_) (fun c6 => absurd (by decide) c6)
      refine xG gb212.2.1 ?_
      refine s0 ?_
      refine s79 ?_
      refine xG gb212.2.2 ?_
      refine s84 (by decide) ?_
      refine rqI_of ?_
      refine s67 (inRd rfl) (fun _ => ?_) (fun c7 => absurd (by decide) c7)
      refine xG gb211.2.1 ?_
      refine s0 ?_
      refine s80 ?_
      exact rqI_of hE
    · replace hE := hE.2 c5
      refine s0 ?_
      refine s60 ?_
      refine xG gb210.2.2 ?_
      refine s84 (by decide) ?_
      refine rqI_of ?_
      refine s67 (inRd rfl) (fun c8 => absurd c8 (by decide)) (fun _ => ?_)
      refine s4 (x := x2) rfl ?_
      refine s0 ?_
      refine s0 ?_
      refine sI rc210 rfl (Nat.le_of_ble_eq_true rfl) ?_
      refine cI_of (ls := [.int (oI x2), .int (oI 0), .int (oI 60)]) rfl ?_
      refine xG gb210.1 ?_
      refine s4 (x := x2) rfl ?_
      refine s4 (x := 0) rfl ?_
      obtain ⟨g9, hE⟩ := hE
      refine s63 g9 (inRd rfl) (fun c10 => ?_) (fun c10 => ?_)
      · replace hE := hE.1 c10
        refine xG gb210.2.1 ?_
        refine s0 ?_
        refine s79 ?_
        refine xG gb210.2.2 ?_
        refine s84 (by decide) ?_
        refine rqI_of ?_
        refine s67 (inRd rfl) (fun _ => ?_) (fun c11 => absurd (by decide) c11)
        refine xG gb212.2.1 ?_
        refine s0 ?_
        refine s79 ?_
        refine xG gb212.2.2 ?_
        refine s84 (by decide) ?_
        refine rqI_of ?_
        refine s67 (inRd rfl) (fun _ => ?_) (fun c12 => absurd (by decide) c12)
        refine xG gb211.2.1 ?_
        refine s0 ?_
        refine s80 ?_
        exact rqI_of hE
      · replace hE := hE.2 c10
        refine s4 (x := x2) rfl ?_
        refine s4 (x := 60) rfl ?_
        refine s65 g9 (inRd rfl) (fun c13 => ?_) (fun c13 => ?_)
        · replace hE := hE.1 c13
          refine xG gb210.2.1 ?_
          refine s0 ?_
          refine s79 ?_
          refine xG gb210.2.2 ?_
          refine s84 (by decide) ?_
          refine rqI_of ?_
          refine s67 (inRd rfl) (fun _ => ?_) (fun c14 => absurd (by decide) c14)
          refine xG gb212.2.1 ?_
          refine s0 ?_
          refine s79 ?_
          refine xG gb212.2.2 ?_
          refine s84 (by decide) ?_
          refine rqI_of ?_
          refine s67 (inRd rfl) (fun _ => ?_) (fun c15 => absurd (by decide) c15)
          refine xG gb211.2.1 ?_
          refine s0 ?_
          refine s80 ?_
          exact rqI_of hE
        · replace hE := hE.2 c13
          refine s0 ?_
          refine s60 ?_
          refine xG gb210.2.2 ?_
          refine s84 (by decide) ?_
          refine rqI_of ?_
          refine s67 (inRd rfl) (fun c16 => absurd c16 (by decide)) (fun _ => ?_)
          refine s0 ?_
          refine s60 ?_
          refine xG gb212.2.2 ?_
          refine s84 (by decide) ?_
          refine rqI_of ?_
          refine s67 (inRd rfl) (fun c17 => absurd c17 (by decide)) (fun _ => ?_)
          refine s4 (x := x3) rfl ?_
          refine s0 ?_
          refine s0 ?_
          refine sI rc210 rfl (Nat.le_of_ble_eq_true rfl) ?_
          refine cI_of (ls := [.int (oI x3), .int (oI 0), .int (oI 9999)]) rfl ?_
          refine xG gb210.1 ?_
          refine s4 (x := x3) rfl ?_
          refine s4 (x := 0) rfl ?_
          obtain ⟨g18, hE⟩ := hE
          refine s63 g18 (inRd rfl) (fun c19 => ?_) (fun c19 => ?_)
          · replace hE := hE.1 c19
            refine xG gb210.2.1 ?_
            refine s0 ?_
            refine s79 ?_
            refine xG gb210.2.2 ?_
            refine s84 (by decide) ?_
            refine rqI_of ?_
            refine s67 (inRd rfl) (fun _ => ?_) (fun c20 => absurd (by decide) c20)
            refine xG gb211.2.1 ?_
            refine s0 ?_
            refine s80 ?_
            exact rqI_of hE
          · replace hE := hE.2 c19
            refine s4 (x := x3) rfl ?_
            refine s4 (x := 9999) rfl ?_
            refine s65 g18 (inRd rfl) (fun c21 => ?_) (fun c21 => ?_)
            · replace hE := hE.1 c21
              refine xG gb210.2.1 ?_
              refine s0 ?_
              refine s79 ?_
              refine xG gb210.2.2 ?_
              refine s84 (by decide) ?_
              refine rqI_of ?_
              refine s67 (inRd rfl) (fun _ => ?_) (fun c22 => absurd (by decide) c22)
              refine xG gb211.2.1 ?_
              refine s0 ?_
              refine s80 ?_
              exact rqI_of hE
            · replace hE := hE.2 c21
              refine s0 ?_
              refine s60 ?_
              refine xG gb210.2.2 ?_
              refine s84 (by decide) ?_
              refine rqI_of ?_
              refine s67 (inRd rfl) (fun c23 => absurd c23 (by decide)) (fun _ => ?_)
              refine s6 (p := 91) rfl ?_
              refine s50 (v := A 91 2) sh91 (by decide) (by decide) (rdM hM rfl) ?_
              refine s0 ?_
              refine s62 (inA hM (a := 91) (k := 2) rfl) (inRd rfl) (fun c24 => ?_) (fun c24 => ?_)
              · replace hE := hE.1 c24
                refine s79 ?_
                refine xG gb211.2.1 ?_
                refine s0 ?_
                refine s80 ?_
                exact rqI_of hE
              · replace hE := hE.2 c24
                refine xG gb211.2.2 ?_
                refine s6 (p := 91) rfl ?_
                refine s51 sh91 (by decide) (by decide) rf91_11 ?_
                refine s6 (p := 91) rfl ?_
                refine s50 (v := A 91 2) sh91 (by decide) (by decide) (rdM hM rfl) ?_
                refine s4 (x := x1) rfl ?_
                obtain ⟨g25, hE⟩ := hE
                refine s44 sh98 (by decide) g25 rfl ?_
                refine s6 (p := 91) rfl ?_
                refine s51 sh91 (by decide) (by decide) rf91_12 ?_
                refine s6 (p := 91) rfl ?_
                refine s50 (v := A 91 2) sh91 (by decide) (by decide) ((v2_ne (by decide)).trans (rdM hM rfl)) ?_
                refine s4 (x := x2) rfl ?_
                refine s44 sh99 (by decide) g25 rfl ?_
                refine s6 (p := 91) rfl ?_
                refine s51 sh91 (by decide) (by decide) rf91_13 ?_
                refine s6 (p := 91) rfl ?_
                refine s50 (v := A 91 2) sh91 (by decide) (by decide) ((v2_ne (by decide)).trans ((v2_ne (by decide)).trans (rdM hM rfl))) ?_
                refine s4 (x := x3) rfl ?_
                refine s44 sh100 (by decide) g25 rfl ?_
                refine s6 (p := 91) rfl ?_
                refine s13r ?_
                refine s50 (v := A 91 2) sh91 (by decide) (by decide) ((v2_ne (by decide)).trans ((v2_ne (by decide)).trans ((v2_ne (by decide)).trans (rdM hM rfl)))) ?_
                refine s0 ?_
                refine s16 ?_
                refine s52 sh91 (by decide) (by decide) ?_
                refine s6 (p := 91) rfl ?_
                refine s50 (v := A 91 2 + 1) sh91 (by decide) (by decide) (v2_eq) ?_
                refine s0 ?_
                refine s17 ?_
                refine s80 ?_
                exact rqI_of hE
def h225_1 (d L : Nat) (I : Nat → Nat → Int32) (R : Nat → Nat → Option Nat) (S : List (Nat × Nat)) (Q : Option Value → mM → Prop) (x1 : Int) (x2 : Int) (x3 : Int) (x4 : Int) (x5 : Int) (x6 : Int) : Prop := Wp d (gb 225 1) [.ref 91, .int (oI x1), .int (oI x2), .int (oI x3), .int (oI x4), .int (oI x5), .int (oI x6)] [] (bd L I R S) Q

theorem e225 {d L : Nat} {I : Nat → Nat → Int32} {R : Nat → Nat → Option Nat} {S : List (Nat × Nat)} {K : Int32 → mM → Prop} {A : aS} (hM : RelM I A) {x1 : Int} {x2 : Int} {x3 : Int} (hE : h225_1 d L I R S (rqI K) x1 x2 x3 (-1) (-1) 0) : CallI d 225 [.ref 91, .int (oI x1), .int (oI x2), .int (oI x3)] (bd L I R S) K := by
  refine cI_of (ls := [.ref 91, .int (oI x1), .int (oI x2), .int (oI x3), mUn, mUn, mUn]) rfl ?_
  refine xG gb225.1 ?_
  refine s0 ?_
  refine s7 (ls' := [.ref 91, .int (oI x1), .int (oI x2), .int (oI x3), .int (oI (-1)), mUn, mUn]) (Nat.le_of_ble_eq_true rfl) rfl ?_
  refine s0 ?_
  refine s7 (ls' := [.ref 91, .int (oI x1), .int (oI x2), .int (oI x3), .int (oI (-1)), .int (oI (-1)), mUn]) (Nat.le_of_ble_eq_true rfl) rfl ?_
  refine s0 ?_
  refine s7 (ls' := [.ref 91, .int (oI x1), .int (oI x2), .int (oI x3), .int (oI (-1)), .int (oI (-1)), .int (oI 0)]) (Nat.le_of_ble_eq_true rfl) rfl ?_
  refine s79 ?_
  exact hE
theorem e225_1 {d L : Nat} {I : Nat → Nat → Int32} {R : Nat → Nat → Option Nat} {S : List (Nat × Nat)} {Q : Option Value → mM → Prop} {A : aS} (hM : RelM I A) {x1 : Int} {x2 : Int} {x3 : Int} {x4 : Int} {x5 : Int} {x6 : Int} (hE : inR x6 ∧ (((x6 < A 91 3) → (0 ≤ x6 ∧ x6 < 850) ∧ (((A 103 x6.toNat = 0) → inR x1 ∧ (((A 104 x6.toNat = x1) → inR x2 ∧ (((x2 < A 106 x6.toNat) → h225_1 (d + 1) L I R S Q x1 x2 x3 x4 x5 (x6 + 1)) ∧ (¬ (x2 < A 106 x6.toNat) → inR x5 ∧ (((A 106 x6.toNat < x5) → h225_1 (d + 1) L I R S Q x1 x2 x3 x4 x5 (x6 + 1)) ∧ (¬ (A 106 x6.toNat < x5) → inR x3 ∧ (((x3 < A 108 x6.toNat) → h225_1 (d + 1) L I R S Q x1 x2 x3 x4 x5 (x6 + 1)) ∧ (¬ (x3 < A 108 x6.toNat) → ((x3 < A 109 x6.toNat) → h225_1 (d + 1) L I R S Q x1 x2 x3 (A 105 x6.toNat) (A 106 x6.toNat) (x6 + 1)) ∧ (¬ (x3 < A 109 x6.toNat) → h225_1 (d + 1) L I R S Q x1 x2 x3 x4 x5 (x6 + 1))))))))) ∧ (¬ (A 104 x6.toNat = x1) → h225_1 (d + 1) L I R S Q x1 x2 x3 x4 x5 (x6 + 1)))) ∧ (¬ (A 103 x6.toNat = 0) → h225_1 (d + 1) L I R S Q x1 x2 x3 x4 x5 (x6 + 1)))) ∧ (¬ (x6 < A 91 3) → Q (some (.int (oI x4))) (bd L I R S)))) : h225_1 (d + 1) L I R S Q x1 x2 x3 x4 x5 x6 := by
  unfold h225_1
  refine xG gb225.2.1 ?_
  refine s4 (x := x6) rfl ?_
  refine s6 (p := 91) rfl ?_
  refine s50 (v := A 91 3) sh91 (by decide) (by decide) (rdM hM rfl) ?_
  obtain ⟨g1, hE⟩ := hE
  refine s64 g1 (inA hM (a := 91) (k := 3) rfl) (fun c2 => ?_) (fun c2 => ?_)
  · replace hE := hE.1 c2
    refine s6 (p := 91) rfl ?_
    refine s51 sh91 (by decide) (by decide) rf91_16 ?_
    refine s4 (x := x6) rfl ?_
    obtain ⟨g3, hE⟩ := hE
    refine s40 (v := A 103 x6.toNat) sh103 g3 rfl (rdM hM rfl) ?_
    refine s68 (inA hM (a := 103) (k := x6.toNat) rfl) (fun c4 => ?_) (fun c4 => ?_)
    · replace hE := hE.1 c4
      refine s6 (p := 91) rfl ?_
      refine s51 sh91 (by decide) (by decide) rf91_17 ?_
      refine s4 (x := x6) rfl ?_
      refine s40 (v := A 104 x6.toNat) sh104 g3 rfl (rdM hM rfl) ?_
      refine s4 (x := x1) rfl ?_
      obtain ⟨g5, hE⟩ := hE
      refine s62 (inA hM (a := 104) (k := x6.toNat) rfl) g5 (fun c6 => ?_) (fun c6 => ?_)
      · replace hE := hE.1 c6
        refine s6 (p := 91) rfl ?_
        refine s51 sh91 (by decide) (by decide) rf91_19 ?_
        refine s4 (x := x6) rfl ?_
        refine s40 (v := A 106 x6.toNat) sh106 g3 rfl (rdM hM rfl) ?_
        refine s4 (x := x2) rfl ?_
        obtain ⟨g7, hE⟩ := hE
        refine s65 (inA hM (a := 106) (k := x6.toNat) rfl) g7 (fun c8 => ?_) (fun c8 => ?_)
        · replace hE := hE.1 c8
          refine xG gb225.2.2.2.1 ?_
          refine s10 (x := x6) (ls' := [.ref 91, .int (oI x1), .int (oI x2), .int (oI x3), .int (oI x4), .int (oI x5), .int (oI (x6 + 1))]) rfl rfl ?_
          refine s60 ?_
          exact hE
        · replace hE := hE.2 c8
          refine s6 (p := 91) rfl ?_
          refine s51 sh91 (by decide) (by decide) rf91_19 ?_
          refine s4 (x := x6) rfl ?_
          refine s40 (v := A 106 x6.toNat) sh106 g3 rfl (rdM hM rfl) ?_
          refine s4 (x := x5) rfl ?_
          obtain ⟨g9, hE⟩ := hE
          refine s63 (inA hM (a := 106) (k := x6.toNat) rfl) g9 (fun c10 => ?_) (fun c10 => ?_)
          · replace hE := hE.1 c10
            refine xG gb225.2.2.2.1 ?_
            refine s10 (x := x6) (ls' := [.ref 91, .int (oI x1), .int (oI x2), .int (oI x3), .int (oI x4), .int (oI x5), .int (oI (x6 + 1))]) rfl rfl ?_
            refine s60 ?_
            exact hE
          · replace hE := hE.2 c10
            refine s6 (p := 91) rfl ?_
            refine s4 (x := x6) rfl ?_
            refine s4 (x := x3) rfl ?_
            refine sI rc226 rfl (Nat.le_of_ble_eq_true rfl) ?_
            refine cI_of (ls := [.ref 91, .int (oI x6), .int (oI x3)]) rfl ?_
            refine xG gb226.1 ?_
            refine s6 (p := 91) rfl ?_
            refine s51 sh91 (by decide) (by decide) rf91_21 ?_
            refine s4 (x := x6) rfl ?_
            refine s40 (v := A 108 x6.toNat) sh108 g3 rfl (rdM hM rfl) ?_
            refine s4 (x := x3) rfl ?_
            obtain ⟨g11, hE⟩ := hE
            refine s65 (inA hM (a := 108) (k := x6.toNat) rfl) g11 (fun c12 => ?_) (fun c12 => ?_)
            · replace hE := hE.1 c12
              refine xG gb226.2.1 ?_
              refine s0 ?_
              refine s79 ?_
              refine xG gb226.2.2 ?_
              refine s84 (by decide) ?_
              refine rqI_of ?_
              refine s68 (inRd rfl) (fun _ => ?_) (fun c13 => absurd (by decide) c13)
              refine s60 ?_
              refine xG gb225.2.2.2.1 ?_
              refine s10 (x := x6) (ls' := [.ref 91, .int (oI x1), .int (oI x2), .int (oI x3), .int (oI x4), .int (oI x5), .int (oI (x6 + 1))]) rfl rfl ?_
              refine s60 ?_
              exact hE
            · replace hE := hE.2 c12
              refine s6 (p := 91) rfl ?_
              refine s51 sh91 (by decide) (by decide) rf91_22 ?_
              refine s4 (x := x6) rfl ?_
              refine s40 (v := A 109 x6.toNat) sh109 g3 rfl (rdM hM rfl) ?_
              refine s4 (x := x3) rfl ?_
              refine s66 (inA hM (a := 109) (k := x6.toNat) rfl) g11 (fun c14 => ?_) (fun c14 => ?_)
              · replace hE := hE.1 c14
                refine s0 ?_
                refine s60 ?_
                refine xG gb226.2.2 ?_
                refine s84 (by decide) ?_
                refine rqI_of ?_
                refine s68 (inRd rfl) (fun c15 => absurd c15 (by decide)) (fun _ => ?_)
                refine xG gb225.2.2.1 ?_
                refine s6 (p := 91) rfl ?_
                refine s51 sh91 (by decide) (by decide) rf91_18 ?_
                refine s4 (x := x6) rfl ?_
                refine s40 (v := A 105 x6.toNat) sh105 g3 rfl (rdM hM rfl) ?_
                refine s7 (ls' := [.ref 91, .int (oI x1), .int (oI x2), .int (oI x3), .int (oI (A 105 x6.toNat)), .int (oI x5), .int (oI x6)]) (Nat.le_of_ble_eq_true rfl) rfl ?_
                refine s6 (p := 91) rfl ?_
                refine s51 sh91 (by decide) (by decide) rf91_19 ?_
                refine s4 (x := x6) rfl ?_
                refine s40 (v := A 106 x6.toNat) sh106 g3 rfl (rdM hM rfl) ?_
                refine s7 (ls' := [.ref 91, .int (oI x1), .int (oI x2), .int (oI x3), .int (oI (A 105 x6.toNat)), .int (oI (A 106 x6.toNat)), .int (oI x6)]) (Nat.le_of_ble_eq_true rfl) rfl ?_
                refine s79 ?_
                refine xG gb225.2.2.2.1 ?_
                refine s10 (x := x6) (ls' := [.ref 91, .int (oI x1), .int (oI x2), .int (oI x3), .int (oI (A 105 x6.toNat)), .int (oI (A 106 x6.toNat)), .int (oI (x6 + 1))]) rfl rfl ?_
                refine s60 ?_
                exact hE
              · replace hE := hE.2 c14
                refine xG gb226.2.1 ?_
                refine s0 ?_
                refine s79 ?_
                refine xG gb226.2.2 ?_
                refine s84 (by decide) ?_
                refine rqI_of ?_
                refine s68 (inRd rfl) (fun _ => ?_) (fun c16 => absurd (by decide) c16)
                refine s60 ?_
                refine xG gb225.2.2.2.1 ?_
                refine s10 (x := x6) (ls' := [.ref 91, .int (oI x1), .int (oI x2), .int (oI x3), .int (oI x4), .int (oI x5), .int (oI (x6 + 1))]) rfl rfl ?_
                refine s60 ?_
                exact hE
      · replace hE := hE.2 c6
        refine xG gb225.2.2.2.1 ?_
        refine s10 (x := x6) (ls' := [.ref 91, .int (oI x1), .int (oI x2), .int (oI x3), .int (oI x4), .int (oI x5), .int (oI (x6 + 1))]) rfl rfl ?_
        refine s60 ?_
        exact hE
    · replace hE := hE.2 c4
      refine xG gb225.2.2.2.1 ?_
      refine s10 (x := x6) (ls' := [.ref 91, .int (oI x1), .int (oI x2), .int (oI x3), .int (oI x4), .int (oI x5), .int (oI (x6 + 1))]) rfl rfl ?_
      refine s60 ?_
      exact hE
  · replace hE := hE.2 c2
    refine xG gb225.2.2.2.2 ?_
    refine s4 (x := x4) rfl ?_
    refine s80 ?_
    exact hE

theorem e330 {d L : Nat} {I : Nat → Nat → Int32} {R : Nat → Nat → Option Nat} {S : List (Nat × Nat)} {K : Int32 → mM → Prop} {A : aS} (hM : RelM I A) {x1 : Int} (hE : inR x1 ∧ ((x1 = 0 → K (oI (A 91 0)) (bd L I R S)) ∧ (x1 = 1 → K (oI (A 91 1)) (bd L I R S)) ∧ (x1 = 2 → K (oI (A 91 2)) (bd L I R S)) ∧ (x1 = 3 → K (oI (A 91 3)) (bd L I R S)) ∧ (x1 = 4 → K (oI (A 91 4)) (bd L I R S)) ∧ (x1 = 5 → K (oI (A 91 65)) (bd L I R S)) ∧ (x1 = 6 → K (oI (A 91 40)) (bd L I R S)) ∧ (x1 = 7 → K (oI (A 91 54)) (bd L I R S)) ∧ (x1 = 8 → K (oI (A 91 63)) (bd L I R S)) ∧ (x1 = 9 → K (oI (A 91 58)) (bd L I R S)) ∧ (x1 = 10 → K (oI (A 91 59)) (bd L I R S)) ∧ (x1 = 11 → K (oI (A 91 57)) (bd L I R S)) ∧ (x1 = 12 → K (oI (A 91 67)) (bd L I R S)) ∧ (¬ x1 = 0 ∧ ¬ x1 = 1 ∧ ¬ x1 = 2 ∧ ¬ x1 = 3 ∧ ¬ x1 = 4 ∧ ¬ x1 = 5 ∧ ¬ x1 = 6 ∧ ¬ x1 = 7 ∧ ¬ x1 = 8 ∧ ¬ x1 = 9 ∧ ¬ x1 = 10 ∧ ¬ x1 = 11 ∧ ¬ x1 = 12 → K (oI (-1)) (bd L I R S)))) : CallI d 330 [.ref 91, .int (oI x1)] (bd L I R S) K := by
  refine cI_of (ls := [.ref 91, .int (oI x1)]) rfl ?_
  refine xG gb330.1 ?_
  refine s4 (x := x1) rfl ?_
  obtain ⟨g1, hE⟩ := hE
  refine s76 g1 ?_
  by_cases c2 : x1 = 0
  · replace hE := hE.1 c2
    rw [show mSel ((jSW.getD 330 []).getD 0 []) (x1 - 0) = 1 by rw [c2]; rfl]
    refine xG gb330.2.1 ?_
    refine s6 (p := 91) rfl ?_
    refine s50 (v := A 91 0) sh91 (by decide) (by decide) (rdM hM rfl) ?_
    refine s80 ?_
    exact rqI_of hE
  replace hE := hE.2
  by_cases c3 : x1 = 1
  · replace hE := hE.1 c3
    rw [show mSel ((jSW.getD 330 []).getD 0 []) (x1 - 0) = 2 by rw [c3]; rfl]
    refine xG gb330.2.2.1 ?_
    refine s6 (p := 91) rfl ?_
    refine s50 (v := A 91 1) sh91 (by decide) (by decide) (rdM hM rfl) ?_
    refine s80 ?_
    exact rqI_of hE
  replace hE := hE.2
  by_cases c4 : x1 = 2
  · replace hE := hE.1 c4
    rw [show mSel ((jSW.getD 330 []).getD 0 []) (x1 - 0) = 3 by rw [c4]; rfl]
    refine xG gb330.2.2.2.1 ?_
    refine s6 (p := 91) rfl ?_
    refine s50 (v := A 91 2) sh91 (by decide) (by decide) (rdM hM rfl) ?_
    refine s80 ?_
    exact rqI_of hE
  replace hE := hE.2
  by_cases c5 : x1 = 3
  · replace hE := hE.1 c5
    rw [show mSel ((jSW.getD 330 []).getD 0 []) (x1 - 0) = 4 by rw [c5]; rfl]
    refine xG gb330.2.2.2.2.1 ?_
    refine s6 (p := 91) rfl ?_
    refine s50 (v := A 91 3) sh91 (by decide) (by decide) (rdM hM rfl) ?_
    refine s80 ?_
    exact rqI_of hE
  replace hE := hE.2
  by_cases c6 : x1 = 4
  · replace hE := hE.1 c6
    rw [show mSel ((jSW.getD 330 []).getD 0 []) (x1 - 0) = 5 by rw [c6]; rfl]
    refine xG gb330.2.2.2.2.2.1 ?_
    refine s6 (p := 91) rfl ?_
    refine s50 (v := A 91 4) sh91 (by decide) (by decide) (rdM hM rfl) ?_
    refine s80 ?_
    exact rqI_of hE
  replace hE := hE.2
  by_cases c7 : x1 = 5
  · replace hE := hE.1 c7
    rw [show mSel ((jSW.getD 330 []).getD 0 []) (x1 - 0) = 6 by rw [c7]; rfl]
    refine xG gb330.2.2.2.2.2.2.1 ?_
    refine s6 (p := 91) rfl ?_
    refine s50 (v := A 91 65) sh91 (by decide) (by decide) (rdM hM rfl) ?_
    refine s80 ?_
    exact rqI_of hE
  replace hE := hE.2
  by_cases c8 : x1 = 6
  · replace hE := hE.1 c8
    rw [show mSel ((jSW.getD 330 []).getD 0 []) (x1 - 0) = 7 by rw [c8]; rfl]
    refine xG gb330.2.2.2.2.2.2.2.1 ?_
    refine s6 (p := 91) rfl ?_
    refine s50 (v := A 91 40) sh91 (by decide) (by decide) (rdM hM rfl) ?_
    refine s80 ?_
    exact rqI_of hE
  replace hE := hE.2
  by_cases c9 : x1 = 7
  · replace hE := hE.1 c9
    rw [show mSel ((jSW.getD 330 []).getD 0 []) (x1 - 0) = 8 by rw [c9]; rfl]
    refine xG gb330.2.2.2.2.2.2.2.2.1 ?_
    refine s6 (p := 91) rfl ?_
    refine s50 (v := A 91 54) sh91 (by decide) (by decide) (rdM hM rfl) ?_
    refine s80 ?_
    exact rqI_of hE
  replace hE := hE.2
  by_cases c10 : x1 = 8
  · replace hE := hE.1 c10
    rw [show mSel ((jSW.getD 330 []).getD 0 []) (x1 - 0) = 9 by rw [c10]; rfl]
    refine xG gb330.2.2.2.2.2.2.2.2.2.1 ?_
    refine s6 (p := 91) rfl ?_
    refine s50 (v := A 91 63) sh91 (by decide) (by decide) (rdM hM rfl) ?_
    refine s80 ?_
    exact rqI_of hE
  replace hE := hE.2
  by_cases c11 : x1 = 9
  · replace hE := hE.1 c11
    rw [show mSel ((jSW.getD 330 []).getD 0 []) (x1 - 0) = 10 by rw [c11]; rfl]
    refine xG gb330.2.2.2.2.2.2.2.2.2.2.1 ?_
    refine s6 (p := 91) rfl ?_
    refine s50 (v := A 91 58) sh91 (by decide) (by decide) (rdM hM rfl) ?_
    refine s80 ?_
    exact rqI_of hE
  replace hE := hE.2
  by_cases c12 : x1 = 10
  · replace hE := hE.1 c12
    rw [show mSel ((jSW.getD 330 []).getD 0 []) (x1 - 0) = 11 by rw [c12]; rfl]
    refine xG gb330.2.2.2.2.2.2.2.2.2.2.2.1 ?_
    refine s6 (p := 91) rfl ?_
    refine s50 (v := A 91 59) sh91 (by decide) (by decide) (rdM hM rfl) ?_
    refine s80 ?_
    exact rqI_of hE
  replace hE := hE.2
  by_cases c13 : x1 = 11
  · replace hE := hE.1 c13
    rw [show mSel ((jSW.getD 330 []).getD 0 []) (x1 - 0) = 12 by rw [c13]; rfl]
    refine xG gb330.2.2.2.2.2.2.2.2.2.2.2.2.1 ?_
    refine s6 (p := 91) rfl ?_
    refine s50 (v := A 91 57) sh91 (by decide) (by decide) (rdM hM rfl) ?_
    refine s80 ?_
    exact rqI_of hE
  replace hE := hE.2
  by_cases c14 : x1 = 12
  · replace hE := hE.1 c14
    rw [show mSel ((jSW.getD 330 []).getD 0 []) (x1 - 0) = 13 by rw [c14]; rfl]
    refine xG gb330.2.2.2.2.2.2.2.2.2.2.2.2.2.1 ?_
    refine s6 (p := 91) rfl ?_
    refine s50 (v := A 91 67) sh91 (by decide) (by decide) (rdM hM rfl) ?_
    refine s80 ?_
    exact rqI_of hE
  replace hE := hE.2
  replace hE := hE ⟨c2, c3, c4, c5, c6, c7, c8, c9, c10, c11, c12, c13, c14⟩
  rw [show mSel ((jSW.getD 330 []).getD 0 []) (x1 - 0) = 14 by exact mSel_def (lo := 0) (vs := [0, 1, 2, 3, 4, 5, 6, 7, 8, 9, 10, 11, 12]) rfl (by intro v hv; simp only [List.mem_cons, List.not_mem_nil, or_false] at hv; omega)]
  refine xG gb330.2.2.2.2.2.2.2.2.2.2.2.2.2.2 ?_
  refine s0 ?_
  refine s80 ?_
  exact rqI_of hE
theorem e242 {d L : Nat} {I : Nat → Nat → Int32} {R : Nat → Nat → Option Nat} {S : List (Nat × Nat)} {K : Int32 → mM → Prop} {A : aS} (hM : RelM I A) {x1 : Int} {x2 : Int} {x3 : Int} {x4 : Int} (hE : inR x1 ∧ (((x1 < 0) → K (oI (-1)) (bd L I R S)) ∧ (¬ (x1 < 0) → inR (A 91 1 - 1) ∧ (((A 91 1 - 1 < x1) → K (oI (-1)) (bd L I R S)) ∧ (¬ (A 91 1 - 1 < x1) → inR x2 ∧ (((x2 < 0) → K (oI (-1)) (bd L I R S)) ∧ (¬ (x2 < 0) → inR (Int.tdiv (A 91 0) 100) ∧ (((Int.tdiv (A 91 0) 100 < x2) → K (oI (-1)) (bd L I R S)) ∧ (¬ (Int.tdiv (A 91 0) 100 < x2) → inR x3 ∧ (((x3 < 0) → K (oI (-1)) (bd L I R S)) ∧ (¬ (x3 < 0) → ((5 < x3) → K (oI (-1)) (bd L I R S)) ∧ (¬ (5 < x3) → inR x4 ∧ (((x4 < 0) → K (oI (-1)) (bd L I R S)) ∧ (¬ (x4 < 0) → ((100 < x4) → K (oI (-1)) (bd L I R S)) ∧ (¬ (100 < x4) → ((A 110 6 = 250) → K (oI (-1)) (bd L I R S)) ∧ (¬ (A 110 6 = 250) → (0 ≤ A 91 3 ∧ A 91 3 < 850) ∧ (K (oI (A 91 3 + 1 - 1)) (bd L (u2 (u2 (u2 (u2 (u2 (u2 (u2 (u2 (u2 I 103 (A 91 3).toNat (oI 6)) 104 (A 91 3).toNat (oI x1)) 105 (A 91 3).toNat (oI x2)) 106 (A 91 3).toNat (oI x3)) 107 (A 91 3).toNat (oI x4)) 108 (A 91 3).toNat (oI (A 91 0))) 109 (A 91 3).toNat (oI 5000)) 110 6 (oI (A 110 6 + 1))) 91 3 (oI (A 91 3 + 1))) R S)))))))))))))))))) : CallI (d + 2) 242 [.ref 91, .int (oI x1), .int (oI x2), .int (oI x3), .int (oI x4)] (bd L I R S) K := by
  refine cI_of (ls := [.ref 91, .int (oI x1), .int (oI x2), .int (oI x3), .int (oI x4)]) rfl ?_
  refine xG gb242.1 ?_
  refine s6 (p := 91) rfl ?_
  refine s4 (x := x1) rfl ?_
  refine sI rc215 rfl (Nat.le_of_ble_eq_true rfl) ?_
  refine cI_of (ls := [.ref 91, .int (oI x1)]) rfl ?_
  refine xG gb215 ?_
  refine s4 (x := x1) rfl ?_
  refine s0 ?_
  refine s6 (p := 91) rfl ?_
  refine s50 (v := A 91 1) sh91 (by decide) (by decide) (rdM hM rfl) ?_
  refine s0 ?_
  refine s17 ?_
  refine sI rc210 rfl (Nat.le_of_ble_eq_true rfl) ?_
  refine cI_of (ls := [.int (oI x1), .int (oI 0), .int (oI (A 91 1 - 1))]) rfl ?_
  refine xG gb210.1 ?_
  refine s4 (x := x1) rfl ?_
  refine s4 (x := 0) rfl ?_
  obtain ⟨g1, hE⟩ := hE
  refine s63 g1 (inRd rfl) (fun c2 => ?_) (fun c2 => ?_)
  · replace hE := hE.1 c2
    refine xG gb210.2.1 ?_
    refine s0 ?_
    refine s79 ?_
    refine xG gb210.2.2 ?_
    refine s84 (by decide) ?_
    refine rqI_of ?_
    refine s84 (by decide) ?_
    refine rqI_of ?_
    refine s67 (inRd rfl) (fun _ => ?_) (fun c3 => absurd (by decide) c3)
    refine xG gb242.2.1 ?_
    refine s0 ?_
    refine s60 ?_
    refine xG gb242.2.2.2 ?_
    refine s80 ?_
    exact rqI_of hE
  · replace hE := hE.2 c2
    refine s4 (x := x1) rfl ?_
    refine s4 (x := A 91 1 - 1) rfl ?_
    obtain ⟨g4, hE⟩ := hE
    refine s65 g1 g4 (fun c5 => ?_) (fun c5 => ?_)
    · replace hE := hE.1 c5
      refine xG gb210.2.1 ?_
      refine s0 ?_
      refine s79 ?_
      refine xG gb210.2.2 ?_
      refine s84 (by decide) ?_
      refine rqI_of ?_
      refine s84 (by decide) ?_
      refine rqI_of ?_
      refine s67 (inRd rfl) (fun _ => ?_) (fun c6 => absurd (by decide) c6)
      refine xG gb242.2.1 ?_
      refine s0 ?_
      refine s60 ?_
      refine xG gb242.2.2.2 ?_
      refine s80 ?_
      exact rqI_of hE
    · replace hE := hE.2 c5
      refine s0 ?_
      refine s60 ?_
      refine xG gb210.2.2 ?_
      refine s84 (by decide) ?_
      refine rqI_of ?_
      refine s84 (by decide) ?_
      refine rqI_of ?_
      refine s67 (inRd rfl) (fun c7 => absurd c7 (by decide)) (fun _ => ?_)
      refine s4 (x := x2) rfl ?_
      refine s0 ?_
      refine s6 (p := 91) rfl ?_
      refine s50 (v := A 91 0) sh91 (by decide) (by decide) (rdM hM rfl) ?_
      refine s0 ?_
      refine s19 (inA hM (a := 91) (k := 0) rfl) ⟨(inRd rfl), by decide⟩ ?_
      refine sI rc210 rfl (Nat.le_of_ble_eq_true rfl) ?_
      refine cI_of (ls := [.int (oI x2), .int (oI 0), .int (oI (Int.tdiv (A 91 0) 100))]) rfl ?_
      refine xG gb210.1 ?_
      refine s4 (x := x2) rfl ?_
      refine s4 (x := 0) rfl ?_
      obtain ⟨g8, hE⟩ := hE
      refine s63 g8 (inRd rfl) (fun c9 => ?_) (fun c9 => ?_)
      · replace hE := hE.1 c9
        refine xG gb210.2.1 ?_
        refine s0 ?_
        refine s79 ?_
        refine xG gb210.2.2 ?_
        refine s84 (by decide) ?_
        refine rqI_of ?_
        refine s67 (inRd rfl) (fun _ => ?_) (fun c10 => absurd (by decide) c10)
        refine xG gb242.2.1 ?_
        refine s0 ?_
        refine s60 ?_
        refine xG gb242.2.2.2 ?_
        refine s80 ?_
        exact rqI_of hE
      · replace hE := hE.2 c9
        refine s4 (x := x2) rfl ?_
        refine s4 (x := Int.tdiv (A 91 0) 100) rfl ?_
        obtain ⟨g11, hE⟩ := hE
        refine s65 g8 g11 (fun c12 => ?_) (fun c12 => ?_)
        · replace hE := hE.1 c12
          refine xG gb210.2.1 ?_
          refine s0 ?_
          refine s79 ?_
          refine xG gb210.2.2 ?_
          refine s84 (by decide) ?_
          refine rqI_of ?_
          refine s67 (inRd rfl) (fun _ => ?_) (fun c13 => absurd (by decide) c13)
          refine xG gb242.2.1 ?_
          refine s0 ?_
          refine s60 ?_
          refine xG gb242.2.2.2 ?_
          refine s80 ?_
          exact rqI_of hE
        · replace hE := hE.2 c12
          refine s0 ?_
          refine s60 ?_
          refine xG gb210.2.2 ?_
          refine s84 (by decide) ?_
          refine rqI_of ?_
          refine s67 (inRd rfl) (fun c14 => absurd c14 (by decide)) (fun _ => ?_)
          refine s4 (x := x3) rfl ?_
          refine s0 ?_
          refine s0 ?_
          refine sI rc210 rfl (Nat.le_of_ble_eq_true rfl) ?_
          refine cI_of (ls := [.int (oI x3), .int (oI 0), .int (oI 5)]) rfl ?_
          refine xG gb210.1 ?_
          refine s4 (x := x3) rfl ?_
          refine s4 (x := 0) rfl ?_
          obtain ⟨g15, hE⟩ := hE
          refine s63 g15 (inRd rfl) (fun c16 => ?_) (fun c16 => ?_)
          · replace hE := hE.1 c16
            refine xG gb210.2.1 ?_
            refine s0 ?_
            refine s79 ?_
            refine xG gb210.2.2 ?_
            refine s84 (by decide) ?_
            refine rqI_of ?_
            refine s67 (inRd rfl) (fun _ => ?_) (fun c17 => absurd (by decide) c17)
            refine xG gb242.2.1 ?_
            refine s0 ?_
            refine s60 ?_
            refine xG gb242.2.2.2 ?_
            refine s80 ?_
            exact rqI_of hE
          · replace hE := hE.2 c16
            refine s4 (x := x3) rfl ?_
            refine s4 (x := 5) rfl ?_
            refine s65 g15 (inRd rfl) (fun c18 => ?_) (fun c18 => ?_)
            · replace hE := hE.1 c18
              refine xG gb210.2.1 ?_
              refine s0 ?_
              refine s79 ?_
              refine xG gb210.2.2 ?_
              refine s84 (by decide) ?_
              refine rqI_of ?_
              refine s67 (inRd rfl) (fun _ => ?_) (fun c19 => absurd (by decide) c19)
              refine xG gb242.2.1 ?_
              refine s0 ?_
              refine s60 ?_
              refine xG gb242.2.2.2 ?_
              refine s80 ?_
              exact rqI_of hE
            · replace hE := hE.2 c18
              refine s0 ?_
              refine s60 ?_
              refine xG gb210.2.2 ?_
              refine s84 (by decide) ?_
              refine rqI_of ?_
              refine s67 (inRd rfl) (fun c20 => absurd c20 (by decide)) (fun _ => ?_)
              refine s4 (x := x4) rfl ?_
              refine s0 ?_
              refine s0 ?_
              refine sI rc210 rfl (Nat.le_of_ble_eq_true rfl) ?_
              refine cI_of (ls := [.int (oI x4), .int (oI 0), .int (oI 100)]) rfl ?_
              refine xG gb210.1 ?_
              refine s4 (x := x4) rfl ?_
              refine s4 (x := 0) rfl ?_
              obtain ⟨g21, hE⟩ := hE
              refine s63 g21 (inRd rfl) (fun c22 => ?_) (fun c22 => ?_)
              · replace hE := hE.1 c22
                refine xG gb210.2.1 ?_
                refine s0 ?_
                refine s79 ?_
                refine xG gb210.2.2 ?_
                refine s84 (by decide) ?_
                refine rqI_of ?_
                refine s67 (inRd rfl) (fun _ => ?_) (fun c23 => absurd (by decide) c23)
                refine xG gb242.2.1 ?_
                refine s0 ?_
                refine s60 ?_
                refine xG gb242.2.2.2 ?_
                refine s80 ?_
                exact rqI_of hE
              · replace hE := hE.2 c22
                refine s4 (x := x4) rfl ?_
                refine s4 (x := 100) rfl ?_
                refine s65 g21 (inRd rfl) (fun c24 => ?_) (fun c24 => ?_)
                · replace hE := hE.1 c24
                  refine xG gb210.2.1 ?_
                  refine s0 ?_
                  refine s79 ?_
                  refine xG gb210.2.2 ?_
                  refine s84 (by decide) ?_
                  refine rqI_of ?_
                  refine s67 (inRd rfl) (fun _ => ?_) (fun c25 => absurd (by decide) c25)
                  refine xG gb242.2.1 ?_
                  refine s0 ?_
                  refine s60 ?_
                  refine xG gb242.2.2.2 ?_
                  refine s80 ?_
                  exact rqI_of hE
                · replace hE := hE.2 c24
                  refine s0 ?_
                  refine s60 ?_
                  refine xG gb210.2.2 ?_
                  refine s84 (by decide) ?_
                  refine rqI_of ?_
                  refine s67 (inRd rfl) (fun c26 => absurd c26 (by decide)) (fun _ => ?_)
                  refine s6 (p := 91) rfl ?_
                  refine s51 sh91 (by decide) (by decide) rf91_23 ?_
                  refine s0 ?_
                  refine s40 (v := A 110 6) sh110 (⟨by decide, by decide⟩ : (0 : Int) ≤ 6 ∧ (6 : Int) < 7) rfl (rdM hM rfl) ?_
                  refine s0 ?_
                  refine s62 (inA hM (a := 110) (k := 6) rfl) (inRd rfl) (fun c27 => ?_) (fun c27 => ?_)
                  · replace hE := hE.1 c27
                    refine s79 ?_
                    refine xG gb242.2.1 ?_
                    refine s0 ?_
                    refine s60 ?_
                    refine xG gb242.2.2.2 ?_
                    refine s80 ?_
                    exact rqI_of hE
                  · replace hE := hE.2 c27
                    refine xG gb242.2.2.1 ?_
                    refine s6 (p := 91) rfl ?_
                    refine s0 ?_
                    refine s4 (x := x1) rfl ?_
                    refine s4 (x := x2) rfl ?_
                    refine s4 (x := x3) rfl ?_
                    refine s4 (x := x4) rfl ?_
                    refine sI rc228 rfl (Nat.le_of_ble_eq_true rfl) ?_
                    refine cI_of (ls := [.ref 91, .int (oI 6), .int (oI x1), .int (oI x2), .int (oI x3), .int (oI x4)]) rfl ?_
                    refine xG gb228 ?_
                    refine s6 (p := 91) rfl ?_
                    refine s51 sh91 (by decide) (by decide) rf91_16 ?_
                    refine s6 (p := 91) rfl ?_
                    refine s50 (v := A 91 3) sh91 (by decide) (by decide) (rdM hM rfl) ?_
                    refine s4 (x := 6) rfl ?_
                    obtain ⟨g28, hE⟩ := hE
                    refine s44 sh103 (by decide) g28 rfl ?_
                    refine s6 (p := 91) rfl ?_
                    refine s51 sh91 (by decide) (by decide) rf91_17 ?_
                    refine s6 (p := 91) rfl ?_
                    refine s50 (v := A 91 3) sh91 (by decide) (by decide) ((v2_ne (by decide)).trans (rdM hM rfl)) ?_
                    refine s4 (x := x1) rfl ?_
                    refine s44 sh104 (by decide) g28 rfl ?_
                    refine s6 (p := 91) rfl ?_
                    refine s51 sh91 (by decide) (by decide) rf91_18 ?_
                    refine s6 (p := 91) rfl ?_
                    refine s50 (v := A 91 3) sh91 (by decide) (by decide) ((v2_ne (by decide)).trans ((v2_ne (by decide)).trans (rdM hM rfl))) ?_
                    refine s4 (x := x2) rfl ?_
                    refine s44 sh105 (by decide) g28 rfl ?_
                    refine s6 (p := 91) rfl ?_
                    refine s51 sh91 (by decide) (by decide) rf91_19 ?_
                    refine s6 (p := 91) rfl ?_
                    refine s50 (v := A 91 3) sh91 (by decide) (by decide) ((v2_ne (by decide)).trans ((v2_ne (by decide)).trans ((v2_ne (by decide)).trans (rdM hM rfl)))) ?_
                    refine s4 (x := x3) rfl ?_
                    refine s44 sh106 (by decide) g28 rfl ?_
                    refine s6 (p := 91) rfl ?_
                    refine s51 sh91 (by decide) (by decide) rf91_20 ?_
                    refine s6 (p := 91) rfl ?_
                    refine s50 (v := A 91 3) sh91 (by decide) (by decide) ((v2_ne (by decide)).trans ((v2_ne (by decide)).trans ((v2_ne (by decide)).trans ((v2_ne (by decide)).trans (rdM hM rfl))))) ?_
                    refine s4 (x := x4) rfl ?_
                    refine s44 sh107 (by decide) g28 rfl ?_
                    refine s6 (p := 91) rfl ?_
                    refine s51 sh91 (by decide) (by decide) rf91_21 ?_
                    refine s6 (p := 91) rfl ?_
                    refine s50 (v := A 91 3) sh91 (by decide) (by decide) ((v2_ne (by decide)).trans ((v2_ne (by decide)).trans ((v2_ne (by decide)).trans ((v2_ne (by decide)).trans ((v2_ne (by decide)).trans (rdM hM rfl)))))) ?_
                    refine s6 (p := 91) rfl ?_
                    refine s50 (v := A 91 0) sh91 (by decide) (by decide) ((v2_ne (by decide)).trans ((v2_ne (by decide)).trans ((v2_ne (by decide)).trans ((v2_ne (by decide)).trans ((v2_ne (by decide)).trans (rdM hM rfl)))))) ?_
                    refine s44 sh108 (by decide) g28 rfl ?_
                    refine s6 (p := 91) rfl ?_
                    refine s51 sh91 (by decide) (by decide) rf91_22 ?_
                    refine s6 (p := 91) rfl ?_
                    refine s50 (v := A 91 3) sh91 (by decide) (by decide) ((v2_ne (by decide)).trans ((v2_ne (by decide)).trans ((v2_ne (by decide)).trans ((v2_ne (by decide)).trans ((v2_ne (by decide)).trans ((v2_ne (by decide)).trans (rdM hM rfl))))))) ?_
                    refine s0 ?_
                    refine s44 sh109 (by decide) g28 rfl ?_
                    refine s6 (p := 91) rfl ?_
                    refine s51 sh91 (by decide) (by decide) rf91_23 ?_
                    refine s4 (x := 6) rfl ?_
                    refine s14 ?_
                    refine s40 (v := A 110 6) sh110 (⟨by decide, by decide⟩ : (0 : Int) ≤ 6 ∧ (6 : Int) < 7) rfl ((v2_ne (by decide)).trans ((v2_ne (by decide)).trans ((v2_ne (by decide)).trans ((v2_ne (by decide)).trans ((v2_ne (by decide)).trans ((v2_ne (by decide)).trans ((v2_ne (by decide)).trans (rdM hM rfl)))))))) ?_
                    refine s0 ?_
                    refine s16 ?_
                    refine s44 sh110 (by decide) (⟨by decide, by decide⟩ : (0 : Int) ≤ 6 ∧ (6 : Int) < 7) rfl ?_
                    refine s6 (p := 91) rfl ?_
                    refine s13r ?_
                    refine s50 (v := A 91 3) sh91 (by decide) (by decide) ((v2_ne (by decide)).trans ((v2_ne (by decide)).trans ((v2_ne (by decide)).trans ((v2_ne (by decide)).trans ((v2_ne (by decide)).trans ((v2_ne (by decide)).trans ((v2_ne (by decide)).trans ((v2_ne (by decide)).trans (rdM hM rfl))))))))) ?_
                    refine s0 ?_
                    refine s16 ?_
                    refine s52 sh91 (by decide) (by decide) ?_
                    refine s6 (p := 91) rfl ?_
                    refine s50 (v := A 91 3 + 1) sh91 (by decide) (by decide) (v2_eq) ?_
                    refine s0 ?_
                    refine s17 ?_
                    refine s80 ?_
                    refine rqI_of ?_
                    refine s79 ?_
                    refine xG gb242.2.2.2 ?_
                    refine s80 ?_
                    exact rqI_of hE
