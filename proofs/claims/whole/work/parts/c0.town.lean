def h82_1 (d L : Nat) (I : Nat → Nat → Int32) (R : Nat → Nat → Option Nat) (S : List (Nat × Nat)) (Q : Option Value → mM → Prop) (x1 : Int) (x2 : Int) (x3 : Int) (x4 : Int) : Prop := Wp d (gb 82 1) [.ref 21, .int (oI x1), .int (oI x2), .int (oI x3), .int (oI x4)] [] (bd L I R S) Q
set_option maxRecDepth 4000 in
theorem e82_1 {d L : Nat} {I : Nat → Nat → Int32} {R : Nat → Nat → Option Nat} {S : List (Nat × Nat)} {Q : Option Value → mM → Prop} {A : aS} (hC : RC R S I A) {x1 : Int} {x2 : Int} {x3 : Int} {x4 : Int} (hE : inR x4 ∧ (((x4 < A 91 40) → (0 ≤ x4 ∧ x4 < 20) ∧ (inR x1 ∧ (((A 121 x4.toNat = x1) → inR x2 ∧ (((x2 < A 122 x4.toNat) → h82_1 d L I R S Q x1 x2 x3 (x4 + 1)) ∧ (¬ (x2 < A 122 x4.toNat) → h82_1 d L I R S Q x1 x2 (x3 + 1) (x4 + 1)))) ∧ (¬ (A 121 x4.toNat = x1) → h82_1 d L I R S Q x1 x2 x3 (x4 + 1))))) ∧ (¬ (x4 < A 91 40) → Q (some (.int (oI x3))) (bd L I R S)))) : h82_1 d L I R S Q x1 x2 x3 x4 := by
  unfold h82_1
  refine xG gb82.2.1 ?_
  refine s4 (x := x4) rfl ?_
  refine s6 (p := 21) rfl ?_
  refine s50 (v := A 91 40) sh21 (by decide) (by decide) (rdC hC.1 rfl) ?_
  obtain ⟨g1, hE⟩ := hE
  refine s64 g1 (inC hC.1 (a := 21) (k := 10) rfl) (fun c2 => ?_) (fun c2 => ?_)
  · replace hE := hE.1 c2
    refine s6 (p := 21) rfl ?_
    refine s51 sh21 (by decide) (by decide) rf21_8 ?_
    refine s4 (x := x4) rfl ?_
    obtain ⟨g3, hE⟩ := hE
    refine s40 (v := A 121 x4.toNat) sh30 g3 rfl (rdC hC.1 rfl) ?_
    refine s4 (x := x1) rfl ?_
    obtain ⟨g4, hE⟩ := hE
    refine s62 (inC hC.1 (a := 30) (k := x4.toNat) rfl) g4 (fun c5 => ?_) (fun c5 => ?_)
    · replace hE := hE.1 c5
      refine s6 (p := 21) rfl ?_
      refine s51 sh21 (by decide) (by decide) rf21_6 ?_
      refine s4 (x := x4) rfl ?_
      refine s40 (v := A 122 x4.toNat) sh28 g3 rfl (rdC hC.1 rfl) ?_
      refine s4 (x := x2) rfl ?_
      obtain ⟨g6, hE⟩ := hE
      refine s65 (inC hC.1 (a := 28) (k := x4.toNat) rfl) g6 (fun c7 => ?_) (fun c7 => ?_)
      · replace hE := hE.1 c7
        refine xG gb82.2.2.1 ?_
        refine s10 (x := x4) (ls' := [.ref 21, .int (oI x1), .int (oI x2), .int (oI x3), .int (oI (x4 + 1))]) rfl rfl ?_
        refine s60 ?_
        exact hE
      · replace hE := hE.2 c7
        refine s10 (x := x3) (ls' := [.ref 21, .int (oI x1), .int (oI x2), .int (oI (x3 + 1)), .int (oI x4)]) rfl rfl ?_
        refine s79 ?_
        refine xG gb82.2.2.1 ?_
        refine s10 (x := x4) (ls' := [.ref 21, .int (oI x1), .int (oI x2), .int (oI (x3 + 1)), .int (oI (x4 + 1))]) rfl rfl ?_
        refine s60 ?_
        exact hE
    · replace hE := hE.2 c5
      refine xG gb82.2.2.1 ?_
      refine s10 (x := x4) (ls' := [.ref 21, .int (oI x1), .int (oI x2), .int (oI x3), .int (oI (x4 + 1))]) rfl rfl ?_
      refine s60 ?_
      exact hE
  · replace hE := hE.2 c2
    refine xG gb82.2.2.2 ?_
    refine s4 (x := x3) rfl ?_
    refine s80 ?_
    exact hE
set_option maxRecDepth 4000 in
theorem e82 {d L : Nat} {I : Nat → Nat → Int32} {R : Nat → Nat → Option Nat} {S : List (Nat × Nat)} {K : Int32 → mM → Prop} {A : aS} (hC : RC R S I A) {x1 : Int} {x2 : Int} (hE : h82_1 d L I R S (rqI K) x1 x2 0 0) : CallI d 82 [.ref 21, .int (oI x1), .int (oI x2)] (bd L I R S) K := by
  refine cI_of (ls := [.ref 21, .int (oI x1), .int (oI x2), mUn, mUn]) rfl ?_
  refine xG gb82.1 ?_
  refine s0 ?_
  refine s7 (ls' := [.ref 21, .int (oI x1), .int (oI x2), .int (oI 0), mUn]) (Nat.le_of_ble_eq_true rfl) rfl ?_
  refine s0 ?_
  refine s7 (ls' := [.ref 21, .int (oI x1), .int (oI x2), .int (oI 0), .int (oI 0)]) (Nat.le_of_ble_eq_true rfl) rfl ?_
  refine s79 ?_
  exact hE
def h36_1 (d L : Nat) (I : Nat → Nat → Int32) (R : Nat → Nat → Option Nat) (S : List (Nat × Nat)) (Q : Option Value → mM → Prop) (x1 : Int) (x2 : Int) (x3 : Int) (x4 : Int) (w5 : Value) : Prop := Wp d (gb 36 1) [.ref 8, .int (oI x1), .int (oI x2), .int (oI x3), .int (oI x4), w5] [] (bd L I R S) Q
set_option maxRecDepth 4000 in
theorem e36_1 {d L : Nat} {I : Nat → Nat → Int32} {R : Nat → Nat → Option Nat} {S : List (Nat × Nat)} {Q : Option Value → mM → Prop} {A : aS} (hC : RC R S I A) {x1 : Int} {x2 : Int} {x3 : Int} {x4 : Int} {w5 : Value} (hE : inR x4 ∧ (inR x2 ∧ (((x4 < x2) → (0 ≤ (x1 * 8) + x4 ∧ (x1 * 8) + x4 < 160) ∧ (((ld I 29 ((x1 * 8) + x4).toNat = (-1)) → h36_1 (d + 26) L I R S Q x1 x2 x3 (x4 + 1) (.int (oI (ld I 29 ((x1 * 8) + x4).toNat)))) ∧ (¬ (ld I 29 ((x1 * 8) + x4).toNat = (-1)) → WfC A ∧ ((0 ≤ x4 ∧ x4 ≤ 7) ∧ (inR (tlS A zE x4 140 1 0) ∧ (((ld I 29 ((x1 * 8) + x4).toNat < tlS A zE x4 140 1 0) → h36_1 (d + 26) L I R S Q x1 x2 x3 (x4 + 1) (.int (oI (ld I 29 ((x1 * 8) + x4).toNat)))) ∧ (¬ (ld I 29 ((x1 * 8) + x4).toNat < tlS A zE x4 140 1 0) → h36_1 (d + 26) L I R S Q x1 x2 (x3 + 1) (x4 + 1) (.int (oI (ld I 29 ((x1 * 8) + x4).toNat)))))))))) ∧ (¬ (x4 < x2) → inR x3 ∧ (Q (some (.int (oI (min x3 5)))) (bd L I R S)))))) : h36_1 (d + 26) L I R S Q x1 x2 x3 x4 w5 := by
  unfold h36_1
  refine xG gb36.2.1 ?_
  refine s4 (x := x4) rfl ?_
  refine s4 (x := x2) rfl ?_
  obtain ⟨g1, hE⟩ := hE
  obtain ⟨g2, hE⟩ := hE
  refine s64 g1 g2 (fun c3 => ?_) (fun c3 => ?_)
  · replace hE := hE.1 c3
    refine s6 (p := 8) rfl ?_
    refine s51 sh8 (by decide) (by decide) rf8_1 ?_
    refine s51 sh21 (by decide) (by decide) rf21_7 ?_
    refine s4 (x := x1) rfl ?_
    refine s0 ?_
    refine s18 ?_
    refine s4 (x := x4) rfl ?_
    refine s16 ?_
    obtain ⟨g4, hE⟩ := hE
    refine s40 (v := ld I 29 ((x1 * 8) + x4).toNat) sh29 g4 rfl (oI_ld _ _ _) ?_
    refine s7 (ls' := [.ref 8, .int (oI x1), .int (oI x2), .int (oI x3), .int (oI x4), .int (oI (ld I 29 ((x1 * 8) + x4).toNat))]) (Nat.le_of_ble_eq_true rfl) rfl ?_
    refine s4 (x := ld I 29 ((x1 * 8) + x4).toNat) rfl ?_
    refine s0 ?_
    refine s61 (ld_inR _ _ _) (inRd rfl) (fun c5 => ?_) (fun c5 => ?_)
    · replace hE := hE.1 c5
      refine xG gb36.2.2.1 ?_
      refine s10 (x := x4) (ls' := [.ref 8, .int (oI x1), .int (oI x2), .int (oI x3), .int (oI (x4 + 1)), .int (oI (ld I 29 ((x1 * 8) + x4).toNat))]) rfl rfl ?_
      refine s60 ?_
      exact hE
    · replace hE := hE.2 c5
      refine s4 (x := ld I 29 ((x1 * 8) + x4).toNat) rfl ?_
      refine s6 (p := 8) rfl ?_
      refine s51 sh8 (by decide) (by decide) rf8_3 ?_
      refine s4 (x := x4) rfl ?_
      refine s0 ?_
      refine s0 ?_
      refine s0 ?_
      refine sI rc96 rfl (Nat.le_of_ble_eq_true rfl) ?_
      refine cI_of (ls := [.ref 43, .int (oI x4), .int (oI 140), .int (oI 1), .int (oI 0)]) rfl ?_
      refine xG gb96 ?_
      refine s6 (p := 43) rfl ?_
      refine s4 (x := x4) rfl ?_
      refine s4 (x := 140) rfl ?_
      refine s4 (x := 1) rfl ?_
      refine s6 (p := 43) rfl ?_
      refine s51 sh43 (by decide) (by decide) rf43_13 ?_
      refine s4 (x := 0) rfl ?_
      obtain ⟨g6, hE⟩ := hE
      obtain ⟨g7, hE⟩ := hE
      refine sI rc97 rfl (Nat.le_of_ble_eq_true rfl) ?_
      refine k97a58 hC g6 (RC.zE hC) g7 (⟨by decide, by decide⟩ : (130 : Int) ≤ 140 ∧ (140 : Int) ≤ 144) (inRd rfl) ?_
      refine s80 ?_
      refine rqI_of ?_
      obtain ⟨g8, hE⟩ := hE
      refine s63 (ld_inR _ _ _) g8 (fun c9 => ?_) (fun c9 => ?_)
      · replace hE := hE.1 c9
        refine xG gb36.2.2.1 ?_
        refine s10 (x := x4) (ls' := [.ref 8, .int (oI x1), .int (oI x2), .int (oI x3), .int (oI (x4 + 1)), .int (oI (ld I 29 ((x1 * 8) + x4).toNat))]) rfl rfl ?_
        refine s60 ?_
        exact hE
      · replace hE := hE.2 c9
        refine s10 (x := x3) (ls' := [.ref 8, .int (oI x1), .int (oI x2), .int (oI (x3 + 1)), .int (oI x4), .int (oI (ld I 29 ((x1 * 8) + x4).toNat))]) rfl rfl ?_
        refine s79 ?_
        refine xG gb36.2.2.1 ?_
        refine s10 (x := x4) (ls' := [.ref 8, .int (oI x1), .int (oI x2), .int (oI (x3 + 1)), .int (oI (x4 + 1)), .int (oI (ld I 29 ((x1 * 8) + x4).toNat))]) rfl rfl ?_
        refine s60 ?_
        exact hE
  · replace hE := hE.2 c3
    refine xG gb36.2.2.2 ?_
    refine s4 (x := x3) rfl ?_
    refine s0 ?_
    obtain ⟨g10, hE⟩ := hE
    refine sI rc345 rfl (Nat.le_of_ble_eq_true rfl) ?_
    refine k345 g10 (inRd rfl) ?_
    refine s80 ?_
    exact hE
set_option maxRecDepth 4000 in
theorem e36 {d L : Nat} {I : Nat → Nat → Int32} {R : Nat → Nat → Option Nat} {S : List (Nat × Nat)} {K : Int32 → mM → Prop} {A : aS} (hC : RC R S I A) {x1 : Int} {x2 : Int} (hE : (0 ≤ x1 ∧ x1 < 20) ∧ (h36_1 d L I R S (rqI K) x1 x2 1 (A 122 x1.toNat) mUn)) : CallI d 36 [.ref 8, .int (oI x1), .int (oI x2)] (bd L I R S) K := by
  refine cI_of (ls := [.ref 8, .int (oI x1), .int (oI x2), mUn, mUn, mUn]) rfl ?_
  refine xG gb36.1 ?_
  refine s0 ?_
  refine s7 (ls' := [.ref 8, .int (oI x1), .int (oI x2), .int (oI 1), mUn, mUn]) (Nat.le_of_ble_eq_true rfl) rfl ?_
  refine s6 (p := 8) rfl ?_
  refine s51 sh8 (by decide) (by decide) rf8_1 ?_
  refine s51 sh21 (by decide) (by decide) rf21_6 ?_
  refine s4 (x := x1) rfl ?_
  obtain ⟨g1, hE⟩ := hE
  refine s40 (v := A 122 x1.toNat) sh28 g1 rfl (rdC hC.1 rfl) ?_
  refine s7 (ls' := [.ref 8, .int (oI x1), .int (oI x2), .int (oI 1), .int (oI (A 122 x1.toNat)), mUn]) (Nat.le_of_ble_eq_true rfl) rfl ?_
  refine s79 ?_
  exact hE
def h77_1 (d L : Nat) (I : Nat → Nat → Int32) (R : Nat → Nat → Option Nat) (S : List (Nat × Nat)) (Q : Option Value → mM → Prop) (x1 : Int) (x2 : Int) (x3 : Int) (x4 : Int) : Prop := Wp d (gb 77 1) [.ref 9, .int (oI x1), .int (oI x2), .int (oI x3), .int (oI x4)] [] (bd L I R S) Q
set_option maxRecDepth 4000 in
theorem e77_1 {d L : Nat} {I : Nat → Nat → Int32} {R : Nat → Nat → Option Nat} {S : List (Nat × Nat)} {Q : Option Value → mM → Prop} {A : aS} (hC : RC R S I A) {x1 : Int} {x2 : Int} {x3 : Int} {x4 : Int} (hE : inR x4 ∧ (((x4 < A 91 63) → (0 ≤ x4 ∧ x4 < 40) ∧ (inR x2 ∧ (((A 136 x4.toNat < x2) → inR ((A 136 x4.toNat) * x1) ∧ (h77_1 (d + 1) L I R S Q x1 x2 (x3 + (Int.tdiv ((A 136 x4.toNat) * x1) 2)) (x4 + 1))) ∧ (¬ (A 136 x4.toNat < x2) → h77_1 (d + 1) L I R S Q x1 x2 (x3 + ((A 136 x4.toNat) * x1)) (x4 + 1))))) ∧ (¬ (x4 < A 91 63) → Q (some (.int (oI x3))) (bd L I R S)))) : h77_1 (d + 1) L I R S Q x1 x2 x3 x4 := by
  unfold h77_1
  refine xG gb77.2.1 ?_
  refine s4 (x := x4) rfl ?_
  refine s6 (p := 9) rfl ?_
  refine s50 (v := A 91 63) sh9 (by decide) (by decide) (rdC hC.1 rfl) ?_
  obtain ⟨g1, hE⟩ := hE
  refine s64 g1 (inC hC.1 (a := 9) (k := 13) rfl) (fun c2 => ?_) (fun c2 => ?_)
  · replace hE := hE.1 c2
    refine s4 (x := x3) rfl ?_
    refine s6 (p := 9) rfl ?_
    refine s4 (x := x4) rfl ?_
    refine s4 (x := x1) rfl ?_
    refine s4 (x := x2) rfl ?_
    refine sI rc78 rfl (Nat.le_of_ble_eq_true rfl) ?_
    refine cI_of (ls := [.ref 9, .int (oI x4), .int (oI x1), .int (oI x2), mUn]) rfl ?_
    refine xG gb78.1 ?_
    refine s6 (p := 9) rfl ?_
    refine s51 sh9 (by decide) (by decide) rf9_10 ?_
    refine s4 (x := x4) rfl ?_
    obtain ⟨g3, hE⟩ := hE
    refine s40 (v := A 136 x4.toNat) sh20 g3 rfl (rdC hC.1 rfl) ?_
    refine s4 (x := x1) rfl ?_
    refine s18 ?_
    refine s7 (ls' := [.ref 9, .int (oI x4), .int (oI x1), .int (oI x2), .int (oI ((A 136 x4.toNat) * x1))]) (Nat.le_of_ble_eq_true rfl) rfl ?_
    refine s6 (p := 9) rfl ?_
    refine s51 sh9 (by decide) (by decide) rf9_10 ?_
    refine s4 (x := x4) rfl ?_
    refine s40 (v := A 136 x4.toNat) sh20 g3 rfl (rdC hC.1 rfl) ?_
    refine s4 (x := x2) rfl ?_
    obtain ⟨g4, hE⟩ := hE
    refine s64 (inC hC.1 (a := 20) (k := x4.toNat) rfl) g4 (fun c5 => ?_) (fun c5 => ?_)
    · replace hE := hE.1 c5
      refine s4 (x := (A 136 x4.toNat) * x1) rfl ?_
      refine s0 ?_
      obtain ⟨g6, hE⟩ := hE
      refine s19 g6 ⟨(inRd rfl), by decide⟩ ?_
      refine s60 ?_
      refine xG gb78.2.2 ?_
      refine s80 ?_
      refine rqI_of ?_
      refine s16 ?_
      refine s7 (ls' := [.ref 9, .int (oI x1), .int (oI x2), .int (oI (x3 + (Int.tdiv ((A 136 x4.toNat) * x1) 2))), .int (oI x4)]) (Nat.le_of_ble_eq_true rfl) rfl ?_
      refine s10 (x := x4) (ls' := [.ref 9, .int (oI x1), .int (oI x2), .int (oI (x3 + (Int.tdiv ((A 136 x4.toNat) * x1) 2))), .int (oI (x4 + 1))]) rfl rfl ?_
      refine s60 ?_
      exact hE
    · replace hE := hE.2 c5
      refine xG gb78.2.1 ?_
      refine s4 (x := (A 136 x4.toNat) * x1) rfl ?_
      refine s79 ?_
      refine xG gb78.2.2 ?_
      refine s80 ?_
      refine rqI_of ?_
      refine s16 ?_
      refine s7 (ls' := [.ref 9, .int (oI x1), .int (oI x2), .int (oI (x3 + ((A 136 x4.toNat) * x1))), .int (oI x4)]) (Nat.le_of_ble_eq_true rfl) rfl ?_
      refine s10 (x := x4) (ls' := [.ref 9, .int (oI x1), .int (oI x2), .int (oI (x3 + ((A 136 x4.toNat) * x1))), .int (oI (x4 + 1))]) rfl rfl ?_
      refine s60 ?_
      exact hE
  · replace hE := hE.2 c2
    refine xG gb77.2.2 ?_
    refine s4 (x := x3) rfl ?_
    refine s80 ?_
    exact hE
set_option maxRecDepth 4000 in
theorem e77 {d L : Nat} {I : Nat → Nat → Int32} {R : Nat → Nat → Option Nat} {S : List (Nat × Nat)} {K : Int32 → mM → Prop} {A : aS} (hC : RC R S I A) {x1 : Int} {x2 : Int} (hE : h77_1 d L I R S (rqI K) x1 x2 0 0) : CallI d 77 [.ref 9, .int (oI x1), .int (oI x2)] (bd L I R S) K := by
  refine cI_of (ls := [.ref 9, .int (oI x1), .int (oI x2), mUn, mUn]) rfl ?_
  refine xG gb77.1 ?_
  refine s0 ?_
  refine s7 (ls' := [.ref 9, .int (oI x1), .int (oI x2), .int (oI 0), mUn]) (Nat.le_of_ble_eq_true rfl) rfl ?_
  refine s0 ?_
  refine s7 (ls' := [.ref 9, .int (oI x1), .int (oI x2), .int (oI 0), .int (oI 0)]) (Nat.le_of_ble_eq_true rfl) rfl ?_
  refine s79 ?_
  exact hE
section
variable {d L : Nat} {I I0 : mI} {R : mR} {S : mSh} {Q : Option Value → mM → Prop} {A : aS} {c day known kind half year subj code : Int}
theorem l82 {s y : Int} (hC : RC R S I A) (hT : WfT A) (hs : inR s) (hy : inR y) (hQ : Q (some (.int (oI (hnL A s y (A 91 40).toNat - 1)))) (bd L I R S)) : ∀ (n k : Nat), k + n = (A 91 40).toNat → h82_1 d L I R S Q s y (hnL A s y k - 1) k := by
  have h20 := hT.1
  intro n
  induction n with
  | zero =>
    intro k hk
    refine e82_1 hC ⟨by unfold inR; omega, fun q => by exfalso; omega, fun _ => ?_⟩
    rw [show k = (A 91 40).toNat by omega]; exact hQ
  | succ n ih =>
    intro k hk
    have ih := ih (k + 1) (by omega)
    have e : hnL A s y (k + 1) = hnL A s y k + (if A 121 k = s ∧ A 122 k ≤ y then 1 else 0) := rfl
    rw [e] at ih
    refine e82_1 hC ?_
    rw [Int.toNat_natCast]
    refine ⟨by unfold inR; omega, fun _ => ⟨by omega, hs, fun q => ⟨hy, fun q2 => ?_, fun q2 => ?_⟩, fun q => ?_⟩, fun q => by exfalso; omega⟩
    · rw [if_neg (by omega), Int.add_zero] at ih; exact ih
    · rw [if_pos ⟨q, by omega⟩, show hnL A s y k + 1 - 1 = hnL A s y k - 1 + 1 by omega] at ih; exact ih
    · rw [if_neg (by omega), Int.add_zero] at ih; exact ih
theorem k82 {s y : Int} {K : Int32 → mM → Prop} (hC : RC R S I A) (hT : WfT A) (hs : inR s) (hy : inR y) (hK : K (oI (hnL A s y (A 91 40).toNat - 1)) (bd L I R S)) : CallI d 82 [.ref 21, .int (oI s), .int (oI y)] (bd L I R S) K :=
  e82 hC (l82 hC hT hs hy (rqI_of hK) (A 91 40).toNat 0 (by omega))
theorem l36 {t : Nat} {y : Int} (hC : RC R S I A) (hT : WfT A) (hWC : WfC A) (ht : (t : Int) < A 91 40) (hy : A 122 t ≤ y ∧ y ≤ 7) (hQ : Q (some (.int (oI (sttS A t y)))) (bd L I R S)) : ∀ (n k : Nat) (x : Int) (w : Value), A 122 t + k + n = y → min x 5 = spL A t k → 1 ≤ x ∧ x ≤ 100 + k → h36_1 (d + 26) L I R S Q t y x (A 122 t + k) w := by
  have h20 := hT.1
  have w1 := (hT.2.1 t (by omega)).2
  intro n
  induction n with
  | zero =>
    intro k x w hk hx hx2
    refine e36_1 (d := d) hC ⟨by unfold inR; omega, by unfold inR; omega, fun q => by exfalso; omega, fun _ => ⟨by unfold inR; omega, ?_⟩⟩
    rw [hx]
    unfold sttS at hQ
    rw [show ((t : Int)).toNat = t by omega, show (y - A 122 t).toNat = k by omega] at hQ
    exact hQ
  | succ n ih =>
    intro k x w hk hx hx2
    have hpr := hC.2.2.2.1 t (A 122 t + k).toNat (by omega) (by omega)
    rw [if_pos ht] at hpr
    have pr := w1.2 (A 122 t + k).toNat (by omega)
    have ei : ((t : Int) * 8 + (A 122 t + k)).toNat = 8 * t + (A 122 t + k).toNat := by omega
    have e : spL A t (k + 1) = if ¬ A 123 (8 * t + (A 122 t + k).toNat) = -1 ∧ lnS A (A 122 t + k) 12 0 ≤ A 123 (8 * t + (A 122 t + k).toNat) then min 5 (spL A t k + 1) else spL A t k := by
      have e0 : spL A t (k + 1) = if ¬ A 123 (8 * (t : Int) + (A 122 (t : Int).toNat + k)).toNat = -1 ∧ lnS A (A 122 (t : Int).toNat + k) 12 0 ≤ A 123 (8 * (t : Int) + (A 122 (t : Int).toNat + k)).toNat then min 5 (spL A t k + 1) else spL A t k := rfl
      rw [Int.toNat_natCast, show (8 * (t : Int) + (A 122 t + k)).toNat = 8 * t + (A 122 t + k).toNat by omega] at e0
      exact e0
    have et : tlS A zE (A 122 t + k) 140 1 0 = lnS A (A 122 t + k) 12 0 := by
      rw [show (140 : Int) = ckd 12 from rfl, tlS_one hWC (by omega)]; rfl
    have ih := fun x w => ih (k + 1) x w (by omega)
    rw [e, show A 122 t + ((k + 1 : Nat) : Int) = A 122 t + k + 1 by omega] at ih
    refine e36_1 (d := d) hC ?_
    rw [ei, hpr]
    refine ⟨by unfold inR; omega, by unfold inR; omega, fun _ => ⟨by omega, fun q => ?_, fun q => ⟨hWC, by omega, tlS_R hWC (inRd rfl), ?_⟩⟩, fun q => by exfalso; omega⟩
    · exact ih x _ (by rw [if_neg (fun h => h.1 q)]; exact hx) (by omega)
    · rw [et]
      refine ⟨fun q2 => ih x _ (by rw [if_neg (by omega)]; exact hx) (by omega), fun q2 => ih (x + 1) _ (by rw [if_pos ⟨q, by omega⟩]; omega) (by omega)⟩
theorem k36 {t y : Int} {K : Int32 → mM → Prop} (hC : RC R S I A) (hT : WfT A) (hWC : WfC A) (ht : 0 ≤ t ∧ t < A 91 40) (hy : A 122 t.toNat ≤ y ∧ y ≤ 7) (hK : K (oI (sttS A t y)) (bd L I R S)) : CallI (d + 26) 36 [.ref 8, .int (oI t), .int (oI y)] (bd L I R S) K := by
  obtain ⟨t, rfl⟩ : ∃ n : Nat, t = n := ⟨t.toNat, by omega⟩
  rw [Int.toNat_natCast] at hy
  have h20 := hT.1
  have := l36 (d := d) (L := L) (R := R) (S := S) (Q := rqI K) (I := I) hC hT hWC ht.2 hy (rqI_of hK) (y - A 122 t).toNat 0 1 mUn (by omega) rfl (by omega)
  rw [show A 122 t + ((0 : Nat) : Int) = A 122 t by omega] at this
  refine e36 (d := d + 26) hC ⟨by omega, ?_⟩
  rw [Int.toNat_natCast]
  exact this
theorem l77 {r : Int} (hC : RC R S I A) (hT : WfT A) (hWC : WfC A) (hr : 0 ≤ r ∧ r ≤ 480) (hQ : Q (some (.int (oI (coS A r)))) (bd L I R S)) : ∀ (n k : Nat), k + n = (A 91 63).toNat → h77_1 (d + 1) L I R S Q r (smS A) (coL A r k) k := by
  have h40 := hT.2.2.1
  have sm : inR (smS A) := by
    unfold smS
    rcases lnS_in hWC (y := Int.tdiv (A 91 0) 100) (kind := 15) (by omega) with h | h
    · rw [h.2]; exact inRd rfl
    · unfold inR; omega
  intro n
  induction n with
  | zero =>
    intro k hk
    refine e77_1 hC ⟨by unfold inR; omega, fun q => by exfalso; omega, fun _ => ?_⟩
    rw [show k = (A 91 63).toNat by omega]; exact hQ
  | succ n ih =>
    intro k hk
    have ih := ih (k + 1) (by omega)
    have e : coL A r (k + 1) = coL A r k + (if A 136 (k : Int).toNat < smS A then Int.tdiv (A 136 (k : Int).toNat * r) 2 else A 136 (k : Int).toNat * r) := rfl
    have v := hT.2.2.2.1 k (by omega)
    have hm : A 136 k * r ≤ 500 * 480 := Int.mul_le_mul v.2 hr.2 hr.1 (by omega)
    have hm0 : 0 ≤ A 136 k * r := Int.mul_nonneg (by omega) hr.1
    rw [e, Int.toNat_natCast] at ih
    refine e77_1 hC ?_
    rw [Int.toNat_natCast]
    refine ⟨by unfold inR; omega, fun _ => ⟨by omega, sm, fun q => ⟨by unfold inR; omega, ?_⟩, fun q => ?_⟩, fun q => by exfalso; omega⟩
    · rw [if_pos q] at ih; exact ih
    · rw [if_neg q] at ih; exact ih
theorem k77 {r sm : Int} {K : Int32 → mM → Prop} (hC : RC R S I A) (hT : WfT A) (hWC : WfC A) (hr : 0 ≤ r ∧ r ≤ 480) (hs : sm = smS A) (hK : K (oI (coS A r)) (bd L I R S)) : CallI (d + 1) 77 [.ref 9, .int (oI r), .int (oI sm)] (bd L I R S) K := by
  rw [hs]
  exact e77 (d := d + 1) hC (l77 hC hT hWC hr (rqI_of hK) (A 91 63).toNat 0 (by omega))
end
def h76_1 (d L : Nat) (I : Nat → Nat → Int32) (R : Nat → Nat → Option Nat) (S : List (Nat × Nat)) (Q : Option Value → mM → Prop) (x1 : Int) (x2 : Int) (x3 : Int) (x4 : Int) (w5 : Value) : Prop := Wp d (gb 76 1) [.ref 9, .int (oI x1), .int (oI x2), .int (oI x3), .int (oI x4), w5] [] (bd L I R S) Q
set_option maxRecDepth 4000 in
theorem e76_1 {d L : Nat} {I : Nat → Nat → Int32} {R : Nat → Nat → Option Nat} {S : List (Nat × Nat)} {Q : Option Value → mM → Prop} {A : aS} (hC : RC R S I A) {x1 : Int} {x2 : Int} {x3 : Int} {x4 : Int} {w5 : Value} (hE : inR x4 ∧ (((0 < x4) → inR (x3 + x4) ∧ (((480 < x3 + x4) → h76_1 (d + 2) L I R S Q x1 x2 x3 (Int.tdiv x4 2) (.int (oI (x3 + x4)))) ∧ (¬ (480 < x3 + x4) → WfT A ∧ (WfC A ∧ ((0 ≤ x3 + x4 ∧ x3 + x4 ≤ 480) ∧ (x2 = smS A ∧ (inR (coS A (x3 + x4)) ∧ (inR x1 ∧ (((coS A (x3 + x4) < x1) → h76_1 (d + 2) L I R S Q x1 x2 (x3 + x4) (Int.tdiv x4 2) (.int (oI (x3 + x4)))) ∧ (¬ (coS A (x3 + x4) < x1) → h76_1 (d + 2) L I R S Q x1 x2 x3 (Int.tdiv x4 2) (.int (oI (x3 + x4))))))))))))) ∧ (¬ (0 < x4) → inR x3 ∧ (((x3 = 480) → Q (some (.int (oI (-1)))) (bd L I R S)) ∧ (¬ (x3 = 480) → Q (some (.int (oI (x3 + 1)))) (bd L I R S)))))) : h76_1 (d + 2) L I R S Q x1 x2 x3 x4 w5 := by
  unfold h76_1
  refine xG gb76.2.1 ?_
  refine s4 (x := x4) rfl ?_
  obtain ⟨g1, hE⟩ := hE
  refine s72 g1 (fun c2 => ?_) (fun c2 => ?_)
  · replace hE := hE.1 c2
    refine s4 (x := x3) rfl ?_
    refine s4 (x := x4) rfl ?_
    refine s16 ?_
    refine s7 (ls' := [.ref 9, .int (oI x1), .int (oI x2), .int (oI x3), .int (oI x4), .int (oI (x3 + x4))]) (Nat.le_of_ble_eq_true rfl) rfl ?_
    refine s4 (x := x3 + x4) rfl ?_
    refine s0 ?_
    obtain ⟨g3, hE⟩ := hE
    refine s65 g3 (inRd rfl) (fun c4 => ?_) (fun c4 => ?_)
    · replace hE := hE.1 c4
      refine xG gb76.2.2.1 ?_
      refine s4 (x := x4) rfl ?_
      refine s0 ?_
      refine s19 g1 ⟨(inRd rfl), by decide⟩ ?_
      refine s7 (ls' := [.ref 9, .int (oI x1), .int (oI x2), .int (oI x3), .int (oI (Int.tdiv x4 2)), .int (oI (x3 + x4))]) (Nat.le_of_ble_eq_true rfl) rfl ?_
      refine s60 ?_
      exact hE
    · replace hE := hE.2 c4
      refine s6 (p := 9) rfl ?_
      refine s4 (x := x3 + x4) rfl ?_
      refine s4 (x := x2) rfl ?_
      obtain ⟨g5, hE⟩ := hE
      obtain ⟨g6, hE⟩ := hE
      obtain ⟨g7, hE⟩ := hE
      obtain ⟨g8, hE⟩ := hE
      refine sI rc77 rfl (Nat.le_of_ble_eq_true rfl) ?_
      refine k77 hC g5 g6 g7 g8 ?_
      refine s4 (x := x1) rfl ?_
      obtain ⟨g9, hE⟩ := hE
      obtain ⟨g10, hE⟩ := hE
      refine s64 g9 g10 (fun c11 => ?_) (fun c11 => ?_)
      · replace hE := hE.1 c11
        refine s4 (x := x3 + x4) rfl ?_
        refine s7 (ls' := [.ref 9, .int (oI x1), .int (oI x2), .int (oI (x3 + x4)), .int (oI x4), .int (oI (x3 + x4))]) (Nat.le_of_ble_eq_true rfl) rfl ?_
        refine s79 ?_
        refine xG gb76.2.2.1 ?_
        refine s4 (x := x4) rfl ?_
        refine s0 ?_
        refine s19 g1 ⟨(inRd rfl), by decide⟩ ?_
        refine s7 (ls' := [.ref 9, .int (oI x1), .int (oI x2), .int (oI (x3 + x4)), .int (oI (Int.tdiv x4 2)), .int (oI (x3 + x4))]) (Nat.le_of_ble_eq_true rfl) rfl ?_
        refine s60 ?_
        exact hE
      · replace hE := hE.2 c11
        refine xG gb76.2.2.1 ?_
        refine s4 (x := x4) rfl ?_
        refine s0 ?_
        refine s19 g1 ⟨(inRd rfl), by decide⟩ ?_
        refine s7 (ls' := [.ref 9, .int (oI x1), .int (oI x2), .int (oI x3), .int (oI (Int.tdiv x4 2)), .int (oI (x3 + x4))]) (Nat.le_of_ble_eq_true rfl) rfl ?_
        refine s60 ?_
        exact hE
  · replace hE := hE.2 c2
    refine xG gb76.2.2.2.1 ?_
    refine s4 (x := x3) rfl ?_
    refine s0 ?_
    obtain ⟨g12, hE⟩ := hE
    refine s62 g12 (inRd rfl) (fun c13 => ?_) (fun c13 => ?_)
    · replace hE := hE.1 c13
      refine s0 ?_
      refine s60 ?_
      refine xG gb76.2.2.2.2.2 ?_
      refine s80 ?_
      exact hE
    · replace hE := hE.2 c13
      refine xG gb76.2.2.2.2.1 ?_
      refine s4 (x := x3) rfl ?_
      refine s0 ?_
      refine s16 ?_
      refine s79 ?_
      refine xG gb76.2.2.2.2.2 ?_
      refine s80 ?_
      exact hE
set_option maxRecDepth 4000 in
theorem e76 {d L : Nat} {I : Nat → Nat → Int32} {R : Nat → Nat → Option Nat} {S : List (Nat × Nat)} {K : Int32 → mM → Prop} {A : aS} (hC : RC R S I A) {x1 : Int} {x2 : Int} (hE : h76_1 d L I R S (rqI K) x1 x2 (-1) 256 mUn) : CallI d 76 [.ref 9, .int (oI x1), .int (oI x2)] (bd L I R S) K := by
  refine cI_of (ls := [.ref 9, .int (oI x1), .int (oI x2), mUn, mUn, mUn]) rfl ?_
  refine xG gb76.1 ?_
  refine s0 ?_
  refine s7 (ls' := [.ref 9, .int (oI x1), .int (oI x2), .int (oI (-1)), mUn, mUn]) (Nat.le_of_ble_eq_true rfl) rfl ?_
  refine s0 ?_
  refine s7 (ls' := [.ref 9, .int (oI x1), .int (oI x2), .int (oI (-1)), .int (oI 256), mUn]) (Nat.le_of_ble_eq_true rfl) rfl ?_
  refine s79 ?_
  exact hE
def h69_1 (d L : Nat) (I : Nat → Nat → Int32) (R : Nat → Nat → Option Nat) (S : List (Nat × Nat)) (Q : Option Value → mM → Prop) (x1 : Int) (x2 : Int) (x3 : Int) (x4 : Int) (x5 : Int) (x6 : Int) : Prop := Wp d (gb 69 1) [.ref 9, .int (oI x1), .int (oI x2), .int (oI x3), .int (oI x4), .int (oI x5), .int (oI x6)] [] (bd L I R S) Q
set_option maxRecDepth 4000 in
theorem e69_1 {d L : Nat} {I : Nat → Nat → Int32} {R : Nat → Nat → Option Nat} {S : List (Nat × Nat)} {Q : Option Value → mM → Prop} {A : aS} (hC : RC R S I A) {x1 : Int} {x2 : Int} {x3 : Int} {x4 : Int} {x5 : Int} {x6 : Int} (hE : inR x6 ∧ (((x6 < 10) → ((iAnd (iShr x1 x6) 1 = 0) → h69_1 (d + 1) L I R S Q x1 x2 x3 x4 x5 (x6 + 1)) ∧ (¬ (iAnd (iShr x1 x6) 1 = 0) → (0 ≤ x6 ∧ x6 < 10) ∧ (((ld I 11 x6.toNat = 0) → Q none (bd L I R S)) ∧ (¬ (ld I 11 x6.toNat = 0) → inR x5 ∧ (inR (A 101 x6.toNat + (A 102 x6.toNat)) ∧ (h69_1 (d + 1) L I R S Q x1 x2 (x3 + (ld I 10 x6.toNat)) (x4 + ((ld I 11 x6.toNat) * 2)) (max x5 (A 101 x6.toNat + (A 102 x6.toNat))) (x6 + 1))))))) ∧ (¬ (x6 < 10) → inR (x4 + (x5 * 2)) ∧ (inR x2 ∧ (((x2 < x4 + (x5 * 2)) → Q none (bd L I R S)) ∧ (¬ (x2 < x4 + (x5 * 2)) → inR x3 ∧ (((ld I 9 15 < x3) → Q none (bd L (u2 (u2 (u2 I 9 14 (oI x1)) 9 15 (oI x3)) 9 16 (oI (x4 + (x5 * 2)))) R S)) ∧ (¬ (ld I 9 15 < x3) → Q none (bd L I R S))))))))) : h69_1 (d + 1) L I R S Q x1 x2 x3 x4 x5 x6 := by
  unfold h69_1
  refine xG gb69.2.1 ?_
  refine s4 (x := x6) rfl ?_
  refine s0 ?_
  obtain ⟨g1, hE⟩ := hE
  refine s64 g1 (inRd rfl) (fun c2 => ?_) (fun c2 => ?_)
  · replace hE := hE.1 c2
    refine s4 (x := x1) rfl ?_
    refine s4 (x := x6) rfl ?_
    refine s23 ?_
    refine s0 ?_
    refine s25 ?_
    refine s68 (inR_toInt _) (fun c3 => ?_) (fun c3 => ?_)
    · replace hE := hE.1 c3
      refine s60 ?_
      refine xG gb69.2.2.2.2.1 ?_
      refine s10 (x := x6) (ls' := [.ref 9, .int (oI x1), .int (oI x2), .int (oI x3), .int (oI x4), .int (oI x5), .int (oI (x6 + 1))]) rfl rfl ?_
      refine s60 ?_
      exact hE
    · replace hE := hE.2 c3
      refine xG gb69.2.2.1 ?_
      refine s6 (p := 9) rfl ?_
      refine s51 sh9 (by decide) (by decide) rf9_1 ?_
      refine s4 (x := x6) rfl ?_
      obtain ⟨g4, hE⟩ := hE
      refine s40 (v := ld I 11 x6.toNat) sh11 g4 rfl (oI_ld _ _ _) ?_
      refine s68 (ld_inR _ _ _) (fun c5 => ?_) (fun c5 => ?_)
      · replace hE := hE.1 c5
        refine s83 ?_
        exact hE
      · replace hE := hE.2 c5
        refine xG gb69.2.2.2.1 ?_
        refine s4 (x := x3) rfl ?_
        refine s6 (p := 9) rfl ?_
        refine s51 sh9 (by decide) (by decide) rf9_0 ?_
        refine s4 (x := x6) rfl ?_
        refine s40 (v := ld I 10 x6.toNat) sh10 g4 rfl (oI_ld _ _ _) ?_
        refine s16 ?_
        refine s7 (ls' := [.ref 9, .int (oI x1), .int (oI x2), .int (oI (x3 + (ld I 10 x6.toNat))), .int (oI x4), .int (oI x5), .int (oI x6)]) (Nat.le_of_ble_eq_true rfl) rfl ?_
        refine s4 (x := x4) rfl ?_
        refine s6 (p := 9) rfl ?_
        refine s51 sh9 (by decide) (by decide) rf9_1 ?_
        refine s4 (x := x6) rfl ?_
        refine s40 (v := ld I 11 x6.toNat) sh11 g4 rfl (oI_ld _ _ _) ?_
        refine s0 ?_
        refine s18 ?_
        refine s16 ?_
        refine s7 (ls' := [.ref 9, .int (oI x1), .int (oI x2), .int (oI (x3 + (ld I 10 x6.toNat))), .int (oI (x4 + ((ld I 11 x6.toNat) * 2))), .int (oI x5), .int (oI x6)]) (Nat.le_of_ble_eq_true rfl) rfl ?_
        refine s4 (x := x5) rfl ?_
        refine s6 (p := 9) rfl ?_
        refine s51 sh9 (by decide) (by decide) rf9_2 ?_
        refine s4 (x := x6) rfl ?_
        refine s40 (v := A 101 x6.toNat) sh12 g4 rfl (rdC hC.1 rfl) ?_
        refine s6 (p := 9) rfl ?_
        refine s51 sh9 (by decide) (by decide) rf9_3 ?_
        refine s4 (x := x6) rfl ?_
        refine s40 (v := A 102 x6.toNat) sh13 g4 rfl (rdC hC.1 rfl) ?_
        refine s16 ?_
        obtain ⟨g6, hE⟩ := hE
        obtain ⟨g7, hE⟩ := hE
        refine sI rc346 rfl (Nat.le_of_ble_eq_true rfl) ?_
        refine k346 g6 g7 ?_
        refine s7 (ls' := [.ref 9, .int (oI x1), .int (oI x2), .int (oI (x3 + (ld I 10 x6.toNat))), .int (oI (x4 + ((ld I 11 x6.toNat) * 2))), .int (oI (max x5 (A 101 x6.toNat + (A 102 x6.toNat)))), .int (oI x6)]) (Nat.le_of_ble_eq_true rfl) rfl ?_
        refine s79 ?_
        refine xG gb69.2.2.2.2.1 ?_
        refine s10 (x := x6) (ls' := [.ref 9, .int (oI x1), .int (oI x2), .int (oI (x3 + (ld I 10 x6.toNat))), .int (oI (x4 + ((ld I 11 x6.toNat) * 2))), .int (oI (max x5 (A 101 x6.toNat + (A 102 x6.toNat)))), .int (oI (x6 + 1))]) rfl rfl ?_
        refine s60 ?_
        exact hE
  · replace hE := hE.2 c2
    refine xG gb69.2.2.2.2.2.1 ?_
    refine s4 (x := x4) rfl ?_
    refine s4 (x := x5) rfl ?_
    refine s0 ?_
    refine s18 ?_
    refine s16 ?_
    refine s7 (ls' := [.ref 9, .int (oI x1), .int (oI x2), .int (oI x3), .int (oI x4), .int (oI x5), .int (oI (x4 + (x5 * 2)))]) (Nat.le_of_ble_eq_true rfl) rfl ?_
    refine s4 (x := x4 + (x5 * 2)) rfl ?_
    refine s4 (x := x2) rfl ?_
    obtain ⟨g8, hE⟩ := hE
    obtain ⟨g9, hE⟩ := hE
    refine s65 g8 g9 (fun c10 => ?_) (fun c10 => ?_)
    · replace hE := hE.1 c10
      refine xG gb69.2.2.2.2.2.2 ?_
      refine s83 ?_
      exact hE
    · replace hE := hE.2 c10
      refine s4 (x := x3) rfl ?_
      refine s6 (p := 9) rfl ?_
      refine s50 (v := ld I 9 15) sh9 (by decide) (by decide) (oI_ld _ _ _) ?_
      obtain ⟨g11, hE⟩ := hE
      refine s66 g11 (ld_inR _ _ _) (fun c12 => ?_) (fun c12 => ?_)
      · replace hE := hE.1 c12
        refine s6 (p := 9) rfl ?_
        refine s4 (x := x1) rfl ?_
        refine s52 sh9 (by decide) (by decide) ?_
        refine s6 (p := 9) rfl ?_
        refine s4 (x := x3) rfl ?_
        refine s52 sh9 (by decide) (by decide) ?_
        refine s6 (p := 9) rfl ?_
        refine s4 (x := x4 + (x5 * 2)) rfl ?_
        refine s52 sh9 (by decide) (by decide) ?_
        refine s79 ?_
        refine xG gb69.2.2.2.2.2.2 ?_
        refine s83 ?_
        exact hE
      · replace hE := hE.2 c12
        refine xG gb69.2.2.2.2.2.2 ?_
        refine s83 ?_
        exact hE
set_option maxRecDepth 4000 in
theorem e69 {d L : Nat} {I : Nat → Nat → Int32} {R : Nat → Nat → Option Nat} {S : List (Nat × Nat)} {K : mM → Prop} {A : aS} (hC : RC R S I A) {x1 : Int} {x2 : Int} (hE : h69_1 d L I R S (rqV K) x1 x2 0 0 0 0) : CallV d 69 [.ref 9, .int (oI x1), .int (oI x2)] (bd L I R S) K := by
  refine cV_of (ls := [.ref 9, .int (oI x1), .int (oI x2), mUn, mUn, mUn, mUn]) rfl ?_
  refine xG gb69.1 ?_
  refine s0 ?_
  refine s7 (ls' := [.ref 9, .int (oI x1), .int (oI x2), .int (oI 0), mUn, mUn, mUn]) (Nat.le_of_ble_eq_true rfl) rfl ?_
  refine s0 ?_
  refine s7 (ls' := [.ref 9, .int (oI x1), .int (oI x2), .int (oI 0), .int (oI 0), mUn, mUn]) (Nat.le_of_ble_eq_true rfl) rfl ?_
  refine s0 ?_
  refine s7 (ls' := [.ref 9, .int (oI x1), .int (oI x2), .int (oI 0), .int (oI 0), .int (oI 0), mUn]) (Nat.le_of_ble_eq_true rfl) rfl ?_
  refine s0 ?_
  refine s7 (ls' := [.ref 9, .int (oI x1), .int (oI x2), .int (oI 0), .int (oI 0), .int (oI 0), .int (oI 0)]) (Nat.le_of_ble_eq_true rfl) rfl ?_
  refine s79 ?_
  exact hE
