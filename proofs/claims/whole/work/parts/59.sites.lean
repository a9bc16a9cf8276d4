def h293_3 (d L : Nat) (I : Nat → Nat → Int32) (R : Nat → Nat → Option Nat) (S : List (Nat × Nat)) (Q : Option Value → mM → Prop) (x1 : Int) (x2 : Int) (x3 : Int) : Prop := Wp d (gb 293 3) [.ref 91, .int (oI x1), .int (oI x2), .int (oI x3)] [] (bd L I R S) Q
def h293_7 (d L : Nat) (I : Nat → Nat → Int32) (R : Nat → Nat → Option Nat) (S : List (Nat × Nat)) (Q : Option Value → mM → Prop) (x1 : Int) (w2 : Value) (x3 : Int) : Prop := Wp d (gb 293 7) [.ref 91, .int (oI x1), w2, .int (oI x3)] [] (bd L I R S) Q
set_option maxRecDepth 4000 in
theorem e293_3 {d L : Nat} {I : Nat → Nat → Int32} {R : Nat → Nat → Option Nat} {S : List (Nat × Nat)} {Q : Option Value → mM → Prop} {A : aS} (hR : RM I A) {x1 : Int} {x2 : Int} {x3 : Int} (hE : inR x3 ∧ (((x3 < A 91 58) → (0 ≤ x3 ∧ x3 < 10) ∧ (inR x1 ∧ (h293_3 (d + 1) L I R S Q x1 (x2 + (if A 133 x3.toNat = x1 then (1 : Int) else 0)) (x3 + 1)))) ∧ (¬ (x3 < A 91 58) → inR x2 ∧ (h293_7 (d + 1) L I R S Q x1 (.int (oI x2)) (min x2 (A 91 57)))))) : h293_3 (d + 1) L I R S Q x1 x2 x3 := by
  unfold h293_3
  refine xG gb293.2.2.2.1 ?_
  refine s4 (x := x3) rfl ?_
  refine s6 (p := 91) rfl ?_
  refine s50 (v := A 91 58) sh91 (by decide) (by decide) (rdM hR.1 rfl) ?_
  obtain ⟨g1, hE⟩ := hE
  refine s64 g1 (inA hR.1 (a := 91) (k := 58) rfl) (fun c2 => ?_) (fun c2 => ?_)
  · replace hE := hE.1 c2
    refine s4 (x := x2) rfl ?_
    refine s6 (p := 91) rfl ?_
    refine s51 sh91 (by decide) (by decide) rf91_60 ?_
    refine s4 (x := x3) rfl ?_
    obtain ⟨g3, hE⟩ := hE
    refine s40 (v := A 133 x3.toNat) sh133 g3 rfl (rdM hR.1 rfl) ?_
    refine s4 (x := x1) rfl ?_
    obtain ⟨g4, hE⟩ := hE
    refine s62j (j := 5) (v1 := 1) (v0 := 0) (inA hR.1 (a := 133) (k := x3.toNat) rfl) g4 (fun hJ => ?_) (fun hJ => ?_) ?_
    · exact s0 (s60 hJ)
    · refine xG gb293.2.2.2.2.1 ?_
      exact s0 (s79 hJ)
    refine xG gb293.2.2.2.2.2.1 ?_
    refine sI rc227 rfl (Nat.le_of_ble_eq_true rfl) ?_
    refine k227 (ite_01 (by decide) (by decide)) ?_
    refine s16 ?_
    refine s7 (ls' := [.ref 91, .int (oI x1), .int (oI (x2 + (if A 133 x3.toNat = x1 then (1 : Int) else 0))), .int (oI x3)]) (Nat.le_of_ble_eq_true rfl) rfl ?_
    refine s10 (x := x3) (ls' := [.ref 91, .int (oI x1), .int (oI (x2 + (if A 133 x3.toNat = x1 then (1 : Int) else 0))), .int (oI (x3 + 1))]) rfl rfl ?_
    refine s60 ?_
    exact hE
  · replace hE := hE.2 c2
    refine xG gb293.2.2.2.2.2.2.1 ?_
    refine s4 (x := x2) rfl ?_
    refine s6 (p := 91) rfl ?_
    refine s50 (v := A 91 57) sh91 (by decide) (by decide) (rdM hR.1 rfl) ?_
    obtain ⟨g5, hE⟩ := hE
    refine sI rc345 rfl (Nat.le_of_ble_eq_true rfl) ?_
    refine k345 g5 (inA hR.1 (a := 91) (k := 57) rfl) ?_
    refine s7 (ls' := [.ref 91, .int (oI x1), .int (oI x2), .int (oI (min x2 (A 91 57)))]) (Nat.le_of_ble_eq_true rfl) rfl ?_
    refine s79 ?_
    exact hE
set_option maxRecDepth 4000 in
theorem e293_7 {d L : Nat} {I : Nat → Nat → Int32} {R : Nat → Nat → Option Nat} {S : List (Nat × Nat)} {Q : Option Value → mM → Prop} {A : aS} (hR : RM I A) {x1 : Int} {w2 : Value} {x3 : Int} (hE : inR x3 ∧ (((0 < x3) → WfV A ∧ (inR x1 ∧ ((1 ≤ x3 ∧ x3 ≤ 10) ∧ ((((suB A x1 x3 = true) → ∀ (I9 : mI), (Fr [135] [] I I9) → (RM I9 A) → Q (some (.int (oI x3))) (bd L I9 R S)) ∧ (¬ (suB A x1 x3 = true) → ∀ (I9 : mI), (Fr [135] [] I I9) → (RM I9 A) → h293_7 (d + 3) L I9 R S Q x1 (mNl w2) (x3 + (-1)))))))) ∧ (¬ (0 < x3) → Q (some (.int (oI x3))) (bd L I R S)))) : h293_7 (d + 3) L I R S Q x1 w2 x3 := by
  unfold h293_7
  refine xG gb293.2.2.2.2.2.2.2.1 ?_
  refine s4 (x := x3) rfl ?_
  obtain ⟨g1, hE⟩ := hE
  refine s72 g1 (fun c2 => ?_) (fun c2 => ?_)
  · replace hE := hE.1 c2
    refine s6 (p := 91) rfl ?_
    refine s4 (x := x1) rfl ?_
    refine s4 (x := x3) rfl ?_
    obtain ⟨g5, hE⟩ := hE
    obtain ⟨g6, hE⟩ := hE
    obtain ⟨g7, hE⟩ := hE
    refine sI rc294 rfl (Nat.le_of_ble_eq_true rfl) ?_
    refine k294 hR g5 g6 g7 (fun c8 I9 q10 q11 => ?_) (fun c8 I9 q10 q11 => ?_)
    · replace hE := hE.1 c8 I9 q10 q11
      refine s68 (inRd rfl) (fun c12 => absurd c12 (by decide)) (fun _ => ?_)
      refine xG gb293.2.2.2.2.2.2.2.2 ?_
      refine s4 (x := x3) rfl ?_
      refine s80 ?_
      exact hE
    · replace hE := hE.2 c8 I9 q10 q11
      refine s68 (inRd rfl) (fun _ => ?_) (fun c13 => absurd (by decide) c13)
      refine s10 (x := x3) (ls' := [.ref 91, .int (oI x1), mNl w2, .int (oI (x3 + (-1)))]) rfl rfl ?_
      refine s60 ?_
      exact hE
  · replace hE := hE.2 c2
    refine xG gb293.2.2.2.2.2.2.2.2 ?_
    refine s4 (x := x3) rfl ?_
    refine s80 ?_
    exact hE
set_option maxRecDepth 4000 in
theorem e293 {d L : Nat} {I : Nat → Nat → Int32} {R : Nat → Nat → Option Nat} {S : List (Nat × Nat)} {K : Int32 → mM → Prop} {A : aS} (hR : RM I A) {x1 : Int} (hE : inR x1 ∧ (((0 ≤ x1 ∧ x1 ≤ 3) → ((A 91 57 = 0) → K (oI (-1)) (bd L I R S)) ∧ (¬ (A 91 57 = 0) → h293_3 (d + 1) L I R S (rqI K) x1 0 0)) ∧ (¬ (0 ≤ x1 ∧ x1 ≤ 3) → K (oI (-1)) (bd L I R S)))) : CallI (d + 1) 293 [.ref 91, .int (oI x1)] (bd L I R S) K := by
  refine cI_of (ls := [.ref 91, .int (oI x1), mUn, mUn]) rfl ?_
  refine xG gb293.1 ?_
  refine s4 (x := x1) rfl ?_
  refine s0 ?_
  refine s0 ?_
  obtain ⟨g1, hE⟩ := hE
  refine sI rc210 rfl (Nat.le_of_ble_eq_true rfl) ?_
  refine k210 g1 (inRd rfl) (inRd rfl) (fun c2 => ?_) (fun c2 => ?_)
  · replace hE := hE.1 c2
    refine s67 (inRd rfl) (fun c3 => absurd c3 (by decide)) (fun _ => ?_)
    refine s6 (p := 91) rfl ?_
    refine s50 (v := A 91 57) sh91 (by decide) (by decide) (rdM hR.1 rfl) ?_
    refine s68 (inA hR.1 (a := 91) (k := 57) rfl) (fun c4 => ?_) (fun c4 => ?_)
    · replace hE := hE.1 c4
      refine s79 ?_
      refine xG gb293.2.1 ?_
      refine s0 ?_
      refine s80 ?_
      exact rqI_of hE
    · replace hE := hE.2 c4
      refine xG gb293.2.2.1 ?_
      refine s0 ?_
      refine s7 (ls' := [.ref 91, .int (oI x1), .int (oI 0), mUn]) (Nat.le_of_ble_eq_true rfl) rfl ?_
      refine s0 ?_
      refine s7 (ls' := [.ref 91, .int (oI x1), .int (oI 0), .int (oI 0)]) (Nat.le_of_ble_eq_true rfl) rfl ?_
      refine s79 ?_
      exact hE
  · replace hE := hE.2 c2
    refine s67 (inRd rfl) (fun _ => ?_) (fun c5 => absurd (by decide) c5)
    refine xG gb293.2.1 ?_
    refine s0 ?_
    refine s80 ?_
    exact rqI_of hE
def h289_3 (d L : Nat) (I : Nat → Nat → Int32) (R : Nat → Nat → Option Nat) (S : List (Nat × Nat)) (Q : Option Value → mM → Prop) (x1 : Int) (x2 : Int) (x3 : Int) (x4 : Int) (x5 : Int) : Prop := Wp d (gb 289 3) [.ref 91, .int (oI x1), .int (oI x2), .int (oI x3), .int (oI x4), .int (oI x5)] [] (bd L I R S) Q
set_option maxRecDepth 4000 in
theorem e289_3 {d L : Nat} {I : Nat → Nat → Int32} {R : Nat → Nat → Option Nat} {S : List (Nat × Nat)} {Q : Option Value → mM → Prop} {A : aS} (hR : RM I A) {x1 : Int} {x2 : Int} {x3 : Int} {x4 : Int} {x5 : Int} (hE : inR x5 ∧ (((x5 < A 91 58) → inR x2 ∧ (((x5 = x2) → h289_3 d L I R S Q x1 x2 x3 (x4 + 0) (x5 + 1)) ∧ (¬ (x5 = x2) → (0 ≤ (10 * x1) + x5 ∧ (10 * x1) + x5 < 600) ∧ (h289_3 d L I R S Q x1 x2 x3 (x4 + (A 134 ((10 * x1) + x5).toNat)) (x5 + 1))))) ∧ (¬ (x5 < A 91 58) → inR x4 ∧ (((A 91 57 < x4) → Q (some (.int (oI (-1)))) (bd L I R S)) ∧ (¬ (A 91 57 < x4) → (0 ≤ (10 * x1) + x2 ∧ (10 * x1) + x2 < 600) ∧ (Q (some (.int (oI (A 91 57 - x4)))) (bd L (u2 I 134 ((10 * x1) + x2).toNat (oI x3)) R S))))))) : h289_3 d L I R S Q x1 x2 x3 x4 x5 := by
  unfold h289_3
  refine xG gb289.2.2.2.1 ?_
  refine s4 (x := x5) rfl ?_
  refine s6 (p := 91) rfl ?_
  refine s50 (v := A 91 58) sh91 (by decide) (by decide) (rdM hR.1 rfl) ?_
  obtain ⟨g1, hE⟩ := hE
  refine s64 g1 (inA hR.1 (a := 91) (k := 58) rfl) (fun c2 => ?_) (fun c2 => ?_)
  · replace hE := hE.1 c2
    refine s4 (x := x4) rfl ?_
    refine s4 (x := x5) rfl ?_
    refine s4 (x := x2) rfl ?_
    obtain ⟨g3, hE⟩ := hE
    refine s62 g1 g3 (fun c4 => ?_) (fun c4 => ?_)
    · replace hE := hE.1 c4
      refine s0 ?_
      refine s60 ?_
      refine xG gb289.2.2.2.2.2.1 ?_
      refine s16 ?_
      refine s7 (ls' := [.ref 91, .int (oI x1), .int (oI x2), .int (oI x3), .int (oI (x4 + 0)), .int (oI x5)]) (Nat.le_of_ble_eq_true rfl) rfl ?_
      refine s10 (x := x5) (ls' := [.ref 91, .int (oI x1), .int (oI x2), .int (oI x3), .int (oI (x4 + 0)), .int (oI (x5 + 1))]) rfl rfl ?_
      refine s60 ?_
      exact hE
    · replace hE := hE.2 c4
      refine xG gb289.2.2.2.2.1 ?_
      refine s6 (p := 91) rfl ?_
      refine s51 sh91 (by decide) (by decide) rf91_61 ?_
      refine s0 ?_
      refine s4 (x := x1) rfl ?_
      refine s18 ?_
      refine s4 (x := x5) rfl ?_
      refine s16 ?_
      obtain ⟨g5, hE⟩ := hE
      refine s40 (v := A 134 ((10 * x1) + x5).toNat) sh134 g5 rfl (rdM hR.1 rfl) ?_
      refine s79 ?_
      refine xG gb289.2.2.2.2.2.1 ?_
      refine s16 ?_
      refine s7 (ls' := [.ref 91, .int (oI x1), .int (oI x2), .int (oI x3), .int (oI (x4 + (A 134 ((10 * x1) + x5).toNat))), .int (oI x5)]) (Nat.le_of_ble_eq_true rfl) rfl ?_
      refine s10 (x := x5) (ls' := [.ref 91, .int (oI x1), .int (oI x2), .int (oI x3), .int (oI (x4 + (A 134 ((10 * x1) + x5).toNat))), .int (oI (x5 + 1))]) rfl rfl ?_
      refine s60 ?_
      exact hE
  · replace hE := hE.2 c2
    refine xG gb289.2.2.2.2.2.2.1 ?_
    refine s4 (x := x4) rfl ?_
    refine s6 (p := 91) rfl ?_
    refine s50 (v := A 91 57) sh91 (by decide) (by decide) (rdM hR.1 rfl) ?_
    obtain ⟨g6, hE⟩ := hE
    refine s66 g6 (inA hR.1 (a := 91) (k := 57) rfl) (fun c7 => ?_) (fun c7 => ?_)
    · replace hE := hE.1 c7
      refine s0 ?_
      refine s80 ?_
      exact hE
    · replace hE := hE.2 c7
      refine xG gb289.2.2.2.2.2.2.2 ?_
      refine s6 (p := 91) rfl ?_
      refine s51 sh91 (by decide) (by decide) rf91_61 ?_
      refine s0 ?_
      refine s4 (x := x1) rfl ?_
      refine s18 ?_
      refine s4 (x := x2) rfl ?_
      refine s16 ?_
      refine s4 (x := x3) rfl ?_
      obtain ⟨g8, hE⟩ := hE
      refine s44 sh134 (by decide) g8 rfl ?_
      refine s6 (p := 91) rfl ?_
      refine s50 (v := A 91 57) sh91 (by decide) (by decide) ((v2_ne (by decide)).trans (rdM hR.1 rfl)) ?_
      refine s4 (x := x4) rfl ?_
      refine s17 ?_
      refine s80 ?_
      exact hE
set_option maxRecDepth 4000 in
theorem e289 {d L : Nat} {I : Nat → Nat → Int32} {R : Nat → Nat → Option Nat} {S : List (Nat × Nat)} {K : Int32 → mM → Prop} {A : aS} (hR : RM I A) {x1 : Int} {x2 : Int} {x3 : Int} (hE : inR x1 ∧ (inR (A 91 59 - 1) ∧ (((0 ≤ x1 ∧ x1 ≤ A 91 59 - 1) → inR x2 ∧ (inR (A 91 58 - 1) ∧ (((0 ≤ x2 ∧ x2 ≤ A 91 58 - 1) → inR x3 ∧ (((0 ≤ x3 ∧ x3 ≤ 9) → h289_3 (d + 1) L I R S (rqI K) x1 x2 x3 x3 0) ∧ (¬ (0 ≤ x3 ∧ x3 ≤ 9) → K (oI (-1)) (bd L I R S)))) ∧ (¬ (0 ≤ x2 ∧ x2 ≤ A 91 58 - 1) → K (oI (-1)) (bd L I R S))))) ∧ (¬ (0 ≤ x1 ∧ x1 ≤ A 91 59 - 1) → K (oI (-1)) (bd L I R S))))) : CallI (d + 1) 289 [.ref 91, .int (oI x1), .int (oI x2), .int (oI x3)] (bd L I R S) K := by
  refine cI_of (ls := [.ref 91, .int (oI x1), .int (oI x2), .int (oI x3), mUn, mUn]) rfl ?_
  refine xG gb289.1 ?_
  refine s4 (x := x1) rfl ?_
  refine s0 ?_
  refine s6 (p := 91) rfl ?_
  refine s50 (v := A 91 59) sh91 (by decide) (by decide) (rdM hR.1 rfl) ?_
  refine s0 ?_
  refine s17 ?_
  obtain ⟨g1, hE⟩ := hE
  obtain ⟨g2, hE⟩ := hE
  refine sI rc210 rfl (Nat.le_of_ble_eq_true rfl) ?_
  refine k210 g1 (inRd rfl) g2 (fun c3 => ?_) (fun c3 => ?_)
  · replace hE := hE.1 c3
    refine s67 (inRd rfl) (fun c4 => absurd c4 (by decide)) (fun _ => ?_)
    refine s4 (x := x2) rfl ?_
    refine s0 ?_
    refine s6 (p := 91) rfl ?_
    refine s50 (v := A 91 58) sh91 (by decide) (by decide) (rdM hR.1 rfl) ?_
    refine s0 ?_
    refine s17 ?_
    obtain ⟨g5, hE⟩ := hE
    obtain ⟨g6, hE⟩ := hE
    refine sI rc210 rfl (Nat.le_of_ble_eq_true rfl) ?_
    refine k210 g5 (inRd rfl) g6 (fun c7 => ?_) (fun c7 => ?_)
    · replace hE := hE.1 c7
      refine s67 (inRd rfl) (fun c8 => absurd c8 (by decide)) (fun _ => ?_)
      refine s4 (x := x3) rfl ?_
      refine s0 ?_
      refine s0 ?_
      obtain ⟨g9, hE⟩ := hE
      refine sI rc210 rfl (Nat.le_of_ble_eq_true rfl) ?_
      refine k210 g9 (inRd rfl) (inRd rfl) (fun c10 => ?_) (fun c10 => ?_)
      · replace hE := hE.1 c10
        refine s68 (inRd rfl) (fun c11 => absurd c11 (by decide)) (fun _ => ?_)
        refine xG gb289.2.2.1 ?_
        refine s4 (x := x3) rfl ?_
        refine s7 (ls' := [.ref 91, .int (oI x1), .int (oI x2), .int (oI x3), .int (oI x3), mUn]) (Nat.le_of_ble_eq_true rfl) rfl ?_
        refine s0 ?_
        refine s7 (ls' := [.ref 91, .int (oI x1), .int (oI x2), .int (oI x3), .int (oI x3), .int (oI 0)]) (Nat.le_of_ble_eq_true rfl) rfl ?_
        refine s79 ?_
        exact hE
      · replace hE := hE.2 c10
        refine s68 (inRd rfl) (fun _ => ?_) (fun c12 => absurd (by decide) c12)
        refine s79 ?_
        refine xG gb289.2.1 ?_
        refine s0 ?_
        refine s80 ?_
        exact rqI_of hE
    · replace hE := hE.2 c7
      refine s67 (inRd rfl) (fun _ => ?_) (fun c13 => absurd (by decide) c13)
      refine xG gb289.2.1 ?_
      refine s0 ?_
      refine s80 ?_
      exact rqI_of hE
  · replace hE := hE.2 c3
    refine s67 (inRd rfl) (fun _ => ?_) (fun c14 => absurd (by decide) c14)
    refine xG gb289.2.1 ?_
    refine s0 ?_
    refine s80 ?_
    exact rqI_of hE
/-! the reference: heaps, sites -/
def hsL (A : aS) (b c : Int) : Nat → Int
  | 0 => 0
  | k + 1 => hsL A b c k + (if (k : Int) = c then 0 else A 134 (10 * b + k).toNat)
def heapS (A : aS) (b c v : Int) : Int := v + hsL A b c (A 91 58).toNat
def heapOk (A : aS) (b c v : Int) : Prop := (0 ≤ b ∧ b ≤ A 91 59 - 1) ∧ (0 ≤ c ∧ c ≤ A 91 58 - 1) ∧ (0 ≤ v ∧ v ≤ 9) ∧ heapS A b c v ≤ A 91 57
theorem hsL_in {A : aS} (hV : WfV A) {b c : Int} (hb : 0 ≤ b ∧ b < 60) : ∀ k, k ≤ 10 → 0 ≤ hsL A b c k ∧ hsL A b c k ≤ 9 * k
  | 0, _ => by unfold hsL; omega
  | k + 1, h => by
    have ih := hsL_in hV (c := c) hb k (by omega)
    have h2 := hV.2.2.2.2.1 (10 * b + k).toNat (by omega)
    unfold hsL; split <;> omega
section
variable {d L : Nat} {I I0 : mI} {R : Nat → Nat → Option Nat} {S : List (Nat × Nat)} {Q : Option Value → mM → Prop} {A : aS} {c day known kind half year subj code : Int}
theorem l293_7 {q : Int} (hV : WfV A) (hq : 0 ≤ q ∧ q ≤ 3) {v : Int} (hK : ∀ I1, FM I0 I1 → RM I1 A → Q (some (.int (oI v))) (bd L I1 R S)) : ∀ (s : Nat) (I : mI) (w : Value), s ≤ 10 → RM I A → FM I0 I → suD A q s = v → h293_7 (d + 3) L I R S Q q w s := by
  intro s
  induction s with
  | zero =>
    intro I w hs hR hf hv
    have hv : (0 : Int) = v := hv
    refine e293_7 hR ⟨inRd rfl, fun h => absurd h (by decide), fun _ => ?_⟩
    rw [← hv] at hK; exact hK I hf hR
  | succ s ih =>
    intro I w hs hR hf hv
    have es : suD A q (s + 1) = if suB A q ((s + 1 : Nat) : Int) = true then ((s + 1 : Nat) : Int) else suD A q s := rfl
    refine e293_7 hR ⟨⟨by omega, by omega⟩, fun _ => ⟨hV, ⟨by omega, by omega⟩, by omega, fun c1 I1 hf1 hR1 => ?_, fun c1 I1 hf1 hR1 => ?_⟩, fun h => by exfalso; omega⟩
    · rw [es, if_pos c1] at hv
      rw [← hv] at hK; exact hK I1 (hf.trans (hf1.FM rfl)) hR1
    · rw [es, if_neg c1] at hv
      have q9 := ih I1 (mNl w) (by omega) hR1 (hf.trans (hf1.FM rfl)) hv
      rw [show (((s + 1 : Nat) : Int) + -1) = s by omega]
      exact q9
theorem l293_3 {q : Int} (hV : WfV A) (hq : 0 ≤ q ∧ q ≤ 3) (hR : RM I A) (hK : ∀ I1, FM I I1 → RM I1 A → Q (some (.int (oI (suD A q (min (nkL A q (A 91 58).toNat) (A 91 57)).toNat)))) (bd L I1 R S)) : ∀ (n k : Nat), k + n = (A 91 58).toNat → h293_3 (d + 3) L I R S Q q (nkL A q k) k := by
  have v1 := hV.2.1
  have v0 := hV.1
  intro n
  induction n with
  | zero =>
    intro k hk
    have ni := nkL_in (A := A) (q := q) k
    refine e293_3 (d := d + 2) hR ⟨⟨by omega, by omega⟩, fun h => by exfalso; omega, fun _ => ⟨⟨by omega, by omega⟩, ?_⟩⟩
    rw [show (A 91 58).toNat = k by omega] at hK
    have q9 := l293_7 (d := d) (L := L) (R := R) (S := S) (Q := Q) (I0 := I) hV hq hK (min (nkL A q k) (A 91 57)).toNat I (.int (oI (nkL A q k))) (by omega) hR (FM.refl _) rfl
    rw [show (((min (nkL A q k) (A 91 57)).toNat : Nat) : Int) = min (nkL A q k) (A 91 57) by omega] at q9
    exact q9
  | succ n ih =>
    intro k hk
    refine e293_3 (d := d + 2) hR ⟨⟨by omega, by omega⟩, fun _ => ⟨by omega, ⟨by omega, by omega⟩, ?_⟩, fun h => by exfalso; omega⟩
    rw [Int.toNat_natCast]
    exact ih (k + 1) (by omega)
theorem k293 {K : Int32 → mM → Prop} {q : Int} (hR : RM I A) (hV : WfV A) (h1 : inR q) (hK : ∀ I1, FM I I1 → RM I1 A → K (oI (sureA A q)) (bd L I1 R S)) : CallI (d + 3) 293 [.ref 91, .int (oI q)] (bd L I R S) K := by
  unfold sureA at hK
  refine e293 (d := d + 2) hR ⟨h1, fun c1 => ⟨fun c2 => ?_, fun c2 => ?_⟩, fun c1 => ?_⟩
  · rw [if_pos (Or.inr c2)] at hK; exact hK I (FM.refl _) hR
  · rw [if_neg (by rintro (h | h); exact h c1; exact c2 h)] at hK
    exact l293_3 (d := d) hV c1 hR (fun I1 h1 h2 => rqI_of (hK I1 h1 h2)) (A 91 58).toNat 0 (by omega)
  · rw [if_pos (Or.inl c1)] at hK; exact hK I (FM.refl _) hR
theorem l289 {b c v : Int} (hV : WfV A) (hb : 0 ≤ b ∧ b ≤ A 91 59 - 1) (hc : 0 ≤ c ∧ c ≤ A 91 58 - 1) (hv : 0 ≤ v ∧ v ≤ 9) (hR : RM I A) (h1 : heapS A b c v ≤ A 91 57 → Q (some (.int (oI (A 91 57 - heapS A b c v)))) (bd L (u2 I 134 (10 * b + c).toNat (oI v)) R S)) (h0 : ¬ heapS A b c v ≤ A 91 57 → Q (some (.int (oI (-1)))) (bd L I R S)) : ∀ (n k : Nat), k + n = (A 91 58).toNat → h289_3 d L I R S Q b c v (v + hsL A b c k) k := by
  have v1 := hV.2.1
  have v2 := hV.2.2.1
  intro n
  induction n with
  | zero =>
    intro k hk
    have hi := hsL_in hV (c := c) (b := b) (by omega) k (by omega)
    have ek : (A 91 58).toNat = k := by omega
    unfold heapS at h1 h0
    rw [ek] at h1 h0
    refine e289_3 hR ⟨⟨by omega, by omega⟩, fun h => by exfalso; omega, fun _ => ⟨⟨by omega, by omega⟩, fun c1 => h0 (by omega), fun c1 => ⟨by omega, h1 (by omega)⟩⟩⟩
  | succ n ih =>
    intro k hk
    have es : hsL A b c (k + 1) = hsL A b c k + (if (k : Int) = c then 0 else A 134 (10 * b + k).toNat) := rfl
    have ih := ih (k + 1) (by omega)
    rw [es] at ih
    refine e289_3 hR ⟨⟨by omega, by omega⟩, fun _ => ⟨⟨by omega, by omega⟩, fun c1 => ?_, fun c1 => ⟨by omega, ?_⟩⟩, fun h => by exfalso; omega⟩
    · rw [if_pos c1, Int.add_zero] at ih
      rw [Int.add_zero]; exact ih
    · rw [if_neg c1] at ih
      rw [Int.add_assoc]; exact ih
end
/-- within a walk of a school, of a site taken -/
def dsS (x y a b : Int) : Int := ab (a - x) + ab (b - y)
def nsB (A : aS) (w x y : Int) : Nat → Bool
  | 0 => false
  | s + 1 => nsB A w x y s || decide (dsS x y (A 98 s) (A 99 s) ≤ w)
def ntB (A : aS) (set w x y : Int) (b0 : Bool) : Nat → Bool
  | 0 => b0
  | s + 1 => ntB A set w x y b0 s || (decide (iAnd (iShr set s) 1 = 1) && decide (dsS x y (A 131 s) (A 132 s) ≤ w))
def chB (A : aS) (set w : Int) (c : Nat) : Bool := ntB A set w (A 101 (A 93 c).toNat) (A 102 (A 93 c).toNat) (nsB A w (A 101 (A 93 c).toNat) (A 102 (A 93 c).toNat) (A 91 2).toNat) (A 91 54).toNat
def reL (A : aS) (set w : Int) : Nat → Bool
  | 0 => true
  | c + 1 => reL A set w c && chB A set w c
def reB (A : aS) (set w : Int) : Bool := reL A set w (A 91 1).toNat
/-- places -/
def WfX (A : aS) : Prop := (0 ≤ A 91 54 ∧ A 91 54 ≤ 10) ∧ (∀ k : Nat, k < 10 → (0 ≤ A 101 k ∧ A 101 k ≤ 60) ∧ (0 ≤ A 102 k ∧ A 102 k ≤ 60)) ∧ (∀ k : Nat, k < (A 91 2).toNat → (0 ≤ A 98 k ∧ A 98 k ≤ 60) ∧ (0 ≤ A 99 k ∧ A 99 k ≤ 60)) ∧ (∀ k : Nat, k < (A 91 54).toNat → (0 ≤ A 131 k ∧ A 131 k ≤ 60) ∧ (0 ≤ A 132 k ∧ A 132 k ≤ 60))
theorem ab_in {x : Int} (h : -60 ≤ x ∧ x ≤ 60) : 0 ≤ ab x ∧ ab x ≤ 60 := by unfold ab; omega
def h285_1 (d L : Nat) (I : Nat → Nat → Int32) (R : Nat → Nat → Option Nat) (S : List (Nat × Nat)) (Q : Option Value → mM → Prop) (x1 : Int) (x2 : Int) (x3 : Int) (x4 : Int) (w5 : Value) (w6 : Value) (w7 : Value) (w8 : Value) : Prop := Wp d (gb 285 1) [.ref 91, .int (oI x1), .int (oI x2), .int (oI x3), .int (oI x4), w5, w6, w7, w8] [] (bd L I R S) Q
def h285_2 (d L : Nat) (I : Nat → Nat → Int32) (R : Nat → Nat → Option Nat) (S : List (Nat × Nat)) (Q : Option Value → mM → Prop) (x1 : Int) (x2 : Int) (x3 : Int) (x4 : Int) (x5 : Int) (x6 : Int) (x7 : Int) (x8 : Int) : Prop := Wp d (gb 285 2) [.ref 91, .int (oI x1), .int (oI x2), .int (oI x3), .int (oI x4), .int (oI x5), .int (oI x6), .int (oI x7), .int (oI x8)] [] (bd L I R S) Q
def h285_7 (d L : Nat) (I : Nat → Nat → Int32) (R : Nat → Nat → Option Nat) (S : List (Nat × Nat)) (Q : Option Value → mM → Prop) (x1 : Int) (x2 : Int) (x3 : Int) (x4 : Int) (x5 : Int) (x6 : Int) (x7 : Int) (x8 : Int) : Prop := Wp d (gb 285 7) [.ref 91, .int (oI x1), .int (oI x2), .int (oI x3), .int (oI x4), .int (oI x5), .int (oI x6), .int (oI x7), .int (oI x8)] [] (bd L I R S) Q
set_option maxRecDepth 4000 in
theorem e285_1 {d L : Nat} {I : Nat → Nat → Int32} {R : Nat → Nat → Option Nat} {S : List (Nat × Nat)} {Q : Option Value → mM → Prop} {A : aS} (hR : RM I A) {x1 : Int} {x2 : Int} {x3 : Int} {x4 : Int} {w5 : Value} {w6 : Value} {w7 : Value} {w8 : Value} (hE : inR x4 ∧ (((x4 < A 91 1) → (0 ≤ x4 ∧ x4 < 40) ∧ ((0 ≤ A 93 x4.toNat ∧ A 93 x4.toNat < 10) ∧ (h285_2 d L I R S Q x1 x2 x3 x4 (A 101 (A 93 x4.toNat).toNat) (A 102 (A 93 x4.toNat).toNat) 0 0))) ∧ (¬ (x4 < A 91 1) → (x3 = 0 ∨ x3 = 1) ∧ (Q (some (.int (oI x3))) (bd L I R S))))) : h285_1 d L I R S Q x1 x2 x3 x4 w5 w6 w7 w8 := by
  unfold h285_1
  refine xG gb285.2.1 ?_
  refine s4 (x := x4) rfl ?_
  refine s6 (p := 91) rfl ?_
  refine s50 (v := A 91 1) sh91 (by decide) (by decide) (rdM hR.1 rfl) ?_
  obtain ⟨g1, hE⟩ := hE
  refine s64 g1 (inA hR.1 (a := 91) (k := 1) rfl) (fun c2 => ?_) (fun c2 => ?_)
  · replace hE := hE.1 c2
    refine s6 (p := 91) rfl ?_
    refine s51 sh91 (by decide) (by decide) rf91_14 ?_
    refine s6 (p := 91) rfl ?_
    refine s51 sh91 (by decide) (by decide) rf91_6 ?_
    refine s4 (x := x4) rfl ?_
    obtain ⟨g3, hE⟩ := hE
    refine s40 (v := A 93 x4.toNat) sh93 g3 rfl (rdM hR.1 rfl) ?_
    obtain ⟨g4, hE⟩ := hE
    refine s40 (v := A 101 (A 93 x4.toNat).toNat) sh101 g4 rfl (rdM hR.1 rfl) ?_
    refine s7 (ls' := [.ref 91, .int (oI x1), .int (oI x2), .int (oI x3), .int (oI x4), .int (oI (A 101 (A 93 x4.toNat).toNat)), w6, w7, w8]) (Nat.le_of_ble_eq_true rfl) rfl ?_
    refine s6 (p := 91) rfl ?_
    refine s51 sh91 (by decide) (by decide) rf91_15 ?_
    refine s6 (p := 91) rfl ?_
    refine s51 sh91 (by decide) (by decide) rf91_6 ?_
    refine s4 (x := x4) rfl ?_
    refine s40 (v := A 93 x4.toNat) sh93 g3 rfl (rdM hR.1 rfl) ?_
    refine s40 (v := A 102 (A 93 x4.toNat).toNat) sh102 g4 rfl (rdM hR.1 rfl) ?_
    refine s7 (ls' := [.ref 91, .int (oI x1), .int (oI x2), .int (oI x3), .int (oI x4), .int (oI (A 101 (A 93 x4.toNat).toNat)), .int (oI (A 102 (A 93 x4.toNat).toNat)), w7, w8]) (Nat.le_of_ble_eq_true rfl) rfl ?_
    refine s0 ?_
    refine s7 (ls' := [.ref 91, .int (oI x1), .int (oI x2), .int (oI x3), .int (oI x4), .int (oI (A 101 (A 93 x4.toNat).toNat)), .int (oI (A 102 (A 93 x4.toNat).toNat)), .int (oI 0), w8]) (Nat.le_of_ble_eq_true rfl) rfl ?_
    refine s0 ?_
    refine s7 (ls' := [.ref 91, .int (oI x1), .int (oI x2), .int (oI x3), .int (oI x4), .int (oI (A 101 (A 93 x4.toNat).toNat)), .int (oI (A 102 (A 93 x4.toNat).toNat)), .int (oI 0), .int (oI 0)]) (Nat.le_of_ble_eq_true rfl) rfl ?_
    refine s79 ?_
    exact hE
  · replace hE := hE.2 c2
    refine xG gb285.2.2.2.2.2.2.2.2.2.2.2.2.2.2 ?_
    refine s4 (x := x3) rfl ?_
    obtain ⟨g5, hE⟩ := hE
    refine s84 g5 ?_
    exact hE
set_option maxRecDepth 4000 in
theorem e285_2 {d L : Nat} {I : Nat → Nat → Int32} {R : Nat → Nat → Option Nat} {S : List (Nat × Nat)} {Q : Option Value → mM → Prop} {A : aS} (hR : RM I A) {x1 : Int} {x2 : Int} {x3 : Int} {x4 : Int} {x5 : Int} {x6 : Int} {x7 : Int} {x8 : Int} (hE : inR x8 ∧ (((x8 < A 91 2) → inR x7 ∧ (((x7 = 0) → (0 ≤ x8 ∧ x8 < 6) ∧ (inR (A 98 x8.toNat - x5) ∧ (inR (A 99 x8.toNat - x6) ∧ (inR (ab (A 98 x8.toNat - x5) + (ab (A 99 x8.toNat - x6))) ∧ (inR x2 ∧ (((x2 < ab (A 98 x8.toNat - x5) + (ab (A 99 x8.toNat - x6))) → h285_2 (d + 1) L I R S Q x1 x2 x3 x4 x5 x6 0 (x8 + 1)) ∧ (¬ (x2 < ab (A 98 x8.toNat - x5) + (ab (A 99 x8.toNat - x6))) → h285_2 (d + 1) L I R S Q x1 x2 x3 x4 x5 x6 1 (x8 + 1)))))))) ∧ (¬ (x7 = 0) → h285_2 (d + 1) L I R S Q x1 x2 x3 x4 x5 x6 1 (x8 + 1)))) ∧ (¬ (x8 < A 91 2) → h285_7 (d + 1) L I R S Q x1 x2 x3 x4 x5 x6 x7 0))) : h285_2 (d + 1) L I R S Q x1 x2 x3 x4 x5 x6 x7 x8 := by
  unfold h285_2
  refine xG gb285.2.2.1 ?_
  refine s4 (x := x8) rfl ?_
  refine s6 (p := 91) rfl ?_
  refine s50 (v := A 91 2) sh91 (by decide) (by decide) (rdM hR.1 rfl) ?_
  obtain ⟨g1, hE⟩ := hE
  refine s64 g1 (inA hR.1 (a := 91) (k := 2) rfl) (fun c2 => ?_) (fun c2 => ?_)
  · replace hE := hE.1 c2
    refine s4 (x := x7) rfl ?_
    obtain ⟨g3, hE⟩ := hE
    refine s68 g3 (fun c4 => ?_) (fun c4 => ?_)
    · replace hE := hE.1 c4
      refine s6 (p := 91) rfl ?_
      refine s51 sh91 (by decide) (by decide) rf91_11 ?_
      refine s4 (x := x8) rfl ?_
      obtain ⟨g5, hE⟩ := hE
      refine s40 (v := A 98 x8.toNat) sh98 g5 rfl (rdM hR.1 rfl) ?_
      refine s4 (x := x5) rfl ?_
      refine s17 ?_
      obtain ⟨g6, hE⟩ := hE
      refine sI rc347 rfl (Nat.le_of_ble_eq_true rfl) ?_
      refine k347 g6 ?_
      refine s6 (p := 91) rfl ?_
      refine s51 sh91 (by decide) (by decide) rf91_12 ?_
      refine s4 (x := x8) rfl ?_
      refine s40 (v := A 99 x8.toNat) sh99 g5 rfl (rdM hR.1 rfl) ?_
      refine s4 (x := x6) rfl ?_
      refine s17 ?_
      obtain ⟨g7, hE⟩ := hE
      refine sI rc347 rfl (Nat.le_of_ble_eq_true rfl) ?_
      refine k347 g7 ?_
      refine s16 ?_
      refine s4 (x := x2) rfl ?_
      obtain ⟨g8, hE⟩ := hE
      obtain ⟨g9, hE⟩ := hE
      refine s65 g8 g9 (fun c10 => ?_) (fun c10 => ?_)
      · replace hE := hE.1 c10
        refine xG gb285.2.2.2.2.1 ?_
        refine s0 ?_
        refine s79 ?_
        refine xG gb285.2.2.2.2.2.1 ?_
        refine s7 (ls' := [.ref 91, .int (oI x1), .int (oI x2), .int (oI x3), .int (oI x4), .int (oI x5), .int (oI x6), .int (oI 0), .int (oI x8)]) (Nat.le_of_ble_eq_true rfl) rfl ?_
        refine s10 (x := x8) (ls' := [.ref 91, .int (oI x1), .int (oI x2), .int (oI x3), .int (oI x4), .int (oI x5), .int (oI x6), .int (oI 0), .int (oI (x8 + 1))]) rfl rfl ?_
        refine s60 ?_
        exact hE
      · replace hE := hE.2 c10
        refine s79 ?_
        refine xG gb285.2.2.2.1 ?_
        refine s0 ?_
        refine s60 ?_
        refine xG gb285.2.2.2.2.2.1 ?_
        refine s7 (ls' := [.ref 91, .int (oI x1), .int (oI x2), .int (oI x3), .int (oI x4), .int (oI x5), .int (oI x6), .int (oI 1), .int (oI x8)]) (Nat.le_of_ble_eq_true rfl) rfl ?_
        refine s10 (x := x8) (ls' := [.ref 91, .int (oI x1), .int (oI x2), .int (oI x3), .int (oI x4), .int (oI x5), .int (oI x6), .int (oI 1), .int (oI (x8 + 1))]) rfl rfl ?_
        refine s60 ?_
        exact hE
    · replace hE := hE.2 c4
      refine xG gb285.2.2.2.1 ?_
      refine s0 ?_
      refine s60 ?_
      refine xG gb285.2.2.2.2.2.1 ?_
      refine s7 (ls' := [.ref 91, .int (oI x1), .int (oI x2), .int (oI x3), .int (oI x4), .int (oI x5), .int (oI x6), .int (oI 1), .int (oI x8)]) (Nat.le_of_ble_eq_true rfl) rfl ?_
      refine s10 (x := x8) (ls' := [.ref 91, .int (oI x1), .int (oI x2), .int (oI x3), .int (oI x4), .int (oI x5), .int (oI x6), .int (oI 1), .int (oI (x8 + 1))]) rfl rfl ?_
      refine s60 ?_
      exact hE
  · replace hE := hE.2 c2
    refine xG gb285.2.2.2.2.2.2.1 ?_
    refine s0 ?_
    refine s7 (ls' := [.ref 91, .int (oI x1), .int (oI x2), .int (oI x3), .int (oI x4), .int (oI x5), .int (oI x6), .int (oI x7), .int (oI 0)]) (Nat.le_of_ble_eq_true rfl) rfl ?_
    refine s79 ?_
    exact hE
set_option maxRecDepth 4000 in
theorem e285_7 {d L : Nat} {I : Nat → Nat → Int32} {R : Nat → Nat → Option Nat} {S : List (Nat × Nat)} {Q : Option Value → mM → Prop} {A : aS} (hR : RM I A) {x1 : Int} {x2 : Int} {x3 : Int} {x4 : Int} {x5 : Int} {x6 : Int} {x7 : Int} {x8 : Int} (hE : inR x8 ∧ (((x8 < A 91 54) → inR x7 ∧ (((x7 = 0) → inR (iAnd (iShr x1 x8) 1) ∧ (((iAnd (iShr x1 x8) 1 = 1) → (0 ≤ x8 ∧ x8 < 10) ∧ (inR (A 131 x8.toNat - x5) ∧ (inR (A 132 x8.toNat - x6) ∧ (inR (ab (A 131 x8.toNat - x5) + (ab (A 132 x8.toNat - x6))) ∧ (inR x2 ∧ (((x2 < ab (A 131 x8.toNat - x5) + (ab (A 132 x8.toNat - x6))) → h285_7 (d + 1) L I R S Q x1 x2 x3 x4 x5 x6 0 (x8 + 1)) ∧ (¬ (x2 < ab (A 131 x8.toNat - x5) + (ab (A 132 x8.toNat - x6))) → h285_7 (d + 1) L I R S Q x1 x2 x3 x4 x5 x6 1 (x8 + 1)))))))) ∧ (¬ (iAnd (iShr x1 x8) 1 = 1) → h285_7 (d + 1) L I R S Q x1 x2 x3 x4 x5 x6 0 (x8 + 1)))) ∧ (¬ (x7 = 0) → h285_7 (d + 1) L I R S Q x1 x2 x3 x4 x5 x6 1 (x8 + 1)))) ∧ (¬ (x8 < A 91 54) → inR x3 ∧ (((x3 = 0) → h285_1 (d + 1) L I R S Q x1 x2 0 (x4 + 1) (.int (oI x5)) (.int (oI x6)) (.int (oI x7)) (.int (oI x8))) ∧ (¬ (x3 = 0) → inR x7 ∧ (((x7 = 0) → h285_1 (d + 1) L I R S Q x1 x2 0 (x4 + 1) (.int (oI x5)) (.int (oI x6)) (.int (oI x7)) (.int (oI x8))) ∧ (¬ (x7 = 0) → h285_1 (d + 1) L I R S Q x1 x2 1 (x4 + 1) (.int (oI x5)) (.int (oI x6)) (.int (oI x7)) (.int (oI x8))))))))) : h285_7 (d + 1) L I R S Q x1 x2 x3 x4 x5 x6 x7 x8 := by
  unfold h285_7
  refine xG gb285.2.2.2.2.2.2.2.1 ?_
  refine s4 (x := x8) rfl ?_
  refine s6 (p := 91) rfl ?_
  refine s50 (v := A 91 54) sh91 (by decide) (by decide) (rdM hR.1 rfl) ?_
  obtain ⟨g1, hE⟩ := hE
  refine s64 g1 (inA hR.1 (a := 91) (k := 54) rfl) (fun c2 => ?_) (fun c2 => ?_)
  · replace hE := hE.1 c2
    refine s4 (x := x7) rfl ?_
    obtain ⟨g3, hE⟩ := hE
    refine s68 g3 (fun c4 => ?_) (fun c4 => ?_)
    · replace hE := hE.1 c4
      refine s4 (x := x1) rfl ?_
      refine s4 (x := x8) rfl ?_
      refine s23 ?_
      refine s0 ?_
      refine s25 ?_
      refine s0 ?_
      obtain ⟨g5, hE⟩ := hE
      refine s62 g5 (inRd rfl) (fun c6 => ?_) (fun c6 => ?_)
      · replace hE := hE.1 c6
        refine s6 (p := 91) rfl ?_
        refine s51 sh91 (by decide) (by decide) rf91_55 ?_
        refine s4 (x := x8) rfl ?_
        obtain ⟨g7, hE⟩ := hE
        refine s40 (v := A 131 x8.toNat) sh131 g7 rfl (rdM hR.1 rfl) ?_
        refine s4 (x := x5) rfl ?_
        refine s17 ?_
        obtain ⟨g8, hE⟩ := hE
        refine sI rc347 rfl (Nat.le_of_ble_eq_true rfl) ?_
        refine k347 g8 ?_
        refine s6 (p := 91) rfl ?_
        refine s51 sh91 (by decide) (by decide) rf91_56 ?_
        refine s4 (x := x8) rfl ?_
        refine s40 (v := A 132 x8.toNat) sh132 g7 rfl (rdM hR.1 rfl) ?_
        refine s4 (x := x6) rfl ?_
        refine s17 ?_
        obtain ⟨g9, hE⟩ := hE
        refine sI rc347 rfl (Nat.le_of_ble_eq_true rfl) ?_
        refine k347 g9 ?_
        refine s16 ?_
        refine s4 (x := x2) rfl ?_
        obtain ⟨g10, hE⟩ := hE
        obtain ⟨g11, hE⟩ := hE
        refine s65 g10 g11 (fun c12 => ?_) (fun c12 => ?_)
        · replace hE := hE.1 c12
          refine xG gb285.2.2.2.2.2.2.2.2.2.1 ?_
          refine s0 ?_
          refine s79 ?_
          refine xG gb285.2.2.2.2.2.2.2.2.2.2.1 ?_
          refine s7 (ls' := [.ref 91, .int (oI x1), .int (oI x2), .int (oI x3), .int (oI x4), .int (oI x5), .int (oI x6), .int (oI 0), .int (oI x8)]) (Nat.le_of_ble_eq_true rfl) rfl ?_
          refine s10 (x := x8) (ls' := [.ref 91, .int (oI x1), .int (oI x2), .int (oI x3), .int (oI x4), .int (oI x5), .int (oI x6), .int (oI 0), .int (oI (x8 + 1))]) rfl rfl ?_
          refine s60 ?_
          exact hE
        · replace hE := hE.2 c12
          refine s79 ?_
          refine xG gb285.2.2.2.2.2.2.2.2.1 ?_
          refine s0 ?_
          refine s60 ?_
          refine xG gb285.2.2.2.2.2.2.2.2.2.2.1 ?_
          refine s7 (ls' := [.ref 91, .int (oI x1), .int (oI x2), .int (oI x3), .int (oI x4), .int (oI x5), .int (oI x6), .int (oI 1), .int (oI x8)]) (Nat.le_of_ble_eq_true rfl) rfl ?_
          refine s10 (x := x8) (ls' := [.ref 91, .int (oI x1), .int (oI x2), .int (oI x3), .int (oI x4), .int (oI x5), .int (oI x6), .int (oI 1), .int (oI (x8 + 1))]) rfl rfl ?_
          refine s60 ?_
          exact hE
      · replace hE := hE.2 c6
        refine xG gb285.2.2.2.2.2.2.2.2.2.1 ?_
        refine s0 ?_
        refine s79 ?_
        refine xG gb285.2.2.2.2.2.2.2.2.2.2.1 ?_
        refine s7 (ls' := [.ref 91, .int (oI x1), .int (oI x2), .int (oI x3), .int (oI x4), .int (oI x5), .int (oI x6), .int (oI 0), .int (oI x8)]) (Nat.le_of_ble_eq_true rfl) rfl ?_
        refine s10 (x := x8) (ls' := [.ref 91, .int (oI x1), .int (oI x2), .int (oI x3), .int (oI x4), .int (oI x5), .int (oI x6), .int (oI 0), .int (oI (x8 + 1))]) rfl rfl ?_
        refine s60 ?_
        exact hE
    · replace hE := hE.2 c4
      refine xG gb285.2.2.2.2.2.2.2.2.1 ?_
      refine s0 ?_
      refine s60 ?_
      refine xG gb285.2.2.2.2.2.2.2.2.2.2.1 ?_
      refine s7 (ls' := [.ref 91, .int (oI x1), .int (oI x2), .int (oI x3), .int (oI x4), .int (oI x5), .int (oI x6), .int (oI 1), .int (oI x8)]) (Nat.le_of_ble_eq_true rfl) rfl ?_
      refine s10 (x := x8) (ls' := [.ref 91, .int (oI x1), .int (oI x2), .int (oI x3), .int (oI x4), .int (oI x5), .int (oI x6), .int (oI 1), .int (oI (x8 + 1))]) rfl rfl ?_
      refine s60 ?_
      exact hE
  · replace hE := hE.2 c2
    refine xG gb285.2.2.2.2.2.2.2.2.2.2.2.1 ?_
    refine s4 (x := x3) rfl ?_
    obtain ⟨g13, hE⟩ := hE
    refine s67 g13 (fun c14 => ?_) (fun c14 => ?_)
    · replace hE := hE.1 c14
      refine xG gb285.2.2.2.2.2.2.2.2.2.2.2.2.1 ?_
      refine s0 ?_
      refine s79 ?_
      refine xG gb285.2.2.2.2.2.2.2.2.2.2.2.2.2.1 ?_
      refine s7 (ls' := [.ref 91, .int (oI x1), .int (oI x2), .int (oI 0), .int (oI x4), .int (oI x5), .int (oI x6), .int (oI x7), .int (oI x8)]) (Nat.le_of_ble_eq_true rfl) rfl ?_
      refine s10 (x := x4) (ls' := [.ref 91, .int (oI x1), .int (oI x2), .int (oI 0), .int (oI (x4 + 1)), .int (oI x5), .int (oI x6), .int (oI x7), .int (oI x8)]) rfl rfl ?_
      refine s60 ?_
      exact hE
    · replace hE := hE.2 c14
      refine s4 (x := x7) rfl ?_
      obtain ⟨g15, hE⟩ := hE
      refine s67 g15 (fun c16 => ?_) (fun c16 => ?_)
      · replace hE := hE.1 c16
        refine xG gb285.2.2.2.2.2.2.2.2.2.2.2.2.1 ?_
        refine s0 ?_
        refine s79 ?_
        refine xG gb285.2.2.2.2.2.2.2.2.2.2.2.2.2.1 ?_
        refine s7 (ls' := [.ref 91, .int (oI x1), .int (oI x2), .int (oI 0), .int (oI x4), .int (oI x5), .int (oI x6), .int (oI x7), .int (oI x8)]) (Nat.le_of_ble_eq_true rfl) rfl ?_
        refine s10 (x := x4) (ls' := [.ref 91, .int (oI x1), .int (oI x2), .int (oI 0), .int (oI (x4 + 1)), .int (oI x5), .int (oI x6), .int (oI x7), .int (oI x8)]) rfl rfl ?_
        refine s60 ?_
        exact hE
      · replace hE := hE.2 c16
        refine s0 ?_
        refine s60 ?_
        refine xG gb285.2.2.2.2.2.2.2.2.2.2.2.2.2.1 ?_
        refine s7 (ls' := [.ref 91, .int (oI x1), .int (oI x2), .int (oI 1), .int (oI x4), .int (oI x5), .int (oI x6), .int (oI x7), .int (oI x8)]) (Nat.le_of_ble_eq_true rfl) rfl ?_
        refine s10 (x := x4) (ls' := [.ref 91, .int (oI x1), .int (oI x2), .int (oI 1), .int (oI (x4 + 1)), .int (oI x5), .int (oI x6), .int (oI x7), .int (oI x8)]) rfl rfl ?_
        refine s60 ?_
        exact hE
set_option maxRecDepth 4000 in
theorem e285 {d L : Nat} {I : Nat → Nat → Int32} {R : Nat → Nat → Option Nat} {S : List (Nat × Nat)} {K : Int32 → mM → Prop} {A : aS} (hR : RM I A) {x1 : Int} {x2 : Int} (hE : h285_1 d L I R S (rqI K) x1 x2 1 0 mUn mUn mUn mUn) : CallI d 285 [.ref 91, .int (oI x1), .int (oI x2)] (bd L I R S) K := by
  refine cI_of (ls := [.ref 91, .int (oI x1), .int (oI x2), mUn, mUn, mUn, mUn, mUn, mUn]) rfl ?_
  refine xG gb285.1 ?_
  refine s0 ?_
  refine s7 (ls' := [.ref 91, .int (oI x1), .int (oI x2), .int (oI 1), mUn, mUn, mUn, mUn, mUn]) (Nat.le_of_ble_eq_true rfl) rfl ?_
  refine s0 ?_
  refine s7 (ls' := [.ref 91, .int (oI x1), .int (oI x2), .int (oI 1), .int (oI 0), mUn, mUn, mUn, mUn]) (Nat.le_of_ble_eq_true rfl) rfl ?_
  refine s79 ?_
  exact hE
section
variable {d L : Nat} {I I0 : mI} {R : Nat → Nat → Option Nat} {S : List (Nat × Nat)} {Q : Option Value → mM → Prop} {A : aS} {c day known kind half year subj code : Int}
theorem bi_t {b : Bool} (h : ¬ bI b = 0) : b = true := by cases b; exact absurd rfl h; rfl
theorem bi_f {b : Bool} (h : bI b = 0) : b = false := by cases b; rfl; exact absurd h (by decide)
theorem l285_7 {set w x y : Int} {k : Nat} {al b0 : Bool} (hX : WfX A) (hw : 0 ≤ w ∧ w ≤ 120) (hx : 0 ≤ x ∧ x ≤ 60) (hy : 0 ≤ y ∧ y ≤ 60) (hset : inR set) (hR : RM I A) (hK : ∀ w5 w6 w7 w8, h285_1 (d + 1) L I R S Q set w (bI (al && ntB A set w x y b0 (A 91 54).toNat)) (k + 1 : Nat) w5 w6 w7 w8) : ∀ (n s : Nat), s + n = (A 91 54).toNat → h285_7 (d + 1) L I R S Q set w (bI al) k x y (bI (ntB A set w x y b0 s)) s := by
  have x1 := hX.1
  intro n
  induction n with
  | zero =>
    intro s hs
    rw [show (A 91 54).toNat = s by omega] at hK
    refine e285_7 hR ⟨⟨by omega, by omega⟩, fun h => by exfalso; omega, fun _ => ⟨bI_in _, fun c1 => ?_, fun c1 => ⟨bI_in _, fun c2 => ?_, fun c2 => ?_⟩⟩⟩
    · rw [bi_f c1, Bool.false_and] at hK; exact hK _ _ _ _
    · rw [bi_f c2, Bool.and_false] at hK; exact hK _ _ _ _
    · rw [bi_t c1, bi_t c2] at hK; exact hK _ _ _ _
  | succ n ih =>
    intro s hs
    obtain ⟨p1, p2⟩ := hX.2.2.2 s (by omega)
    have a1 := ab_in (x := A 131 s - x) (by omega)
    have a2 := ab_in (x := A 132 s - y) (by omega)
    have ih := ih (s + 1) (by omega)
    have es : ntB A set w x y b0 (s + 1) = (ntB A set w x y b0 s || (decide (iAnd (iShr set s) 1 = 1) && decide (dsS x y (A 131 s) (A 132 s) ≤ w))) := rfl
    rw [es] at ih
    have ed : dsS x y (A 131 s) (A 132 s) = ab (A 131 s - x) + ab (A 132 s - y) := rfl
    refine e285_7 hR ?_
    simp only [Int.toNat_natCast]
    refine ⟨⟨by omega, by omega⟩, fun _ => ⟨bI_in _, fun c1 => ⟨inR_toInt _, fun c2 => ⟨by omega, ⟨by omega, by omega⟩, ⟨by omega, by omega⟩, ⟨by omega, by omega⟩, ⟨by omega, by omega⟩, fun c3 => ?_, fun c3 => ?_⟩, fun c2 => ?_⟩, fun c1 => ?_⟩, fun h => by exfalso; omega⟩
    · rw [bi_f c1, decide_eq_true c2, decide_eq_false (by omega)] at ih; exact ih
    · rw [bi_f c1, decide_eq_true c2, decide_eq_true (by omega)] at ih; exact ih
    · rw [bi_f c1, decide_eq_false c2] at ih; exact ih
    · rw [bi_t c1, Bool.true_or] at ih; exact ih
theorem l285_2 {set w x y : Int} {k : Nat} {al : Bool} (hW : WfA A) (hX : WfX A) (hw : 0 ≤ w ∧ w ≤ 120) (hx : 0 ≤ x ∧ x ≤ 60) (hy : 0 ≤ y ∧ y ≤ 60) (hset : inR set) (hR : RM I A) (hK : ∀ w5 w6 w7 w8, h285_1 (d + 1) L I R S Q set w (bI (al && ntB A set w x y (nsB A w x y (A 91 2).toNat) (A 91 54).toNat)) (k + 1 : Nat) w5 w6 w7 w8) : ∀ (n s : Nat), s + n = (A 91 2).toNat → h285_2 (d + 1) L I R S Q set w (bI al) k x y (bI (nsB A w x y s)) s := by
  have x1 := hX.1
  have w1 := hW.2.2.1
  intro n
  induction n with
  | zero =>
    intro s hs
    rw [show (A 91 2).toNat = s by omega] at hK
    exact e285_2 hR ⟨⟨by omega, by omega⟩, fun h => by exfalso; omega, fun _ => l285_7 (b0 := nsB A w x y s) hX hw hx hy hset hR hK (A 91 54).toNat 0 (by omega)⟩
  | succ n ih =>
    intro s hs
    obtain ⟨p1, p2⟩ := hX.2.2.1 s (by omega)
    have a1 := ab_in (x := A 98 s - x) (by omega)
    have a2 := ab_in (x := A 99 s - y) (by omega)
    have ih := ih (s + 1) (by omega)
    have es : nsB A w x y (s + 1) = (nsB A w x y s || decide (dsS x y (A 98 s) (A 99 s) ≤ w)) := rfl
    rw [es] at ih
    have ed : dsS x y (A 98 s) (A 99 s) = ab (A 98 s - x) + ab (A 99 s - y) := rfl
    refine e285_2 hR ?_
    simp only [Int.toNat_natCast]
    refine ⟨⟨by omega, by omega⟩, fun _ => ⟨bI_in _, fun c1 => ⟨by omega, ⟨by omega, by omega⟩, ⟨by omega, by omega⟩, ⟨by omega, by omega⟩, ⟨by omega, by omega⟩, fun c3 => ?_, fun c3 => ?_⟩, fun c1 => ?_⟩, fun h => by exfalso; omega⟩
    · rw [bi_f c1, decide_eq_false (by omega)] at ih; exact ih
    · rw [bi_f c1, decide_eq_true (by omega)] at ih; exact ih
    · rw [bi_t c1, Bool.true_or] at ih; exact ih
theorem l285_1 {set w : Int} (hW : WfA A) (hP : WfP A) (hX : WfX A) (hw : 0 ≤ w ∧ w ≤ 120) (hset : inR set) (hR : RM I A) (hQ : Q (some (.int (oI (bI (reB A set w))))) (bd L I R S)) : ∀ (n k : Nat) (w5 w6 w7 w8 : Value), k + n = (A 91 1).toNat → h285_1 (d + 1) L I R S Q set w (bI (reL A set w k)) k w5 w6 w7 w8 := by
  have w1 := hW.2.1
  intro n
  induction n with
  | zero =>
    intro k w5 w6 w7 w8 hk
    refine e285_1 hR ⟨⟨by omega, by omega⟩, fun h => by exfalso; omega, fun _ => ⟨bI_01 _, ?_⟩⟩
    rw [show k = (A 91 1).toNat by omega]; exact hQ
  | succ n ih =>
    intro k w5 w6 w7 w8 hk
    have hs := (hP k (by omega)).2.1
    obtain ⟨p1, p2⟩ := hX.2.1 (A 93 k).toNat (by omega)
    refine e285_1 hR ?_
    simp only [Int.toNat_natCast]
    refine ⟨⟨by omega, by omega⟩, fun _ => ⟨by omega, by omega, ?_⟩, fun h => by exfalso; omega⟩
    exact l285_2 (d := d) hW hX hw p1 p2 hset hR (fun w5 w6 w7 w8 => ih (k + 1) w5 w6 w7 w8 (by omega)) (A 91 2).toNat 0 (by omega)
theorem k285 {K : Int32 → mM → Prop} {set w : Int} (hR : RM I A) (hW : WfA A) (hP : WfP A) (hX : WfX A) (hset : inR set) (hw : 0 ≤ w ∧ w ≤ 120) (h1 : reB A set w = true → K (oI 1) (bd L I R S)) (h0 : ¬ reB A set w = true → K (oI 0) (bd L I R S)) : CallI (d + 1) 285 [.ref 91, .int (oI set), .int (oI w)] (bd L I R S) K := by
  refine e285 hR (l285_1 (d := d) hW hP hX hw hset hR (rqI_of ?_) (A 91 1).toNat 0 mUn mUn mUn mUn (by omega))
  cases hb : reB A set w
  · exact h0 (by rw [hb]; decide)
  · exact h1 hb
end
