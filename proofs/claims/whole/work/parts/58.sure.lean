/-! the reference: candidates, heaps, who is sure -/
def cofA (A : aS) (x what : Int) : Int := if ¬ (0 ≤ x ∧ x ≤ A 91 58 - 1) then -1 else if what = 0 then A 133 x.toNat else if what = 1 then vtS A x.toNat else if what = 2 then (if ahL (vtS A) x.toNat (A 91 58).toNat < A 91 57 then ahL (vtS A) x.toNat (A 91 58).toNat else -1) else -1
/-- how many of a party ahead of a number; all its votes -/
def nkL (A : aS) (q : Int) : Nat → Int
  | 0 => 0
  | c + 1 => nkL A q c + (if A 133 c = q then 1 else 0)
def alL (A : aS) (q : Int) : Nat → Int
  | 0 => 0
  | c + 1 => alL A q c + (if A 133 c = q then vtS A c else 0)
def tvS (A : aS) (q s : Int) (c : Nat) : Int := if A 133 c = q then (if nkL A q c < s then Int.tdiv (alL A q (A 91 58).toNat) s + (if nkL A q c < alL A q (A 91 58).toNat - Int.tdiv (alL A q (A 91 58).toNat) s * s then 1 else 0) else 0) else vtS A c
def suL' (A : aS) (q s : Int) : Nat → Bool
  | 0 => true
  | c + 1 => suL' A q s c && (!decide (A 133 c = q ∧ nkL A q c < s) || decide (ahL (tvS A q s) c (A 91 58).toNat < A 91 57))
def suB (A : aS) (q s : Int) : Bool := suL' A q s (A 91 58).toNat
def suD (A : aS) (q : Int) : Nat → Int
  | 0 => 0
  | s + 1 => if suB A q ((s + 1 : Nat) : Int) = true then ((s + 1 : Nat) : Int) else suD A q s
def sureA (A : aS) (q : Int) : Int := if ¬ (0 ≤ q ∧ q ≤ 3) ∨ A 91 57 = 0 then -1 else suD A q (min (nkL A q (A 91 58).toNat) (A 91 57)).toNat
theorem nkL_in {A : aS} {q : Int} : ∀ c, 0 ≤ nkL A q c ∧ nkL A q c ≤ c
  | 0 => by unfold nkL; omega
  | c + 1 => by have := nkL_in (A := A) (q := q) c; unfold nkL; split <;> omega
theorem vtS_in {A : aS} (hV : WfV A) {c : Nat} (hc : c < 10) : 0 ≤ vtS A c ∧ vtS A c ≤ 540 := by
  have := vtL_in hV hc (A 91 59).toNat (by have := hV.2.2.1; omega)
  have := hV.2.2.1
  unfold vtS; omega
theorem alL_in {A : aS} (hV : WfV A) {q : Int} : ∀ c, c ≤ 10 → 0 ≤ alL A q c ∧ alL A q c ≤ 540 * c
  | 0, _ => by unfold alL; omega
  | c + 1, h => by
    have := alL_in hV (q := q) c (by omega)
    have := vtS_in hV (c := c) (by omega)
    unfold alL; split <;> omega
set_option maxRecDepth 4000 in
theorem e290 {d L : Nat} {I : Nat → Nat → Int32} {R : Nat → Nat → Option Nat} {S : List (Nat × Nat)} {K : Int32 → mM → Prop} {A : aS} (hR : RM I A) {x1 : Int} {x2 : Int} (hE : inR x1 ∧ (inR (A 91 58 - 1) ∧ (((0 ≤ x1 ∧ x1 ≤ A 91 58 - 1) → WfV A ∧ (∀ (I6 : mI), (Fr [135] [] I I6) → (∀ j : Nat, j < (A 91 58).toNat → ld I6 135 j = vtS A j) → inR x2 ∧ (((x2 = 0) → (0 ≤ x1 ∧ x1 < 10) ∧ (K (oI (A 133 x1.toNat)) (bd L I6 R S))) ∧ (¬ (x2 = 0) → ((x2 = 1) → (0 ≤ x1 ∧ x1 < 10) ∧ (K (oI (ld I6 135 x1.toNat)) (bd L I6 R S))) ∧ (¬ (x2 = 1) → ((x2 = 2) → (0 ≤ x1 ∧ x1 < 10) ∧ (inR (ahL (ld I6 135) x1.toNat (A 91 58).toNat) ∧ (((ahL (ld I6 135) x1.toNat (A 91 58).toNat < A 91 57) → K (oI (ahL (ld I6 135) x1.toNat (A 91 58).toNat)) (bd L I6 R S)) ∧ (¬ (ahL (ld I6 135) x1.toNat (A 91 58).toNat < A 91 57) → K (oI (-1)) (bd L I6 R S))))) ∧ (¬ (x2 = 2) → K (oI (-1)) (bd L I6 R S))))))) ∧ (¬ (0 ≤ x1 ∧ x1 ≤ A 91 58 - 1) → K (oI (-1)) (bd L I R S))))) : CallI (d + 2) 290 [.ref 91, .int (oI x1), .int (oI x2)] (bd L I R S) K := by
  refine cI_of (ls := [.ref 91, .int (oI x1), .int (oI x2)]) rfl ?_
  refine xG gb290.1 ?_
  refine s4 (x := x1) rfl ?_
  refine s0 ?_
  refine s6 (p := 91) rfl ?_
  refine s50 (v := A 91 58) sh91 (by decide) (by decide) (rdM hR.1 rfl) ?_
  refine s0 ?_
  refine s17 ?_
  obtain ⟨g1, hE⟩ := hE
  obtain ⟨g2, hE⟩ := hE
  refine sI rc210 rfl (Nat.le_of_ble_eq_true rfl) ?_
  refine k210 g1 (inRd rfl) g2 (fun c3 => ?_) (fun c3 => ?_)
  · replace hE := hE.1 c3
    refine s68 (inRd rfl) (fun c4 => absurd c4 (by decide)) (fun _ => ?_)
    refine xG gb290.2.1 ?_
    refine s6 (p := 91) rfl ?_
    obtain ⟨g5, hE⟩ := hE
    refine sV rc291 rfl (Nat.le_of_ble_eq_true rfl) ?_
    refine k291 hR g5 (fun I6 q7 q8 => ?_)
    replace hE := hE I6 q7 q8
    refine s4 (x := x2) rfl ?_
    obtain ⟨g9, hE⟩ := hE
    refine s68 g9 (fun c10 => ?_) (fun c10 => ?_)
    · replace hE := hE.1 c10
      refine s6 (p := 91) rfl ?_
      refine s51 sh91 (by decide) (by decide) rf91_60 ?_
      refine s4 (x := x1) rfl ?_
      obtain ⟨g11, hE⟩ := hE
      refine s40 (v := A 133 x1.toNat) sh133 g11 rfl (rdM (RM.fr hR q7 rfl rfl (fun _ => rfl)).1 rfl) ?_
      refine s60 ?_
      refine xG gb290.2.2.2.2.2 ?_
      refine s80 ?_
      exact rqI_of hE
    · replace hE := hE.2 c10
      refine xG gb290.2.2.1 ?_
      refine s4 (x := x2) rfl ?_
      refine s0 ?_
      refine s62 g9 (inRd rfl) (fun c12 => ?_) (fun c12 => ?_)
      · replace hE := hE.1 c12
        refine s6 (p := 91) rfl ?_
        refine s51 sh91 (by decide) (by decide) rf91_62 ?_
        refine s4 (x := x1) rfl ?_
        obtain ⟨g13, hE⟩ := hE
        refine s40 (v := ld I6 135 x1.toNat) sh135 g13 rfl (oI_ld _ _ _) ?_
        refine s60 ?_
        refine xG gb290.2.2.2.2.2 ?_
        refine s80 ?_
        exact rqI_of hE
      · replace hE := hE.2 c12
        refine xG gb290.2.2.2.1 ?_
        refine s4 (x := x2) rfl ?_
        refine s0 ?_
        refine s62 g9 (inRd rfl) (fun c14 => ?_) (fun c14 => ?_)
        · replace hE := hE.1 c14
          refine s6 (p := 91) rfl ?_
          refine s4 (x := x1) rfl ?_
          obtain ⟨g15, hE⟩ := hE
          refine sI rc292 rfl (Nat.le_of_ble_eq_true rfl) ?_
          refine k292 (RM.fr hR q7 rfl rfl (fun _ => rfl)) g5 g15 ?_
          refine s6 (p := 91) rfl ?_
          refine s50 (v := A 91 57) sh91 (by decide) (by decide) (rdM (RM.fr hR q7 rfl rfl (fun _ => rfl)).1 rfl) ?_
          obtain ⟨g16, hE⟩ := hE
          refine s64 g16 (inA (RM.fr hR q7 rfl rfl (fun _ => rfl)).1 (a := 91) (k := 57) rfl) (fun c17 => ?_) (fun c17 => ?_)
          · replace hE := hE.1 c17
            refine s6 (p := 91) rfl ?_
            refine s4 (x := x1) rfl ?_
            refine sI rc292 rfl (Nat.le_of_ble_eq_true rfl) ?_
            refine k292 (RM.fr hR q7 rfl rfl (fun _ => rfl)) g5 g15 ?_
            refine s60 ?_
            refine xG gb290.2.2.2.2.2 ?_
            refine s80 ?_
            exact rqI_of hE
          · replace hE := hE.2 c17
            refine xG gb290.2.2.2.2.1 ?_
            refine s0 ?_
            refine s79 ?_
            refine xG gb290.2.2.2.2.2 ?_
            refine s80 ?_
            exact rqI_of hE
        · replace hE := hE.2 c14
          refine xG gb290.2.2.2.2.1 ?_
          refine s0 ?_
          refine s79 ?_
          refine xG gb290.2.2.2.2.2 ?_
          refine s80 ?_
          exact rqI_of hE
  · replace hE := hE.2 c3
    refine s68 (inRd rfl) (fun _ => ?_) (fun c18 => absurd (by decide) c18)
    refine s0 ?_
    refine s80 ?_
    exact rqI_of hE
def h294_1 (d L : Nat) (I : Nat → Nat → Int32) (R : Nat → Nat → Option Nat) (S : List (Nat × Nat)) (Q : Option Value → mM → Prop) (x1 : Int) (x2 : Int) (x3 : Int) (x4 : Int) (w5 : Value) (w6 : Value) : Prop := Wp d (gb 294 1) [.ref 91, .int (oI x1), .int (oI x2), .int (oI x3), .int (oI x4), w5, w6] [] (bd L I R S) Q
def h294_5 (d L : Nat) (I : Nat → Nat → Int32) (R : Nat → Nat → Option Nat) (S : List (Nat × Nat)) (Q : Option Value → mM → Prop) (x1 : Int) (x2 : Int) (x3 : Int) (x4 : Int) (x5 : Int) (w6 : Value) : Prop := Wp d (gb 294 5) [.ref 91, .int (oI x1), .int (oI x2), .int (oI x3), .int (oI x4), .int (oI x5), w6] [] (bd L I R S) Q
def h294_11 (d L : Nat) (I : Nat → Nat → Int32) (R : Nat → Nat → Option Nat) (S : List (Nat × Nat)) (Q : Option Value → mM → Prop) (x1 : Int) (x2 : Int) (w3 : Value) (x4 : Int) (x5 : Int) (x6 : Int) : Prop := Wp d (gb 294 11) [.ref 91, .int (oI x1), .int (oI x2), w3, .int (oI x4), .int (oI x5), .int (oI x6)] [] (bd L I R S) Q
set_option maxRecDepth 4000 in
theorem e294_1 {d L : Nat} {I : Nat → Nat → Int32} {R : Nat → Nat → Option Nat} {S : List (Nat × Nat)} {Q : Option Value → mM → Prop} {A : aS} (hR : RM I A) {x1 : Int} {x2 : Int} {x3 : Int} {x4 : Int} {w5 : Value} {w6 : Value} (hE : inR x4 ∧ (((x4 < A 91 58) → (0 ≤ x4 ∧ x4 < 10) ∧ (inR x1 ∧ (((A 133 x4.toNat = x1) → h294_1 d L (u2 I 135 x4.toNat (oI 0)) R S Q x1 x2 (x3 + (ld I 135 x4.toNat)) (x4 + 1) w5 w6) ∧ (¬ (A 133 x4.toNat = x1) → h294_1 d L I R S Q x1 x2 x3 (x4 + 1) w5 w6)))) ∧ (¬ (x4 < A 91 58) → h294_5 d L I R S Q x1 x2 x3 0 0 w6))) : h294_1 d L I R S Q x1 x2 x3 x4 w5 w6 := by
  unfold h294_1
  refine xG gb294.2.1 ?_
  refine s4 (x := x4) rfl ?_
  refine s6 (p := 91) rfl ?_
  refine s50 (v := A 91 58) sh91 (by decide) (by decide) (rdM hR.1 rfl) ?_
  obtain ⟨g1, hE⟩ := hE
  refine s64 g1 (inA hR.1 (a := 91) (k := 58) rfl) (fun c2 => ?_) (fun c2 => ?_)
  · replace hE := hE.1 c2
    refine s6 (p := 91) rfl ?_
    refine s51 sh91 (by decide) (by decide) rf91_60 ?_
    refine s4 (x := x4) rfl ?_
    obtain ⟨g3, hE⟩ := hE
    refine s40 (v := A 133 x4.toNat) sh133 g3 rfl (rdM hR.1 rfl) ?_
    refine s4 (x := x1) rfl ?_
    obtain ⟨g4, hE⟩ := hE
    refine s61 (inA hR.1 (a := 133) (k := x4.toNat) rfl) g4 (fun c5 => ?_) (fun c5 => ?_)
    · replace hE := hE.1 c5
      refine xG gb294.2.2.1 ?_
      refine s4 (x := x3) rfl ?_
      refine s6 (p := 91) rfl ?_
      refine s51 sh91 (by decide) (by decide) rf91_62 ?_
      refine s4 (x := x4) rfl ?_
      refine s40 (v := ld I 135 x4.toNat) sh135 g3 rfl (oI_ld _ _ _) ?_
      refine s16 ?_
      refine s7 (ls' := [.ref 91, .int (oI x1), .int (oI x2), .int (oI (x3 + (ld I 135 x4.toNat))), .int (oI x4), w5, w6]) (Nat.le_of_ble_eq_true rfl) rfl ?_
      refine s6 (p := 91) rfl ?_
      refine s51 sh91 (by decide) (by decide) rf91_62 ?_
      refine s4 (x := x4) rfl ?_
      refine s0 ?_
      refine s44 sh135 (by decide) g3 rfl ?_
      refine s79 ?_
      refine xG gb294.2.2.2.1 ?_
      refine s10 (x := x4) (ls' := [.ref 91, .int (oI x1), .int (oI x2), .int (oI (x3 + (ld I 135 x4.toNat))), .int (oI (x4 + 1)), w5, w6]) rfl rfl ?_
      refine s60 ?_
      exact hE
    · replace hE := hE.2 c5
      refine s60 ?_
      refine xG gb294.2.2.2.1 ?_
      refine s10 (x := x4) (ls' := [.ref 91, .int (oI x1), .int (oI x2), .int (oI x3), .int (oI (x4 + 1)), w5, w6]) rfl rfl ?_
      refine s60 ?_
      exact hE
  · replace hE := hE.2 c2
    refine xG gb294.2.2.2.2.1 ?_
    refine s0 ?_
    refine s7 (ls' := [.ref 91, .int (oI x1), .int (oI x2), .int (oI x3), .int (oI 0), w5, w6]) (Nat.le_of_ble_eq_true rfl) rfl ?_
    refine s0 ?_
    refine s7 (ls' := [.ref 91, .int (oI x1), .int (oI x2), .int (oI x3), .int (oI 0), .int (oI 0), w6]) (Nat.le_of_ble_eq_true rfl) rfl ?_
    refine s79 ?_
    exact hE
set_option maxRecDepth 4000 in
theorem e294_5 {d L : Nat} {I : Nat → Nat → Int32} {R : Nat → Nat → Option Nat} {S : List (Nat × Nat)} {Q : Option Value → mM → Prop} {A : aS} (hR : RM I A) {x1 : Int} {x2 : Int} {x3 : Int} {x4 : Int} {x5 : Int} {w6 : Value} (hE : inR x5 ∧ (((x5 < A 91 58) → (0 ≤ x5 ∧ x5 < 10) ∧ (inR x1 ∧ (((A 133 x5.toNat = x1) → inR x4 ∧ (inR x2 ∧ (((x4 = x2) → h294_5 (d + 1) L I R S Q x1 x2 x3 x4 (x5 + 1) w6) ∧ (¬ (x4 = x2) → inR x3 ∧ (0 < x2 ∧ (0 < x2 ∧ (inR (x3 - Int.tdiv x3 x2 * x2) ∧ (h294_5 (d + 1) L (u2 I 135 x5.toNat (oI (Int.tdiv x3 x2 + (if x4 < x3 - Int.tdiv x3 x2 * x2 then (1 : Int) else 0)))) R S Q x1 x2 x3 (x4 + 1) (x5 + 1) w6)))))))) ∧ (¬ (A 133 x5.toNat = x1) → h294_5 (d + 1) L I R S Q x1 x2 x3 x4 (x5 + 1) w6)))) ∧ (¬ (x5 < A 91 58) → h294_11 (d + 1) L I R S Q x1 x2 (.int (oI x3)) 0 1 0))) : h294_5 (d + 1) L I R S Q x1 x2 x3 x4 x5 w6 := by
  unfold h294_5
  refine xG gb294.2.2.2.2.2.1 ?_
  refine s4 (x := x5) rfl ?_
  refine s6 (p := 91) rfl ?_
  refine s50 (v := A 91 58) sh91 (by decide) (by decide) (rdM hR.1 rfl) ?_
  obtain ⟨g1, hE⟩ := hE
  refine s64 g1 (inA hR.1 (a := 91) (k := 58) rfl) (fun c2 => ?_) (fun c2 => ?_)
  · replace hE := hE.1 c2
    refine s6 (p := 91) rfl ?_
    refine s51 sh91 (by decide) (by decide) rf91_60 ?_
    refine s4 (x := x5) rfl ?_
    obtain ⟨g3, hE⟩ := hE
    refine s40 (v := A 133 x5.toNat) sh133 g3 rfl (rdM hR.1 rfl) ?_
    refine s4 (x := x1) rfl ?_
    obtain ⟨g4, hE⟩ := hE
    refine s62 (inA hR.1 (a := 133) (k := x5.toNat) rfl) g4 (fun c5 => ?_) (fun c5 => ?_)
    · replace hE := hE.1 c5
      refine s4 (x := x4) rfl ?_
      refine s4 (x := x2) rfl ?_
      obtain ⟨g6, hE⟩ := hE
      obtain ⟨g7, hE⟩ := hE
      refine s62 g6 g7 (fun c8 => ?_) (fun c8 => ?_)
      · replace hE := hE.1 c8
        refine s60 ?_
        refine xG gb294.2.2.2.2.2.2.2.2.2.1 ?_
        refine s10 (x := x5) (ls' := [.ref 91, .int (oI x1), .int (oI x2), .int (oI x3), .int (oI x4), .int (oI (x5 + 1)), w6]) rfl rfl ?_
        refine s60 ?_
        exact hE
      · replace hE := hE.2 c8
        refine xG gb294.2.2.2.2.2.2.1 ?_
        refine s6 (p := 91) rfl ?_
        refine s51 sh91 (by decide) (by decide) rf91_62 ?_
        refine s4 (x := x5) rfl ?_
        refine s4 (x := x3) rfl ?_
        refine s4 (x := x2) rfl ?_
        obtain ⟨g9, hE⟩ := hE
        obtain ⟨g10, hE⟩ := hE
        refine s19 g9 ⟨g7, g10⟩ ?_
        refine s4 (x := x4) rfl ?_
        refine s4 (x := x3) rfl ?_
        refine s4 (x := x2) rfl ?_
        obtain ⟨g11, hE⟩ := hE
        refine s20 g9 ⟨g7, g11⟩ ?_
        obtain ⟨g12, hE⟩ := hE
        refine s64j (j := 8) (v1 := 1) (v0 := 0) g6 g12 (fun hJ => ?_) (fun hJ => ?_) ?_
        · exact s0 (s60 hJ)
        · refine xG gb294.2.2.2.2.2.2.2.1 ?_
          exact s0 (s79 hJ)
        refine xG gb294.2.2.2.2.2.2.2.2.1 ?_
        refine sI rc227 rfl (Nat.le_of_ble_eq_true rfl) ?_
        refine k227 (ite_01 (by decide) (by decide)) ?_
        refine s16 ?_
        refine s44 sh135 (by decide) g3 rfl ?_
        refine s10 (x := x4) (ls' := [.ref 91, .int (oI x1), .int (oI x2), .int (oI x3), .int (oI (x4 + 1)), .int (oI x5), w6]) rfl rfl ?_
        refine s79 ?_
        refine xG gb294.2.2.2.2.2.2.2.2.2.1 ?_
        refine s10 (x := x5) (ls' := [.ref 91, .int (oI x1), .int (oI x2), .int (oI x3), .int (oI (x4 + 1)), .int (oI (x5 + 1)), w6]) rfl rfl ?_
        refine s60 ?_
        exact hE
    · replace hE := hE.2 c5
      refine xG gb294.2.2.2.2.2.2.2.2.2.1 ?_
      refine s10 (x := x5) (ls' := [.ref 91, .int (oI x1), .int (oI x2), .int (oI x3), .int (oI x4), .int (oI (x5 + 1)), w6]) rfl rfl ?_
      refine s60 ?_
      exact hE
  · replace hE := hE.2 c2
    refine xG gb294.2.2.2.2.2.2.2.2.2.2.1 ?_
    refine s0 ?_
    refine s7 (ls' := [.ref 91, .int (oI x1), .int (oI x2), .int (oI x3), .int (oI 0), .int (oI x5), w6]) (Nat.le_of_ble_eq_true rfl) rfl ?_
    refine s0 ?_
    refine s7 (ls' := [.ref 91, .int (oI x1), .int (oI x2), .int (oI x3), .int (oI 0), .int (oI 1), w6]) (Nat.le_of_ble_eq_true rfl) rfl ?_
    refine s0 ?_
    refine s7 (ls' := [.ref 91, .int (oI x1), .int (oI x2), .int (oI x3), .int (oI 0), .int (oI 1), .int (oI 0)]) (Nat.le_of_ble_eq_true rfl) rfl ?_
    refine s79 ?_
    exact hE
set_option maxRecDepth 4000 in
theorem e294_11 {d L : Nat} {I : Nat → Nat → Int32} {R : Nat → Nat → Option Nat} {S : List (Nat × Nat)} {Q : Option Value → mM → Prop} {A : aS} (hR : RM I A) {x1 : Int} {x2 : Int} {w3 : Value} {x4 : Int} {x5 : Int} {x6 : Int} (hE : inR x6 ∧ (((x6 < A 91 58) → (0 ≤ x6 ∧ x6 < 10) ∧ (inR x1 ∧ (((A 133 x6.toNat = x1) → inR x4 ∧ (inR x2 ∧ (((x4 = x2) → h294_11 (d + 2) L I R S Q x1 x2 w3 x4 x5 (x6 + 1)) ∧ (¬ (x4 = x2) → inR x5 ∧ (((x5 = 0) → h294_11 (d + 2) L I R S Q x1 x2 (mNl w3) (x4 + 1) 0 (x6 + 1)) ∧ (¬ (x5 = 0) → WfV A ∧ ((0 ≤ x6 ∧ x6 < 10) ∧ (inR (ahL (ld I 135) x6.toNat (A 91 58).toNat) ∧ (((ahL (ld I 135) x6.toNat (A 91 58).toNat < A 91 57) → h294_11 (d + 2) L I R S Q x1 x2 (mNl w3) (x4 + 1) 1 (x6 + 1)) ∧ (¬ (ahL (ld I 135) x6.toNat (A 91 58).toNat < A 91 57) → h294_11 (d + 2) L I R S Q x1 x2 (mNl w3) (x4 + 1) 0 (x6 + 1))))))))))) ∧ (¬ (A 133 x6.toNat = x1) → h294_11 (d + 2) L I R S Q x1 x2 w3 x4 x5 (x6 + 1))))) ∧ (¬ (x6 < A 91 58) → (x5 = 0 ∨ x5 = 1) ∧ (Q (some (.int (oI x5))) (bd L I R S))))) : h294_11 (d + 2) L I R S Q x1 x2 w3 x4 x5 x6 := by
  unfold h294_11
  refine xG gb294.2.2.2.2.2.2.2.2.2.2.2.1 ?_
  refine s4 (x := x6) rfl ?_
  refine s6 (p := 91) rfl ?_
  refine s50 (v := A 91 58) sh91 (by decide) (by decide) (rdM hR.1 rfl) ?_
  obtain ⟨g1, hE⟩ := hE
  refine s64 g1 (inA hR.1 (a := 91) (k := 58) rfl) (fun c2 => ?_) (fun c2 => ?_)
  · replace hE := hE.1 c2
    refine s6 (p := 91) rfl ?_
    refine s51 sh91 (by decide) (by decide) rf91_60 ?_
    refine s4 (x := x6) rfl ?_
    obtain ⟨g3, hE⟩ := hE
    refine s40 (v := A 133 x6.toNat) sh133 g3 rfl (rdM hR.1 rfl) ?_
    refine s4 (x := x1) rfl ?_
    obtain ⟨g4, hE⟩ := hE
    refine s62 (inA hR.1 (a := 133) (k := x6.toNat) rfl) g4 (fun c5 => ?_) (fun c5 => ?_)
    · replace hE := hE.1 c5
      refine s4 (x := x4) rfl ?_
      refine s4 (x := x2) rfl ?_
      obtain ⟨g6, hE⟩ := hE
      obtain ⟨g7, hE⟩ := hE
      refine s62 g6 g7 (fun c8 => ?_) (fun c8 => ?_)
      · replace hE := hE.1 c8
        refine s60 ?_
        refine xG gb294.2.2.2.2.2.2.2.2.2.2.2.2.2.2.2.1 ?_
        refine s10 (x := x6) (ls' := [.ref 91, .int (oI x1), .int (oI x2), w3, .int (oI x4), .int (oI x5), .int (oI (x6 + 1))]) rfl rfl ?_
        refine s60 ?_
        exact hE
      · replace hE := hE.2 c8
        refine xG gb294.2.2.2.2.2.2.2.2.2.2.2.2.1 ?_
        refine s4 (x := x5) rfl ?_
        obtain ⟨g9, hE⟩ := hE
        refine s67 g9 (fun c10 => ?_) (fun c10 => ?_)
        · replace hE := hE.1 c10
          refine xG gb294.2.2.2.2.2.2.2.2.2.2.2.2.2.1 ?_
          refine s0 ?_
          refine s79 ?_
          refine xG gb294.2.2.2.2.2.2.2.2.2.2.2.2.2.2.1 ?_
          refine s7 (ls' := [.ref 91, .int (oI x1), .int (oI x2), w3, .int (oI x4), .int (oI 0), .int (oI x6)]) (Nat.le_of_ble_eq_true rfl) rfl ?_
          refine s10 (x := x4) (ls' := [.ref 91, .int (oI x1), .int (oI x2), mNl w3, .int (oI (x4 + 1)), .int (oI 0), .int (oI x6)]) rfl rfl ?_
          refine s79 ?_
          refine xG gb294.2.2.2.2.2.2.2.2.2.2.2.2.2.2.2.1 ?_
          refine s10 (x := x6) (ls' := [.ref 91, .int (oI x1), .int (oI x2), mNl w3, .int (oI (x4 + 1)), .int (oI 0), .int (oI (x6 + 1))]) rfl rfl ?_
          refine s60 ?_
          exact hE
        · replace hE := hE.2 c10
          refine s6 (p := 91) rfl ?_
          refine s4 (x := x6) rfl ?_
          obtain ⟨g11, hE⟩ := hE
          obtain ⟨g12, hE⟩ := hE
          refine sI rc292 rfl (Nat.le_of_ble_eq_true rfl) ?_
          refine k292 hR g11 g12 ?_
          refine s6 (p := 91) rfl ?_
          refine s50 (v := A 91 57) sh91 (by decide) (by decide) (rdM hR.1 rfl) ?_
          obtain ⟨g13, hE⟩ := hE
          refine s64 g13 (inA hR.1 (a := 91) (k := 57) rfl) (fun c14 => ?_) (fun c14 => ?_)
          · replace hE := hE.1 c14
            refine s0 ?_
            refine s60 ?_
            refine xG gb294.2.2.2.2.2.2.2.2.2.2.2.2.2.2.1 ?_
            refine s7 (ls' := [.ref 91, .int (oI x1), .int (oI x2), w3, .int (oI x4), .int (oI 1), .int (oI x6)]) (Nat.le_of_ble_eq_true rfl) rfl ?_
            refine s10 (x := x4) (ls' := [.ref 91, .int (oI x1), .int (oI x2), mNl w3, .int (oI (x4 + 1)), .int (oI 1), .int (oI x6)]) rfl rfl ?_
            refine s79 ?_
            refine xG gb294.2.2.2.2.2.2.2.2.2.2.2.2.2.2.2.1 ?_
            refine s10 (x := x6) (ls' := [.ref 91, .int (oI x1), .int (oI x2), mNl w3, .int (oI (x4 + 1)), .int (oI 1), .int (oI (x6 + 1))]) rfl rfl ?_
            refine s60 ?_
            exact hE
          · replace hE := hE.2 c14
            refine xG gb294.2.2.2.2.2.2.2.2.2.2.2.2.2.1 ?_
            refine s0 ?_
            refine s79 ?_
            refine xG gb294.2.2.2.2.2.2.2.2.2.2.2.2.2.2.1 ?_
            refine s7 (ls' := [.ref 91, .int (oI x1), .int (oI x2), w3, .int (oI x4), .int (oI 0), .int (oI x6)]) (Nat.le_of_ble_eq_true rfl) rfl ?_
            refine s10 (x := x4) (ls' := [.ref 91, .int (oI x1), .int (oI x2), mNl w3, .int (oI (x4 + 1)), .int (oI 0), .int (oI x6)]) rfl rfl ?_
            refine s79 ?_
            refine xG gb294.2.2.2.2.2.2.2.2.2.2.2.2.2.2.2.1 ?_
            refine s10 (x := x6) (ls' := [.ref 91, .int (oI x1), .int (oI x2), mNl w3, .int (oI (x4 + 1)), .int (oI 0), .int (oI (x6 + 1))]) rfl rfl ?_
            refine s60 ?_
            exact hE
    · replace hE := hE.2 c5
      refine xG gb294.2.2.2.2.2.2.2.2.2.2.2.2.2.2.2.1 ?_
      refine s10 (x := x6) (ls' := [.ref 91, .int (oI x1), .int (oI x2), w3, .int (oI x4), .int (oI x5), .int (oI (x6 + 1))]) rfl rfl ?_
      refine s60 ?_
      exact hE
  · replace hE := hE.2 c2
    refine xG gb294.2.2.2.2.2.2.2.2.2.2.2.2.2.2.2.2 ?_
    refine s4 (x := x5) rfl ?_
    obtain ⟨g15, hE⟩ := hE
    refine s84 g15 ?_
    exact hE
set_option maxRecDepth 4000 in
theorem e294 {d L : Nat} {I : Nat → Nat → Int32} {R : Nat → Nat → Option Nat} {S : List (Nat × Nat)} {K : Int32 → mM → Prop} {A : aS} (hR : RM I A) {x1 : Int} {x2 : Int} (hE : WfV A ∧ (∀ (I2 : mI), (Fr [135] [] I I2) → (∀ j : Nat, j < (A 91 58).toNat → ld I2 135 j = vtS A j) → h294_1 (d + 1) L I2 R S (rqI K) x1 x2 0 0 mUn mUn)) : CallI (d + 1) 294 [.ref 91, .int (oI x1), .int (oI x2)] (bd L I R S) K := by
  refine cI_of (ls := [.ref 91, .int (oI x1), .int (oI x2), mUn, mUn, mUn, mUn]) rfl ?_
  refine xG gb294.1 ?_
  refine s6 (p := 91) rfl ?_
  obtain ⟨g1, hE⟩ := hE
  refine sV rc291 rfl (Nat.le_of_ble_eq_true rfl) ?_
  refine k291 hR g1 (fun I2 q3 q4 => ?_)
  replace hE := hE I2 q3 q4
  refine s0 ?_
  refine s7 (ls' := [.ref 91, .int (oI x1), .int (oI x2), .int (oI 0), mUn, mUn, mUn]) (Nat.le_of_ble_eq_true rfl) rfl ?_
  refine s0 ?_
  refine s7 (ls' := [.ref 91, .int (oI x1), .int (oI x2), .int (oI 0), .int (oI 0), mUn, mUn]) (Nat.le_of_ble_eq_true rfl) rfl ?_
  refine s79 ?_
  exact hE
section
variable {d L : Nat} {I I0 : mI} {R : Nat → Nat → Option Nat} {S : List (Nat × Nat)} {Q : Option Value → mM → Prop} {A : aS} {c day known kind half year subj code : Int}
theorem k290 {K : Int32 → mM → Prop} {x what : Int} (hR : RM I A) (hV : WfV A) (h1 : inR x) (h2 : inR what) (hK : ∀ I1, FM I I1 → RM I1 A → K (oI (cofA A x what)) (bd L I1 R S)) : CallI (d + 2) 290 [.ref 91, .int (oI x), .int (oI what)] (bd L I R S) K := by
  have v1 := hV.2.1
  unfold cofA at hK
  refine e290 hR ⟨h1, ⟨by omega, by omega⟩, fun c1 => ⟨hV, fun I1 hf1 hv1 => ?_⟩, fun c1 => ?_⟩
  · have hR1 := hR.fr hf1 rfl rfl (fun _ => rfl)
    have hf := hf1.FM rfl
    have ai := ahL_in (v := vtS A) (c := x.toNat) (A 91 58).toNat
    have ea : ahL (ld I1 135) x.toNat (A 91 58).toNat = ahL (vtS A) x.toNat (A 91 58).toNat := ahL_eq _ (fun j hj => hv1 j hj) (hv1 _ (by omega))
    rw [ea, hv1 x.toNat (by omega)]
    rw [if_neg (fun h => h c1)] at hK
    refine ⟨h2, fun c2 => ⟨by omega, ?_⟩, fun c2 => ⟨fun c3 => ⟨by omega, ?_⟩, fun c3 => ⟨fun c4 => ⟨by omega, ⟨by omega, by omega⟩, fun c5 => ?_, fun c5 => ?_⟩, fun c4 => ?_⟩⟩⟩
    · rw [if_pos c2] at hK; exact hK I1 hf hR1
    · rw [if_neg c2, if_pos c3] at hK; exact hK I1 hf hR1
    · rw [if_neg c2, if_neg c3, if_pos c4, if_pos c5] at hK; exact hK I1 hf hR1
    · rw [if_neg c2, if_neg c3, if_pos c4, if_neg c5] at hK; exact hK I1 hf hR1
    · rw [if_neg c2, if_neg c3, if_neg c4] at hK; exact hK I1 hf hR1
  · rw [if_pos c1] at hK; exact hK I (FM.refl _) hR
theorem l294_11 {q s : Int} (hV : WfV A) (hs : 1 ≤ s ∧ s ≤ 10) (hq : inR q) (hR : RM I A) (hv : ∀ j : Nat, j < (A 91 58).toNat → ld I 135 j = tvS A q s j) (hQ : Q (some (.int (oI (bI (suB A q s))))) (bd L I R S)) : ∀ (n k : Nat) (w3 : Value), k + n = (A 91 58).toNat → h294_11 (d + 2) L I R S Q q s w3 (min (nkL A q k) s) (bI (suL' A q s k)) k := by
  have v1 := hV.2.1
  intro n
  induction n with
  | zero =>
    intro k w3 hk
    refine e294_11 hR ⟨⟨by omega, by omega⟩, fun h => by exfalso; omega, fun _ => ⟨bI_01 _, ?_⟩⟩
    rw [show k = (A 91 58).toNat by omega]; exact hQ
  | succ n ih =>
    intro k w3 hk
    have ni := nkL_in (A := A) (q := q) k
    have en : nkL A q (k + 1) = nkL A q k + (if A 133 k = q then 1 else 0) := rfl
    have es : suL' A q s (k + 1) = (suL' A q s k && (!decide (A 133 k = q ∧ nkL A q k < s) || decide (ahL (tvS A q s) k (A 91 58).toNat < A 91 57))) := rfl
    have ea : ahL (ld I 135) k (A 91 58).toNat = ahL (tvS A q s) k (A 91 58).toNat := ahL_eq _ (fun j hj => hv j hj) (hv _ (by omega))
    have ai := ahL_in (v := tvS A q s) (c := k) (A 91 58).toNat
    have nx : ∀ (w3 : Value) (a : Int) (b : Int), a = min (nkL A q (k + 1)) s → b = bI (suL' A q s (k + 1)) → h294_11 (d + 2) L I R S Q q s w3 a b ((k : Int) + 1) := by
      intro w3 a b ha hb
      rw [ha, hb]; exact ih (k + 1) w3 (by omega)
    refine e294_11 hR ?_
    simp only [Int.toNat_natCast, ea]
    refine ⟨⟨by omega, by omega⟩, fun _ => ⟨by omega, hq, fun c1 => ⟨⟨by omega, by omega⟩, ⟨by omega, by omega⟩, fun c2 => nx _ _ _ ?_ ?_, fun c2 => ⟨bI_in _, fun c3 => nx _ _ _ ?_ ?_, fun c3 => ⟨hV, by omega, ⟨by omega, by omega⟩, fun c4 => nx _ _ _ ?_ ?_, fun c4 => nx _ _ _ ?_ ?_⟩⟩⟩, fun c1 => nx _ _ _ ?_ ?_⟩, fun h => by exfalso; omega⟩
    · rw [en, if_pos c1]; omega
    · rw [es, decide_eq_false (by rintro ⟨-, b⟩; omega)]; simp
    · rw [en, if_pos c1]; omega
    · rw [es]; cases hb : suL' A q s k
      · rfl
      · rw [hb] at c3; exact absurd c3 (by decide)
    · rw [en, if_pos c1]; omega
    · rw [es]; cases hb : suL' A q s k
      · rw [hb] at c3; exact absurd rfl c3
      · rw [decide_eq_true c4]; simp [bI]
    · rw [en, if_pos c1]; omega
    · rw [es]; cases hb : suL' A q s k
      · rw [hb] at c3; exact absurd rfl c3
      · rw [decide_eq_false c4, decide_eq_true ⟨c1, by omega⟩]; simp [bI]
    · rw [en, if_neg c1]; omega
    · rw [es, decide_eq_false (by rintro ⟨a, -⟩; exact c1 a)]; simp
theorem l294_5 {q s : Int} (hV : WfV A) (hs : 1 ≤ s ∧ s ≤ 10) (hq : inR q) (hK : ∀ I1, Fr [135] [] I0 I1 → RM I1 A → Q (some (.int (oI (bI (suB A q s))))) (bd L I1 R S)) : ∀ (n k : Nat) (I : mI) (w6 : Value), k + n = (A 91 58).toNat → RM I A → Fr [135] [] I0 I → (∀ j : Nat, j < k → ld I 135 j = tvS A q s j) → (∀ j : Nat, k ≤ j → j < (A 91 58).toNat → ld I 135 j = if A 133 j = q then 0 else vtS A j) → h294_5 (d + 2) L I R S Q q s (alL A q (A 91 58).toNat) (min (nkL A q k) s) k w6 := by
  have v1 := hV.2.1
  have ali := alL_in hV (q := q) (A 91 58).toNat (by omega)
  intro n
  induction n with
  | zero =>
    intro k I w6 hk hR hf h1 h2
    refine e294_5 (d := d + 1) hR ⟨⟨by omega, by omega⟩, fun h => by exfalso; omega, fun _ => ?_⟩
    have q9 := l294_11 (d := d) (L := L) (R := R) (S := S) (Q := Q) hV hs hq hR (fun j hj => h1 j (by omega)) (hK I hf hR) (A 91 58).toNat 0 (.int (oI (alL A q (A 91 58).toNat))) (by omega)
    have e0 : min (nkL A q 0) s = 0 := by unfold nkL; omega
    rw [e0] at q9
    exact q9
  | succ n ih =>
    intro k I w6 hk hR hf h1 h2
    have ni := nkL_in (A := A) (q := q) k
    have en : nkL A q (k + 1) = nkL A q k + (if A 133 k = q then 1 else 0) := rfl
    have hold := h2 k (Nat.le_refl _) (by omega)
    have stay : ∀ w6 (a : Int), a = min (nkL A q (k + 1)) s → tvS A q s k = ld I 135 k → h294_5 (d + 2) L I R S Q q s (alL A q (A 91 58).toNat) a ((k : Int) + 1) w6 := by
      intro w6 a ha ht
      rw [ha]
      exact ih (k + 1) I w6 (by omega) hR hf (fun j hj => by by_cases e : j = k; rw [e, ht]; exact h1 j (by omega)) (fun j hj hj2 => h2 j (by omega) hj2)
    have htd : 0 ≤ Int.tdiv (alL A q (A 91 58).toNat) s ∧ Int.tdiv (alL A q (A 91 58).toNat) s ≤ 5400 := by
      rw [Int.tdiv_eq_ediv_of_nonneg ali.1]
      refine ⟨Int.ediv_nonneg ali.1 (by omega), ?_⟩
      exact Int.le_trans (Int.ediv_le_self _ ali.1) (by omega)
    have hrm : 0 ≤ alL A q (A 91 58).toNat - Int.tdiv (alL A q (A 91 58).toNat) s * s ∧ alL A q (A 91 58).toNat - Int.tdiv (alL A q (A 91 58).toNat) s * s < s := by
      rw [Int.tdiv_eq_ediv_of_nonneg ali.1]
      have e := Int.emod_def (alL A q (A 91 58).toNat) s
      have h9 := Int.emod_nonneg (alL A q (A 91 58).toNat) (b := s) (by omega)
      have h8 := Int.emod_lt_of_pos (alL A q (A 91 58).toNat) (b := s) (by omega)
      rw [Int.mul_comm] at e
      omega
    refine e294_5 (d := d + 1) hR ?_
    simp only [Int.toNat_natCast]
    refine ⟨⟨by omega, by omega⟩, fun _ => ⟨by omega, hq, fun c1 => ⟨⟨by omega, by omega⟩, ⟨by omega, by omega⟩, fun c2 => stay _ _ ?_ ?_, fun c2 => ⟨⟨by omega, by omega⟩, by omega, by omega, ⟨by omega, by omega⟩, ?_⟩⟩, fun c1 => stay _ _ ?_ ?_⟩, fun h => by exfalso; omega⟩
    · rw [en, if_pos c1]; omega
    · rw [hold, if_pos c1]; unfold tvS; rw [if_pos c1, if_neg (by omega)]
    · have ev : Int.tdiv (alL A q (A 91 58).toNat) s + (if min (nkL A q k) s < alL A q (A 91 58).toNat - Int.tdiv (alL A q (A 91 58).toNat) s * s then (1 : Int) else 0) = tvS A q s k := by
        unfold tvS
        have em : min (nkL A q k) s = nkL A q k := by omega
        rw [em, if_pos c1, if_pos (c := nkL A q k < s) (by omega)]
      have tvi : 0 ≤ tvS A q s k ∧ tvS A q s k ≤ 5401 := by rw [← ev]; split <;> omega
      rw [ev]
      have vr : inR (tvS A q s k) := ⟨by omega, by omega⟩
      have ea : min (nkL A q k) s + 1 = min (nkL A q (k + 1)) s := by rw [en, if_pos c1]; omega
      rw [ea]
      refine ih (k + 1) _ w6 (by omega) (hR.scr rfl) (hf.wr rfl) (fun j hj => ?_) (fun j hj hj2 => ?_)
      · rw [ld_w vr]
        by_cases e : j = k
        · rw [if_pos e, e]
        · rw [if_neg e]; exact h1 j (by omega)
      · rw [ld_w vr, if_neg (by omega)]; exact h2 j (by omega) hj2
    · rw [en, if_neg c1]; omega
    · rw [hold, if_neg c1]; unfold tvS; rw [if_neg c1]
theorem l294_1 {q s : Int} (hV : WfV A) (hs : 1 ≤ s ∧ s ≤ 10) (hq : inR q) (hK : ∀ I1, Fr [135] [] I0 I1 → RM I1 A → Q (some (.int (oI (bI (suB A q s))))) (bd L I1 R S)) : ∀ (n k : Nat) (I : mI) (w5 w6 : Value), k + n = (A 91 58).toNat → RM I A → Fr [135] [] I0 I → (∀ j : Nat, j < (A 91 58).toNat → ld I 135 j = if j < k ∧ A 133 j = q then 0 else vtS A j) → h294_1 (d + 2) L I R S Q q s (alL A q k) k w5 w6 := by
  have v1 := hV.2.1
  intro n
  induction n with
  | zero =>
    intro k I w5 w6 hk hR hf h1
    refine e294_1 hR ⟨⟨by omega, by omega⟩, fun h => by exfalso; omega, fun _ => ?_⟩
    have q9 := l294_5 (d := d) (L := L) (R := R) (S := S) (Q := Q) (I0 := I0) hV hs hq hK (A 91 58).toNat 0 I w6 (by omega) hR hf (fun j hj => by omega) (fun j _ hj => by
      rw [h1 j hj]
      by_cases e : A 133 j = q
      · rw [if_pos ⟨by omega, e⟩, if_pos e]
      · rw [if_neg (by rintro ⟨-, b⟩; exact e b), if_neg e])
    have e0 : min (nkL A q 0) s = 0 := by unfold nkL; omega
    rw [e0] at q9
    rw [show k = (A 91 58).toNat by omega]
    exact q9
  | succ n ih =>
    intro k I w5 w6 hk hR hf h1
    have hold := h1 k (by omega)
    rw [if_neg (by omega)] at hold
    have ea : alL A q (k + 1) = alL A q k + (if A 133 k = q then vtS A k else 0) := rfl
    refine e294_1 hR ?_
    simp only [Int.toNat_natCast, hold]
    refine ⟨⟨by omega, by omega⟩, fun _ => ⟨by omega, hq, fun c1 => ?_, fun c1 => ?_⟩, fun h => by exfalso; omega⟩
    · have q9 := ih (k + 1) (u2 I 135 k (oI 0)) w5 w6 (by omega) (hR.scr rfl) (hf.wr rfl) (fun j hj => by
        rw [ld_w (inRd rfl)]
        by_cases e : j = k
        · rw [if_pos e, if_pos ⟨by omega, by rw [e]; exact c1⟩]
        · rw [if_neg e, h1 j hj]
          by_cases e2 : j < k ∧ A 133 j = q
          · rw [if_pos e2, if_pos ⟨by omega, e2.2⟩]
          · rw [if_neg e2, if_neg (by rintro ⟨a, b⟩; exact e2 ⟨by omega, b⟩)])
      rw [ea, if_pos c1] at q9
      exact q9
    · have q9 := ih (k + 1) I w5 w6 (by omega) hR hf (fun j hj => by
        rw [h1 j hj]
        by_cases e : j = k
        · rw [if_neg (by omega), if_neg (by rintro ⟨-, b⟩; rw [e] at b; exact c1 b)]
        · by_cases e2 : j < k ∧ A 133 j = q
          · rw [if_pos e2, if_pos ⟨by omega, e2.2⟩]
          · rw [if_neg e2, if_neg (by rintro ⟨a, b⟩; exact e2 ⟨by omega, b⟩)])
      rw [ea, if_neg c1, Int.add_zero] at q9
      exact q9
theorem k294 {K : Int32 → mM → Prop} {q s : Int} (hR : RM I A) (hV : WfV A) (hq : inR q) (hs : 1 ≤ s ∧ s ≤ 10) (h1 : suB A q s = true → ∀ I1, Fr [135] [] I I1 → RM I1 A → K (oI 1) (bd L I1 R S)) (h0 : ¬ suB A q s = true → ∀ I1, Fr [135] [] I I1 → RM I1 A → K (oI 0) (bd L I1 R S)) : CallI (d + 2) 294 [.ref 91, .int (oI q), .int (oI s)] (bd L I R S) K := by
  refine e294 (d := d + 1) hR ⟨hV, fun I1 hf1 hv1 => ?_⟩
  refine l294_1 (d := d) (I0 := I) hV hs hq (fun I2 h3 h4 => rqI_of ?_) (A 91 58).toNat 0 I1 _ _ (by omega) (hR.fr hf1 rfl rfl (fun _ => rfl)) hf1 (fun j hj => ?_)
  · cases hb : suB A q s
    · exact h0 (by rw [hb]; decide) I2 h3 h4
    · exact h1 hb I2 h3 h4
  · rw [hv1 j hj, if_neg (by omega)]
end
