/-! the reference: staff, steps, rates, hours, fees -/
def hnL (A : aS) (school year : Int) : Nat → Int
  | 0 => 1
  | t + 1 => hnL A school year t + (if A 121 t = school ∧ A 122 t ≤ year then 1 else 0)
theorem hnL_in {A : aS} {school year : Int} : ∀ t, 1 ≤ hnL A school year t ∧ hnL A school year t ≤ 1 + t
  | 0 => by unfold hnL; omega
  | t + 1 => by have := hnL_in (A := A) (school := school) (year := year) t; unfold hnL; split <;> omega
/-- how many the staff covers -/
noncomputable def sfS (A : aS) (school year code : Int) : Int := if lsS A code 11 = -1 then -1 else nuS A code (lsS A code 11) * hnL A school year (A 91 40).toNat
noncomputable def spL (A : aS) (t : Int) : Nat → Int
  | 0 => 1
  | k + 1 => if ¬ A 123 (8 * t + (A 122 t.toNat + k)).toNat = -1 ∧ lnS A (A 122 t.toNat + k) 12 0 ≤ A 123 (8 * t + (A 122 t.toNat + k)).toNat then min 5 (spL A t k + 1) else spL A t k
noncomputable def sttS (A : aS) (t year : Int) : Int := spL A t (year - A 122 t.toNat).toNat
theorem spL_in {A : aS} {t : Int} : ∀ k, 1 ≤ spL A t k ∧ spL A t k ≤ 5
  | 0 => by unfold spL; omega
  | k + 1 => by have := spL_in (A := A) (t := t) k; unfold spL; split <;> omega
noncomputable def smS (A : aS) : Int := lnS A (Int.tdiv (A 91 0) 100) 15 0
/-- what a house pays at a rate -/
noncomputable def paS (A : aS) (h r : Int) : Int := if A 136 h.toNat < smS A then Int.tdiv (A 136 h.toNat * r) 2 else A 136 h.toNat * r
noncomputable def coL (A : aS) (r : Int) : Nat → Int
  | 0 => 0
  | h + 1 => coL A r h + paS A h r
noncomputable def coS (A : aS) (r : Int) : Int := coL A r (A 91 63).toNat
noncomputable def teS (A : aS) (code s : Int) : Int := if fsS A zE code 14 s = -1 then 1 else A 142 (cdS A code (fsS A zE code 14 s)).toNat
noncomputable def hrL (A : aS) (code set : Int) : Nat → Int
  | 0 => 0
  | s + 1 => if iAnd (iShr set s) 1 = 0 then hrL A code set s else hrL A code set s + teS A code s
noncomputable def hrS (A : aS) (code set : Int) : Int := hrL A code set 6
def h261_2 (d L : Nat) (I : Nat → Nat → Int32) (R : Nat → Nat → Option Nat) (S : List (Nat × Nat)) (Q : Option Value → mM → Prop) (x1 : Int) (x2 : Int) (x3 : Int) (x4 : Int) (x5 : Int) (x6 : Int) : Prop := Wp d (gb 261 2) [.ref 91, .int (oI x1), .int (oI x2), .int (oI x3), .int (oI x4), .int (oI x5), .int (oI x6)] [] (bd L I R S) Q
set_option maxRecDepth 4000 in
theorem e261_2 {d L : Nat} {I : Nat → Nat → Int32} {R : Nat → Nat → Option Nat} {S : List (Nat × Nat)} {Q : Option Value → mM → Prop} {A : aS} (hR : RM I A) {x1 : Int} {x2 : Int} {x3 : Int} {x4 : Int} {x5 : Int} {x6 : Int} (hE : inR x6 ∧ (((x6 < A 91 40) → (0 ≤ x6 ∧ x6 < 20) ∧ (inR x1 ∧ (((A 121 x6.toNat = x1) → inR x2 ∧ (h261_2 (d + 2) L I R S Q x1 x2 x3 x4 (x5 + (if x2 < A 122 x6.toNat then (0 : Int) else 1)) (x6 + 1))) ∧ (¬ (A 121 x6.toNat = x1) → h261_2 (d + 2) L I R S Q x1 x2 x3 x4 (x5 + 0) (x6 + 1))))) ∧ (¬ (x6 < A 91 40) → WfC A ∧ ((0 ≤ x3 ∧ x3 ≤ 7) ∧ ((0 ≤ x4 ∧ x4 ≤ 60) ∧ (∀ (I10 : mI), (Fr [151] [(91, 87)] I I10) → (RM I10 A) → (0 ≤ cdS A x3 x4 ∧ cdS A x3 x4 < 360) ∧ (Q (some (.int (oI ((A 141 (cdS A x3 x4).toNat) * x5)))) (bd L I10 R S)))))))) : h261_2 (d + 2) L I R S Q x1 x2 x3 x4 x5 x6 := by
  unfold h261_2
  refine xG gb261.2.2.1 ?_
  refine s4 (x := x6) rfl ?_
  refine s6 (p := 91) rfl ?_
  refine s50 (v := A 91 40) sh91 (by decide) (by decide) (rdM hR.1 rfl) ?_
  obtain ⟨g1, hE⟩ := hE
  refine s64 g1 (inA hR.1 (a := 91) (k := 40) rfl) (fun c2 => ?_) (fun c2 => ?_)
  · replace hE := hE.1 c2
    refine s4 (x := x5) rfl ?_
    refine s6 (p := 91) rfl ?_
    refine s51 sh91 (by decide) (by decide) rf91_41 ?_
    refine s4 (x := x6) rfl ?_
    obtain ⟨g3, hE⟩ := hE
    refine s40 (v := A 121 x6.toNat) sh121 g3 rfl (rdM hR.1 rfl) ?_
    refine s4 (x := x1) rfl ?_
    obtain ⟨g4, hE⟩ := hE
    refine s62 (inA hR.1 (a := 121) (k := x6.toNat) rfl) g4 (fun c5 => ?_) (fun c5 => ?_)
    · replace hE := hE.1 c5
      refine s6 (p := 91) rfl ?_
      refine s51 sh91 (by decide) (by decide) rf91_42 ?_
      refine s4 (x := x6) rfl ?_
      refine s40 (v := A 122 x6.toNat) sh122 g3 rfl (rdM hR.1 rfl) ?_
      refine s4 (x := x2) rfl ?_
      obtain ⟨g6, hE⟩ := hE
      refine s65j (j := 4) (v1 := 0) (v0 := 1) (inA hR.1 (a := 122) (k := x6.toNat) rfl) g6 (fun hJ => ?_) (fun hJ => ?_) ?_
      · refine xG gb261.2.2.2.1 ?_
        exact s0 (s79 hJ)
      · exact s0 (s60 hJ)
      refine xG gb261.2.2.2.2.1 ?_
      refine sI rc227 rfl (Nat.le_of_ble_eq_true rfl) ?_
      refine k227 (ite_01 (by decide) (by decide)) ?_
      refine s16 ?_
      refine s7 (ls' := [.ref 91, .int (oI x1), .int (oI x2), .int (oI x3), .int (oI x4), .int (oI (x5 + (if x2 < A 122 x6.toNat then (0 : Int) else 1))), .int (oI x6)]) (Nat.le_of_ble_eq_true rfl) rfl ?_
      refine s10 (x := x6) (ls' := [.ref 91, .int (oI x1), .int (oI x2), .int (oI x3), .int (oI x4), .int (oI (x5 + (if x2 < A 122 x6.toNat then (0 : Int) else 1))), .int (oI (x6 + 1))]) rfl rfl ?_
      refine s60 ?_
      exact hE
    · replace hE := hE.2 c5
      refine xG gb261.2.2.2.1 ?_
      refine s0 ?_
      refine s79 ?_
      refine xG gb261.2.2.2.2.1 ?_
      refine sI rc227 rfl (Nat.le_of_ble_eq_true rfl) ?_
      refine k227 (by decide) ?_
      refine s16 ?_
      refine s7 (ls' := [.ref 91, .int (oI x1), .int (oI x2), .int (oI x3), .int (oI x4), .int (oI (x5 + 0)), .int (oI x6)]) (Nat.le_of_ble_eq_true rfl) rfl ?_
      refine s10 (x := x6) (ls' := [.ref 91, .int (oI x1), .int (oI x2), .int (oI x3), .int (oI x4), .int (oI (x5 + 0)), .int (oI (x6 + 1))]) rfl rfl ?_
      refine s60 ?_
      exact hE
  · replace hE := hE.2 c2
    refine xG gb261.2.2.2.2.2 ?_
    refine s6 (p := 91) rfl ?_
    refine s51 sh91 (by decide) (by decide) rf91_76 ?_
    refine s6 (p := 91) rfl ?_
    refine s4 (x := x3) rfl ?_
    refine s4 (x := x4) rfl ?_
    obtain ⟨g7, hE⟩ := hE
    obtain ⟨g8, hE⟩ := hE
    obtain ⟨g9, hE⟩ := hE
    refine sI rc221 rfl (Nat.le_of_ble_eq_true rfl) ?_
    refine k221 hR g7 g8 g9 (fun I10 q11 q12 => ?_)
    replace hE := hE I10 q11 q12
    obtain ⟨g13, hE⟩ := hE
    refine s40 (v := A 141 (cdS A x3 x4).toNat) sh141 g13 rfl (rdM (q12).1 rfl) ?_
    refine s4 (x := x5) rfl ?_
    refine s18 ?_
    refine s80 ?_
    exact hE
set_option maxRecDepth 4000 in
theorem e261 {d L : Nat} {I : Nat → Nat → Int32} {R : Nat → Nat → Option Nat} {S : List (Nat × Nat)} {K : Int32 → mM → Prop} {A : aS} (hR : RM I A) {x1 : Int} {x2 : Int} {x3 : Int} (hE : WfC A ∧ ((0 ≤ x3 ∧ x3 ≤ 7) ∧ (∀ (I3 : mI), (Fr [151] [(91, 87)] I I3) → (RM I3 A) → inR (lsS A x3 11) ∧ (((lsS A x3 11 = (-1)) → K (oI (-1)) (bd L I3 R S)) ∧ (¬ (lsS A x3 11 = (-1)) → h261_2 (d + 27) L I3 R S (rqI K) x1 x2 x3 (lsS A x3 11) 1 0))))) : CallI (d + 27) 261 [.ref 91, .int (oI x1), .int (oI x2), .int (oI x3)] (bd L I R S) K := by
  refine cI_of (ls := [.ref 91, .int (oI x1), .int (oI x2), .int (oI x3), mUn, mUn, mUn]) rfl ?_
  refine xG gb261.1 ?_
  refine s6 (p := 91) rfl ?_
  refine s4 (x := x3) rfl ?_
  refine s0 ?_
  obtain ⟨g1, hE⟩ := hE
  obtain ⟨g2, hE⟩ := hE
  refine sI rc219 rfl (Nat.le_of_ble_eq_true rfl) ?_
  refine k219 hR g1 g2 (by decide) (fun I3 q4 q5 => ?_)
  replace hE := hE I3 q4 q5
  refine s7 (ls' := [.ref 91, .int (oI x1), .int (oI x2), .int (oI x3), .int (oI (lsS A x3 11)), mUn, mUn]) (Nat.le_of_ble_eq_true rfl) rfl ?_
  refine s4 (x := lsS A x3 11) rfl ?_
  refine s0 ?_
  obtain ⟨g6, hE⟩ := hE
  refine s62 g6 (inRd rfl) (fun c7 => ?_) (fun c7 => ?_)
  · replace hE := hE.1 c7
    refine s0 ?_
    refine s80 ?_
    exact rqI_of hE
  · replace hE := hE.2 c7
    refine xG gb261.2.1 ?_
    refine s0 ?_
    refine s7 (ls' := [.ref 91, .int (oI x1), .int (oI x2), .int (oI x3), .int (oI (lsS A x3 11)), .int (oI 1), mUn]) (Nat.le_of_ble_eq_true rfl) rfl ?_
    refine s0 ?_
    refine s7 (ls' := [.ref 91, .int (oI x1), .int (oI x2), .int (oI x3), .int (oI (lsS A x3 11)), .int (oI 1), .int (oI 0)]) (Nat.le_of_ble_eq_true rfl) rfl ?_
    refine s79 ?_
    exact hE
def h274_1 (d L : Nat) (I : Nat → Nat → Int32) (R : Nat → Nat → Option Nat) (S : List (Nat × Nat)) (Q : Option Value → mM → Prop) (x1 : Int) (x2 : Int) (x3 : Int) (x4 : Int) (w5 : Value) (w6 : Value) (w7 : Value) : Prop := Wp d (gb 274 1) [.ref 91, .int (oI x1), .int (oI x2), .int (oI x3), .int (oI x4), w5, w6, w7] [] (bd L I R S) Q
set_option maxRecDepth 4000 in
theorem e274_1 {d L : Nat} {I : Nat → Nat → Int32} {R : Nat → Nat → Option Nat} {S : List (Nat × Nat)} {Q : Option Value → mM → Prop} {A : aS} (hR : RM I A) {x1 : Int} {x2 : Int} {x3 : Int} {x4 : Int} {w5 : Value} {w6 : Value} {w7 : Value} (hE : inR x4 ∧ (inR x2 ∧ (((x4 < x2) → WfC A ∧ ((0 ≤ x4 ∧ x4 ≤ 7) ∧ (∀ (I6 : mI), (Fr [151] [(91, 87)] I I6) → (RM I6 A) → inR (lsS A x4 12) ∧ (((lsS A x4 12 = (-1)) → (0 ≤ (8 * x1) + x4 ∧ (8 * x1) + x4 < 160) ∧ (((A 123 ((8 * x1) + x4).toNat = (-1)) → h274_1 (d + 27) L I6 R S Q x1 x2 x3 (x4 + 1) (.int (oI (lsS A x4 12))) (.int (oI 0)) (.int (oI (A 123 ((8 * x1) + x4).toNat)))) ∧ (¬ (A 123 ((8 * x1) + x4).toNat = (-1)) → ((A 123 ((8 * x1) + x4).toNat < 0) → h274_1 (d + 27) L I6 R S Q x1 x2 x3 (x4 + 1) (.int (oI (lsS A x4 12))) (.int (oI 0)) (.int (oI (A 123 ((8 * x1) + x4).toNat)))) ∧ (¬ (A 123 ((8 * x1) + x4).toNat < 0) → inR (x3 + 1) ∧ (h274_1 (d + 27) L I6 R S Q x1 x2 (min 5 (x3 + 1)) (x4 + 1) (.int (oI (lsS A x4 12))) (.int (oI 0)) (.int (oI (A 123 ((8 * x1) + x4).toNat)))))))) ∧ (¬ (lsS A x4 12 = (-1)) → (0 ≤ lsS A x4 12 ∧ lsS A x4 12 ≤ 60) ∧ (∀ (I16 : mI), (Fr [151] [(91, 87)] I6 I16) → (RM I16 A) → (0 ≤ cdS A x4 (lsS A x4 12) ∧ cdS A x4 (lsS A x4 12) < 360) ∧ ((0 ≤ (8 * x1) + x4 ∧ (8 * x1) + x4 < 160) ∧ (((A 123 ((8 * x1) + x4).toNat = (-1)) → h274_1 (d + 27) L I16 R S Q x1 x2 x3 (x4 + 1) (.int (oI (lsS A x4 12))) (.int (oI (A 141 (cdS A x4 (lsS A x4 12)).toNat))) (.int (oI (A 123 ((8 * x1) + x4).toNat)))) ∧ (¬ (A 123 ((8 * x1) + x4).toNat = (-1)) → ((A 123 ((8 * x1) + x4).toNat < A 141 (cdS A x4 (lsS A x4 12)).toNat) → h274_1 (d + 27) L I16 R S Q x1 x2 x3 (x4 + 1) (.int (oI (lsS A x4 12))) (.int (oI (A 141 (cdS A x4 (lsS A x4 12)).toNat))) (.int (oI (A 123 ((8 * x1) + x4).toNat)))) ∧ (¬ (A 123 ((8 * x1) + x4).toNat < A 141 (cdS A x4 (lsS A x4 12)).toNat) → inR (x3 + 1) ∧ (h274_1 (d + 27) L I16 R S Q x1 x2 (min 5 (x3 + 1)) (x4 + 1) (.int (oI (lsS A x4 12))) (.int (oI (A 141 (cdS A x4 (lsS A x4 12)).toNat))) (.int (oI (A 123 ((8 * x1) + x4).toNat)))))))))))))) ∧ (¬ (x4 < x2) → Q (some (.int (oI x3))) (bd L I R S))))) : h274_1 (d + 27) L I R S Q x1 x2 x3 x4 w5 w6 w7 := by
  unfold h274_1
  refine xG gb274.2.1 ?_
  refine s4 (x := x4) rfl ?_
  refine s4 (x := x2) rfl ?_
  obtain ⟨g1, hE⟩ := hE
  obtain ⟨g2, hE⟩ := hE
  refine s64 g1 g2 (fun c3 => ?_) (fun c3 => ?_)
  · replace hE := hE.1 c3
    refine s6 (p := 91) rfl ?_
    refine s4 (x := x4) rfl ?_
    refine s0 ?_
    obtain ⟨g4, hE⟩ := hE
    obtain ⟨g5, hE⟩ := hE
    refine sI rc219 rfl (Nat.le_of_ble_eq_true rfl) ?_
    refine k219 hR g4 g5 (by decide) (fun I6 q7 q8 => ?_)
    replace hE := hE I6 q7 q8
    refine s7 (ls' := [.ref 91, .int (oI x1), .int (oI x2), .int (oI x3), .int (oI x4), .int (oI (lsS A x4 12)), w6, w7]) (Nat.le_of_ble_eq_true rfl) rfl ?_
    refine s4 (x := lsS A x4 12) rfl ?_
    refine s0 ?_
    obtain ⟨g9, hE⟩ := hE
    refine s62 g9 (inRd rfl) (fun c10 => ?_) (fun c10 => ?_)
    · replace hE := hE.1 c10
      refine s0 ?_
      refine s60 ?_
      refine xG gb274.2.2.2.1 ?_
      refine s7 (ls' := [.ref 91, .int (oI x1), .int (oI x2), .int (oI x3), .int (oI x4), .int (oI (lsS A x4 12)), .int (oI 0), w7]) (Nat.le_of_ble_eq_true rfl) rfl ?_
      refine s6 (p := 91) rfl ?_
      refine s51 sh91 (by decide) (by decide) rf91_43 ?_
      refine s0 ?_
      refine s4 (x := x1) rfl ?_
      refine s18 ?_
      refine s4 (x := x4) rfl ?_
      refine s16 ?_
      obtain ⟨g11, hE⟩ := hE
      refine s40 (v := A 123 ((8 * x1) + x4).toNat) sh123 g11 rfl (rdM (q8).1 rfl) ?_
      refine s7 (ls' := [.ref 91, .int (oI x1), .int (oI x2), .int (oI x3), .int (oI x4), .int (oI (lsS A x4 12)), .int (oI 0), .int (oI (A 123 ((8 * x1) + x4).toNat))]) (Nat.le_of_ble_eq_true rfl) rfl ?_
      refine s4 (x := A 123 ((8 * x1) + x4).toNat) rfl ?_
      refine s0 ?_
      refine s61 (inA (q8).1 (a := 123) (k := ((8 * x1) + x4).toNat) rfl) (inRd rfl) (fun c12 => ?_) (fun c12 => ?_)
      · replace hE := hE.1 c12
        refine xG gb274.2.2.2.2.1 ?_
        refine s10 (x := x4) (ls' := [.ref 91, .int (oI x1), .int (oI x2), .int (oI x3), .int (oI (x4 + 1)), .int (oI (lsS A x4 12)), .int (oI 0), .int (oI (A 123 ((8 * x1) + x4).toNat))]) rfl rfl ?_
        refine s60 ?_
        exact hE
      · replace hE := hE.2 c12
        refine s4 (x := A 123 ((8 * x1) + x4).toNat) rfl ?_
        refine s4 (x := 0) rfl ?_
        refine s63 (inA (q8).1 (a := 123) (k := ((8 * x1) + x4).toNat) rfl) (inRd rfl) (fun c13 => ?_) (fun c13 => ?_)
        · replace hE := hE.1 c13
          refine xG gb274.2.2.2.2.1 ?_
          refine s10 (x := x4) (ls' := [.ref 91, .int (oI x1), .int (oI x2), .int (oI x3), .int (oI (x4 + 1)), .int (oI (lsS A x4 12)), .int (oI 0), .int (oI (A 123 ((8 * x1) + x4).toNat))]) rfl rfl ?_
          refine s60 ?_
          exact hE
        · replace hE := hE.2 c13
          refine s0 ?_
          refine s4 (x := x3) rfl ?_
          refine s0 ?_
          refine s16 ?_
          obtain ⟨g14, hE⟩ := hE
          refine sI rc345 rfl (Nat.le_of_ble_eq_true rfl) ?_
          refine k345 (inRd rfl) g14 ?_
          refine s7 (ls' := [.ref 91, .int (oI x1), .int (oI x2), .int (oI (min 5 (x3 + 1))), .int (oI x4), .int (oI (lsS A x4 12)), .int (oI 0), .int (oI (A 123 ((8 * x1) + x4).toNat))]) (Nat.le_of_ble_eq_true rfl) rfl ?_
          refine s79 ?_
          refine xG gb274.2.2.2.2.1 ?_
          refine s10 (x := x4) (ls' := [.ref 91, .int (oI x1), .int (oI x2), .int (oI (min 5 (x3 + 1))), .int (oI (x4 + 1)), .int (oI (lsS A x4 12)), .int (oI 0), .int (oI (A 123 ((8 * x1) + x4).toNat))]) rfl rfl ?_
          refine s60 ?_
          exact hE
    · replace hE := hE.2 c10
      refine xG gb274.2.2.1 ?_
      refine s6 (p := 91) rfl ?_
      refine s51 sh91 (by decide) (by decide) rf91_76 ?_
      refine s6 (p := 91) rfl ?_
      refine s4 (x := x4) rfl ?_
      refine s4 (x := lsS A x4 12) rfl ?_
      obtain ⟨g15, hE⟩ := hE
      refine sI rc221 rfl (Nat.le_of_ble_eq_true rfl) ?_
      refine k221 (q8) g4 g5 g15 (fun I16 q17 q18 => ?_)
      replace hE := hE I16 q17 q18
      obtain ⟨g19, hE⟩ := hE
      refine s40 (v := A 141 (cdS A x4 (lsS A x4 12)).toNat) sh141 g19 rfl (rdM (q18).1 rfl) ?_
      refine s79 ?_
      refine xG gb274.2.2.2.1 ?_
      refine s7 (ls' := [.ref 91, .int (oI x1), .int (oI x2), .int (oI x3), .int (oI x4), .int (oI (lsS A x4 12)), .int (oI (A 141 (cdS A x4 (lsS A x4 12)).toNat)), w7]) (Nat.le_of_ble_eq_true rfl) rfl ?_
      refine s6 (p := 91) rfl ?_
      refine s51 sh91 (by decide) (by decide) rf91_43 ?_
      refine s0 ?_
      refine s4 (x := x1) rfl ?_
      refine s18 ?_
      refine s4 (x := x4) rfl ?_
      refine s16 ?_
      obtain ⟨g20, hE⟩ := hE
      refine s40 (v := A 123 ((8 * x1) + x4).toNat) sh123 g20 rfl (rdM (q18).1 rfl) ?_
      refine s7 (ls' := [.ref 91, .int (oI x1), .int (oI x2), .int (oI x3), .int (oI x4), .int (oI (lsS A x4 12)), .int (oI (A 141 (cdS A x4 (lsS A x4 12)).toNat)), .int (oI (A 123 ((8 * x1) + x4).toNat))]) (Nat.le_of_ble_eq_true rfl) rfl ?_
      refine s4 (x := A 123 ((8 * x1) + x4).toNat) rfl ?_
      refine s0 ?_
      refine s61 (inA (q18).1 (a := 123) (k := ((8 * x1) + x4).toNat) rfl) (inRd rfl) (fun c21 => ?_) (fun c21 => ?_)
      · replace hE := hE.1 c21
        refine xG gb274.2.2.2.2.1 ?_
        refine s10 (x := x4) (ls' := [.ref 91, .int (oI x1), .int (oI x2), .int (oI x3), .int (oI (x4 + 1)), .int (oI (lsS A x4 12)), .int (oI (A 141 (cdS A x4 (lsS A x4 12)).toNat)), .int (oI (A 123 ((8 * x1) + x4).toNat))]) rfl rfl ?_
        refine s60 ?_
        exact hE
      · replace hE := hE.2 c21
        refine s4 (x := A 123 ((8 * x1) + x4).toNat) rfl ?_
        refine s4 (x := A 141 (cdS A x4 (lsS A x4 12)).toNat) rfl ?_
        refine s63 (inA (q18).1 (a := 123) (k := ((8 * x1) + x4).toNat) rfl) (inA (q18).1 (a := 141) (k := (cdS A x4 (lsS A x4 12)).toNat) rfl) (fun c22 => ?_) (fun c22 => ?_)
        · replace hE := hE.1 c22
          refine xG gb274.2.2.2.2.1 ?_
          refine s10 (x := x4) (ls' := [.ref 91, .int (oI x1), .int (oI x2), .int (oI x3), .int (oI (x4 + 1)), .int (oI (lsS A x4 12)), .int (oI (A 141 (cdS A x4 (lsS A x4 12)).toNat)), .int (oI (A 123 ((8 * x1) + x4).toNat))]) rfl rfl ?_
          refine s60 ?_
          exact hE
        · replace hE := hE.2 c22
          refine s0 ?_
          refine s4 (x := x3) rfl ?_
          refine s0 ?_
          refine s16 ?_
          obtain ⟨g23, hE⟩ := hE
          refine sI rc345 rfl (Nat.le_of_ble_eq_true rfl) ?_
          refine k345 (inRd rfl) g23 ?_
          refine s7 (ls' := [.ref 91, .int (oI x1), .int (oI x2), .int (oI (min 5 (x3 + 1))), .int (oI x4), .int (oI (lsS A x4 12)), .int (oI (A 141 (cdS A x4 (lsS A x4 12)).toNat)), .int (oI (A 123 ((8 * x1) + x4).toNat))]) (Nat.le_of_ble_eq_true rfl) rfl ?_
          refine s79 ?_
          refine xG gb274.2.2.2.2.1 ?_
          refine s10 (x := x4) (ls' := [.ref 91, .int (oI x1), .int (oI x2), .int (oI (min 5 (x3 + 1))), .int (oI (x4 + 1)), .int (oI (lsS A x4 12)), .int (oI (A 141 (cdS A x4 (lsS A x4 12)).toNat)), .int (oI (A 123 ((8 * x1) + x4).toNat))]) rfl rfl ?_
          refine s60 ?_
          exact hE
  · replace hE := hE.2 c3
    refine xG gb274.2.2.2.2.2 ?_
    refine s4 (x := x3) rfl ?_
    refine s80 ?_
    exact hE
set_option maxRecDepth 4000 in
theorem e274 {d L : Nat} {I : Nat → Nat → Int32} {R : Nat → Nat → Option Nat} {S : List (Nat × Nat)} {K : Int32 → mM → Prop} {A : aS} (hR : RM I A) {x1 : Int} {x2 : Int} (hE : (0 ≤ x1 ∧ x1 < 20) ∧ (h274_1 d L I R S (rqI K) x1 x2 1 (A 122 x1.toNat) mUn mUn mUn)) : CallI d 274 [.ref 91, .int (oI x1), .int (oI x2)] (bd L I R S) K := by
  refine cI_of (ls := [.ref 91, .int (oI x1), .int (oI x2), mUn, mUn, mUn, mUn, mUn]) rfl ?_
  refine xG gb274.1 ?_
  refine s0 ?_
  refine s7 (ls' := [.ref 91, .int (oI x1), .int (oI x2), .int (oI 1), mUn, mUn, mUn, mUn]) (Nat.le_of_ble_eq_true rfl) rfl ?_
  refine s6 (p := 91) rfl ?_
  refine s51 sh91 (by decide) (by decide) rf91_42 ?_
  refine s4 (x := x1) rfl ?_
  obtain ⟨g1, hE⟩ := hE
  refine s40 (v := A 122 x1.toNat) sh122 g1 rfl (rdM hR.1 rfl) ?_
  refine s7 (ls' := [.ref 91, .int (oI x1), .int (oI x2), .int (oI 1), .int (oI (A 122 x1.toNat)), mUn, mUn, mUn]) (Nat.le_of_ble_eq_true rfl) rfl ?_
  refine s79 ?_
  exact hE
set_option maxRecDepth 4000 in
theorem e298 {d L : Nat} {I : Nat → Nat → Int32} {R : Nat → Nat → Option Nat} {S : List (Nat × Nat)} {K : Int32 → mM → Prop} {A : aS} (hR : RM I A) {x1 : Int} {x2 : Int} (hE : WfC A ∧ ((0 ≤ Int.tdiv (A 91 0) 100 ∧ Int.tdiv (A 91 0) 100 ≤ 7) ∧ (∀ (I3 : mI), (Fr [151] [(91, 87)] I I3) → (RM I3 A) → inR (lsS A (Int.tdiv (A 91 0) 100) 15) ∧ (((lsS A (Int.tdiv (A 91 0) 100) 15 = (-1)) → (0 ≤ x1 ∧ x1 < 40) ∧ (((A 136 x1.toNat < 0) → inR ((A 136 x1.toNat) * x2) ∧ (K (oI (Int.tdiv ((A 136 x1.toNat) * x2) 2)) (bd L I3 R S))) ∧ (¬ (A 136 x1.toNat < 0) → K (oI ((A 136 x1.toNat) * x2)) (bd L I3 R S)))) ∧ (¬ (lsS A (Int.tdiv (A 91 0) 100) 15 = (-1)) → (0 ≤ lsS A (Int.tdiv (A 91 0) 100) 15 ∧ lsS A (Int.tdiv (A 91 0) 100) 15 ≤ 60) ∧ (∀ (I12 : mI), (Fr [151] [(91, 87)] I3 I12) → (RM I12 A) → (0 ≤ cdS A (Int.tdiv (A 91 0) 100) (lsS A (Int.tdiv (A 91 0) 100) 15) ∧ cdS A (Int.tdiv (A 91 0) 100) (lsS A (Int.tdiv (A 91 0) 100) 15) < 360) ∧ ((0 ≤ x1 ∧ x1 < 40) ∧ (((A 136 x1.toNat < A 141 (cdS A (Int.tdiv (A 91 0) 100) (lsS A (Int.tdiv (A 91 0) 100) 15)).toNat) → inR ((A 136 x1.toNat) * x2) ∧ (K (oI (Int.tdiv ((A 136 x1.toNat) * x2) 2)) (bd L I12 R S))) ∧ (¬ (A 136 x1.toNat < A 141 (cdS A (Int.tdiv (A 91 0) 100) (lsS A (Int.tdiv (A 91 0) 100) 15)).toNat) → K (oI ((A 136 x1.toNat) * x2)) (bd L I12 R S)))))))))) : CallI (d + 27) 298 [.ref 91, .int (oI x1), .int (oI x2)] (bd L I R S) K := by
  refine cI_of (ls := [.ref 91, .int (oI x1), .int (oI x2), mUn, mUn]) rfl ?_
  refine xG gb298.1 ?_
  refine s6 (p := 91) rfl ?_
  refine s6 (p := 91) rfl ?_
  refine s50 (v := A 91 0) sh91 (by decide) (by decide) (rdM hR.1 rfl) ?_
  refine s0 ?_
  refine s19 (inA hR.1 (a := 91) (k := 0) rfl) ⟨(inRd rfl), by decide⟩ ?_
  refine s0 ?_
  obtain ⟨g1, hE⟩ := hE
  obtain ⟨g2, hE⟩ := hE
  refine sI rc219 rfl (Nat.le_of_ble_eq_true rfl) ?_
  refine k219 hR g1 g2 (by decide) (fun I3 q4 q5 => ?_)
  replace hE := hE I3 q4 q5
  refine s7 (ls' := [.ref 91, .int (oI x1), .int (oI x2), .int (oI (lsS A (Int.tdiv (A 91 0) 100) 15)), mUn]) (Nat.le_of_ble_eq_true rfl) rfl ?_
  refine s4 (x := lsS A (Int.tdiv (A 91 0) 100) 15) rfl ?_
  refine s0 ?_
  obtain ⟨g6, hE⟩ := hE
  refine s62 g6 (inRd rfl) (fun c7 => ?_) (fun c7 => ?_)
  · replace hE := hE.1 c7
    refine s0 ?_
    refine s60 ?_
    refine xG gb298.2.2.1 ?_
    refine s7 (ls' := [.ref 91, .int (oI x1), .int (oI x2), .int (oI (lsS A (Int.tdiv (A 91 0) 100) 15)), .int (oI 0)]) (Nat.le_of_ble_eq_true rfl) rfl ?_
    refine s6 (p := 91) rfl ?_
    refine s51 sh91 (by decide) (by decide) rf91_64 ?_
    refine s4 (x := x1) rfl ?_
    obtain ⟨g8, hE⟩ := hE
    refine s40 (v := A 136 x1.toNat) sh136 g8 rfl (rdM (q5).1 rfl) ?_
    refine s4 (x := 0) rfl ?_
    refine s64 (inA (q5).1 (a := 136) (k := x1.toNat) rfl) (inRd rfl) (fun c9 => ?_) (fun c9 => ?_)
    · replace hE := hE.1 c9
      refine s6 (p := 91) rfl ?_
      refine s51 sh91 (by decide) (by decide) rf91_64 ?_
      refine s4 (x := x1) rfl ?_
      refine s40 (v := A 136 x1.toNat) sh136 g8 rfl (rdM (q5).1 rfl) ?_
      refine s4 (x := x2) rfl ?_
      refine s18 ?_
      refine s0 ?_
      obtain ⟨g10, hE⟩ := hE
      refine s19 g10 ⟨(inRd rfl), by decide⟩ ?_
      refine s60 ?_
      refine xG gb298.2.2.2.2 ?_
      refine s80 ?_
      exact rqI_of hE
    · replace hE := hE.2 c9
      refine xG gb298.2.2.2.1 ?_
      refine s6 (p := 91) rfl ?_
      refine s51 sh91 (by decide) (by decide) rf91_64 ?_
      refine s4 (x := x1) rfl ?_
      refine s40 (v := A 136 x1.toNat) sh136 g8 rfl (rdM (q5).1 rfl) ?_
      refine s4 (x := x2) rfl ?_
      refine s18 ?_
      refine s79 ?_
      refine xG gb298.2.2.2.2 ?_
      refine s80 ?_
      exact rqI_of hE
  · replace hE := hE.2 c7
    refine xG gb298.2.1 ?_
    refine s6 (p := 91) rfl ?_
    refine s51 sh91 (by decide) (by decide) rf91_76 ?_
    refine s6 (p := 91) rfl ?_
    refine s6 (p := 91) rfl ?_
    refine s50 (v := A 91 0) sh91 (by decide) (by decide) (rdM (q5).1 rfl) ?_
    refine s0 ?_
    refine s19 (inA (q5).1 (a := 91) (k := 0) rfl) ⟨(inRd rfl), by decide⟩ ?_
    refine s4 (x := lsS A (Int.tdiv (A 91 0) 100) 15) rfl ?_
    obtain ⟨g11, hE⟩ := hE
    refine sI rc221 rfl (Nat.le_of_ble_eq_true rfl) ?_
    refine k221 (q5) g1 g2 g11 (fun I12 q13 q14 => ?_)
    replace hE := hE I12 q13 q14
    obtain ⟨g15, hE⟩ := hE
    refine s40 (v := A 141 (cdS A (Int.tdiv (A 91 0) 100) (lsS A (Int.tdiv (A 91 0) 100) 15)).toNat) sh141 g15 rfl (rdM (q14).1 rfl) ?_
    refine s79 ?_
    refine xG gb298.2.2.1 ?_
    refine s7 (ls' := [.ref 91, .int (oI x1), .int (oI x2), .int (oI (lsS A (Int.tdiv (A 91 0) 100) 15)), .int (oI (A 141 (cdS A (Int.tdiv (A 91 0) 100) (lsS A (Int.tdiv (A 91 0) 100) 15)).toNat))]) (Nat.le_of_ble_eq_true rfl) rfl ?_
    refine s6 (p := 91) rfl ?_
    refine s51 sh91 (by decide) (by decide) rf91_64 ?_
    refine s4 (x := x1) rfl ?_
    obtain ⟨g16, hE⟩ := hE
    refine s40 (v := A 136 x1.toNat) sh136 g16 rfl (rdM (q14).1 rfl) ?_
    refine s4 (x := A 141 (cdS A (Int.tdiv (A 91 0) 100) (lsS A (Int.tdiv (A 91 0) 100) 15)).toNat) rfl ?_
    refine s64 (inA (q14).1 (a := 136) (k := x1.toNat) rfl) (inA (q14).1 (a := 141) (k := (cdS A (Int.tdiv (A 91 0) 100) (lsS A (Int.tdiv (A 91 0) 100) 15)).toNat) rfl) (fun c17 => ?_) (fun c17 => ?_)
    · replace hE := hE.1 c17
      refine s6 (p := 91) rfl ?_
      refine s51 sh91 (by decide) (by decide) rf91_64 ?_
      refine s4 (x := x1) rfl ?_
      refine s40 (v := A 136 x1.toNat) sh136 g16 rfl (rdM (q14).1 rfl) ?_
      refine s4 (x := x2) rfl ?_
      refine s18 ?_
      refine s0 ?_
      obtain ⟨g18, hE⟩ := hE
      refine s19 g18 ⟨(inRd rfl), by decide⟩ ?_
      refine s60 ?_
      refine xG gb298.2.2.2.2 ?_
      refine s80 ?_
      exact rqI_of hE
    · replace hE := hE.2 c17
      refine xG gb298.2.2.2.1 ?_
      refine s6 (p := 91) rfl ?_
      refine s51 sh91 (by decide) (by decide) rf91_64 ?_
      refine s4 (x := x1) rfl ?_
      refine s40 (v := A 136 x1.toNat) sh136 g16 rfl (rdM (q14).1 rfl) ?_
      refine s4 (x := x2) rfl ?_
      refine s18 ?_
      refine s79 ?_
      refine xG gb298.2.2.2.2 ?_
      refine s80 ?_
      exact rqI_of hE
def h278_1 (d L : Nat) (I : Nat → Nat → Int32) (R : Nat → Nat → Option Nat) (S : List (Nat × Nat)) (Q : Option Value → mM → Prop) (x1 : Int) (x2 : Int) (x3 : Int) (x4 : Int) (w5 : Value) : Prop := Wp d (gb 278 1) [.ref 91, .int (oI x1), .int (oI x2), .int (oI x3), .int (oI x4), w5] [] (bd L I R S) Q
set_option maxRecDepth 4000 in
theorem e278_1 {d L : Nat} {I : Nat → Nat → Int32} {R : Nat → Nat → Option Nat} {S : List (Nat × Nat)} {Q : Option Value → mM → Prop} {A : aS} (hR : RM I A) {x1 : Int} {x2 : Int} {x3 : Int} {x4 : Int} {w5 : Value} (hE : inR x4 ∧ (((x4 < 6) → inR (iAnd (iShr x2 x4) 1) ∧ (((iAnd (iShr x2 x4) 1 = 0) → h278_1 (d + 26) L I R S Q x1 x2 x3 (x4 + 1) w5) ∧ (¬ (iAnd (iShr x2 x4) 1 = 0) → ∀ (I5 : mI), (Fr [150] [] I I5) → (∀ j : Nat, j < 12 → ld I5 150 j = 0) → WfC A ∧ ((0 ≤ x1 ∧ x1 ≤ 7) ∧ (∃ e10 : Nat → Int, EnvI I5 e10 ∧ (∀ (I12 : mI), (Fr [151] [(91, 87)] I5 I12) → (RM I12 A) → inR (fsS A e10 x1 14 x4) ∧ (((fsS A e10 x1 14 x4 = (-1)) → h278_1 (d + 26) L I12 R S Q x1 x2 (x3 + 1) (x4 + 1) (.int (oI (fsS A e10 x1 14 x4)))) ∧ (¬ (fsS A e10 x1 14 x4 = (-1)) → (0 ≤ fsS A e10 x1 14 x4 ∧ fsS A e10 x1 14 x4 ≤ 60) ∧ (∀ (I18 : mI), (Fr [151] [(91, 87)] I12 I18) → (RM I18 A) → (0 ≤ cdS A x1 (fsS A e10 x1 14 x4) ∧ cdS A x1 (fsS A e10 x1 14 x4) < 360) ∧ (h278_1 (d + 26) L I18 R S Q x1 x2 (x3 + (A 142 (cdS A x1 (fsS A e10 x1 14 x4)).toNat)) (x4 + 1) (.int (oI (fsS A e10 x1 14 x4))))))))))))) ∧ (¬ (x4 < 6) → Q (some (.int (oI x3))) (bd L I R S)))) : h278_1 (d + 26) L I R S Q x1 x2 x3 x4 w5 := by
  unfold h278_1
  refine xG gb278.2.1 ?_
  refine s4 (x := x4) rfl ?_
  refine s0 ?_
  obtain ⟨g1, hE⟩ := hE
  refine s64 g1 (inRd rfl) (fun c2 => ?_) (fun c2 => ?_)
  · replace hE := hE.1 c2
    refine s4 (x := x2) rfl ?_
    refine s4 (x := x4) rfl ?_
    refine s23 ?_
    refine s0 ?_
    refine s25 ?_
    obtain ⟨g3, hE⟩ := hE
    refine s68 g3 (fun c4 => ?_) (fun c4 => ?_)
    · replace hE := hE.1 c4
      refine s60 ?_
      refine xG gb278.2.2.2.2.2.1 ?_
      refine s10 (x := x4) (ls' := [.ref 91, .int (oI x1), .int (oI x2), .int (oI x3), .int (oI (x4 + 1)), w5]) rfl rfl ?_
      refine s60 ?_
      exact hE
    · replace hE := hE.2 c4
      refine xG gb278.2.2.1 ?_
      refine s6 (p := 91) rfl ?_
      refine sV rc236 rfl (Nat.le_of_ble_eq_true rfl) ?_
      refine k236R hR (fun I5 q6 q7 => ?_)
      replace hE := hE I5 q6 q7
      refine s6 (p := 91) rfl ?_
      refine s4 (x := x1) rfl ?_
      refine s0 ?_
      refine s4 (x := x4) rfl ?_
      obtain ⟨g8, hE⟩ := hE
      obtain ⟨g9, hE⟩ := hE
      obtain ⟨e10, k11, hE⟩ := hE
      refine sI rc220 rfl (Nat.le_of_ble_eq_true rfl) ?_
      refine k220 k11 (RM.fr hR q6 rfl rfl (fun _ => rfl)) g8 g9 (inRd rfl) g1 (fun I12 q13 q14 => ?_)
      replace hE := hE I12 q13 q14
      refine s7 (ls' := [.ref 91, .int (oI x1), .int (oI x2), .int (oI x3), .int (oI x4), .int (oI (fsS A e10 x1 14 x4))]) (Nat.le_of_ble_eq_true rfl) rfl ?_
      refine s4 (x := x3) rfl ?_
      refine s4 (x := fsS A e10 x1 14 x4) rfl ?_
      refine s0 ?_
      obtain ⟨g15, hE⟩ := hE
      refine s62 g15 (inRd rfl) (fun c16 => ?_) (fun c16 => ?_)
      · replace hE := hE.1 c16
        refine s0 ?_
        refine s60 ?_
        refine xG gb278.2.2.2.2.1 ?_
        refine s16 ?_
        refine s7 (ls' := [.ref 91, .int (oI x1), .int (oI x2), .int (oI (x3 + 1)), .int (oI x4), .int (oI (fsS A e10 x1 14 x4))]) (Nat.le_of_ble_eq_true rfl) rfl ?_
        refine s79 ?_
        refine xG gb278.2.2.2.2.2.1 ?_
        refine s10 (x := x4) (ls' := [.ref 91, .int (oI x1), .int (oI x2), .int (oI (x3 + 1)), .int (oI (x4 + 1)), .int (oI (fsS A e10 x1 14 x4))]) rfl rfl ?_
        refine s60 ?_
        exact hE
      · replace hE := hE.2 c16
        refine xG gb278.2.2.2.1 ?_
        refine s6 (p := 91) rfl ?_
        refine s51 sh91 (by decide) (by decide) rf91_77 ?_
        refine s6 (p := 91) rfl ?_
        refine s4 (x := x1) rfl ?_
        refine s4 (x := fsS A e10 x1 14 x4) rfl ?_
        obtain ⟨g17, hE⟩ := hE
        refine sI rc221 rfl (Nat.le_of_ble_eq_true rfl) ?_
        refine k221 q14 g8 g9 g17 (fun I18 q19 q20 => ?_)
        replace hE := hE I18 q19 q20
        obtain ⟨g21, hE⟩ := hE
        refine s40 (v := A 142 (cdS A x1 (fsS A e10 x1 14 x4)).toNat) sh142 g21 rfl (rdM (q20).1 rfl) ?_
        refine s79 ?_
        refine xG gb278.2.2.2.2.1 ?_
        refine s16 ?_
        refine s7 (ls' := [.ref 91, .int (oI x1), .int (oI x2), .int (oI (x3 + (A 142 (cdS A x1 (fsS A e10 x1 14 x4)).toNat))), .int (oI x4), .int (oI (fsS A e10 x1 14 x4))]) (Nat.le_of_ble_eq_true rfl) rfl ?_
        refine s79 ?_
        refine xG gb278.2.2.2.2.2.1 ?_
        refine s10 (x := x4) (ls' := [.ref 91, .int (oI x1), .int (oI x2), .int (oI (x3 + (A 142 (cdS A x1 (fsS A e10 x1 14 x4)).toNat))), .int (oI (x4 + 1)), .int (oI (fsS A e10 x1 14 x4))]) rfl rfl ?_
        refine s60 ?_
        exact hE
  · replace hE := hE.2 c2
    refine xG gb278.2.2.2.2.2.2 ?_
    refine s4 (x := x3) rfl ?_
    refine s80 ?_
    exact hE
set_option maxRecDepth 4000 in
theorem e278 {d L : Nat} {I : Nat → Nat → Int32} {R : Nat → Nat → Option Nat} {S : List (Nat × Nat)} {K : Int32 → mM → Prop} {A : aS} (hR : RM I A) {x1 : Int} {x2 : Int} (hE : h278_1 d L I R S (rqI K) x1 x2 0 0 mUn) : CallI d 278 [.ref 91, .int (oI x1), .int (oI x2)] (bd L I R S) K := by
  refine cI_of (ls := [.ref 91, .int (oI x1), .int (oI x2), mUn, mUn, mUn]) rfl ?_
  refine xG gb278.1 ?_
  refine s0 ?_
  refine s7 (ls' := [.ref 91, .int (oI x1), .int (oI x2), .int (oI 0), mUn, mUn]) (Nat.le_of_ble_eq_true rfl) rfl ?_
  refine s0 ?_
  refine s7 (ls' := [.ref 91, .int (oI x1), .int (oI x2), .int (oI 0), .int (oI 0), mUn]) (Nat.le_of_ble_eq_true rfl) rfl ?_
  refine s79 ?_
  exact hE
section
variable {d L : Nat} {I I0 : mI} {R : Nat → Nat → Option Nat} {S : List (Nat × Nat)} {Q : Option Value → mM → Prop} {A : aS} {c day known kind half year subj code : Int}
theorem ls_nu (hC : WfC A) {y : Int} {m s : Nat} (q4 : cdS A y m = s) : nuS A y m = A 141 s := by unfold nuS; rw [q4, Int.toNat_natCast]
theorem l261 {school m : Int} {s : Nat} (hC : WfC A) (hT : WfT A) (hs : inR school) (hy : inR year) (hcd : 0 ≤ code ∧ code ≤ 7) (hm : 0 ≤ m ∧ m ≤ 60) (q4 : cdS A code m = s) (q5 : s < 320) (hK : ∀ I1, Fr [151] [(91, 87)] I0 I1 → RM I1 A → Q (some (.int (oI (A 141 s * hnL A school year (A 91 40).toNat)))) (bd L I1 R S)) : ∀ (n t : Nat) (I : mI), t + n = (A 91 40).toNat → RM I A → Fr [151] [(91, 87)] I0 I → h261_2 (d + 27) L I R S Q school year code m (hnL A school year t) t := by
  obtain ⟨t1, t2, -⟩ := hT
  intro n
  induction n with
  | zero =>
    intro t I ht hR hf
    refine e261_2 hR ⟨⟨by omega, by omega⟩, fun h => by exfalso; omega, fun _ => ⟨hC, hcd, hm, fun I1 hf1 hR1 => ⟨by omega, ?_⟩⟩⟩
    rw [q4, Int.toNat_natCast]
    have := hK I1 (hf.trans hf1) hR1
    rw [show (A 91 40).toNat = t by omega] at this
    exact this
  | succ n ih =>
    intro t I ht hR hf
    have ih := ih (t + 1) I (by omega) hR hf
    unfold hnL at ih
    refine e261_2 hR ?_
    simp only [Int.toNat_natCast]
    refine ⟨⟨by omega, by omega⟩, fun h => ⟨by omega, hs, fun h1 => ⟨hy, ?_⟩, fun h1 => ?_⟩, fun h => by exfalso; omega⟩
    · by_cases h2 : A 122 t ≤ year
      · rw [if_pos ⟨h1, h2⟩] at ih
        rw [if_neg (by omega)]
        exact ih
      · rw [if_neg (by rintro ⟨-, b⟩; exact h2 b)] at ih
        rw [if_pos (by omega)]
        exact ih
    · rw [if_neg (by rintro ⟨a, -⟩; exact h1 a)] at ih
      exact ih
theorem k261 {K : Int32 → mM → Prop} {school : Int} (hR : RM I A) (hC : WfC A) (hT : WfT A) (hs : inR school) (hy : inR year) (hcd : 0 ≤ code ∧ code ≤ 7) (hK : ∀ I1, Fr [151] [(91, 87)] I I1 → RM I1 A → K (oI (sfS A school year code)) (bd L I1 R S)) : CallI (d + 27) 261 [.ref 91, .int (oI school), .int (oI year), .int (oI code)] (bd L I R S) K := by
  refine e261 hR ⟨hC, hcd, fun I1 hf1 hR1 => ?_⟩
  unfold sfS at hK
  rcases lsS_prop hC (y := code) (kind := 11) with q | ⟨m, s, q1, q2, q3, q4, q5, q6, q7, q8⟩
  · rw [q] at hK ⊢
    exact ⟨inRd rfl, fun _ => hK I1 hf1 hR1, fun h => absurd rfl h⟩
  · rw [q1, if_neg (by omega), ls_nu hC q4] at hK
    rw [q1]
    refine ⟨⟨by omega, by omega⟩, fun h => by exfalso; omega, fun _ => ?_⟩
    exact l261 (d := d) hC hT hs hy hcd (by omega) q4 q5 (fun I2 h1 h2 => rqI_of (hK I2 (hf1.trans h1) h2)) (A 91 40).toNat 0 I1 (by omega) hR1 (Fr.refl _ _ _)
theorem l274 {t : Int} (hC : WfC A) (hT : WfT A) (ht : 0 ≤ t ∧ t < A 91 40) (hy : 0 ≤ year ∧ year ≤ 7) (hK : ∀ I1, Fr [151] [(91, 87)] I0 I1 → RM I1 A → Q (some (.int (oI (sttS A t year)))) (bd L I1 R S)) : ∀ (n k : Nat) (I : mI) (w5 w6 w7 : Value), k + n = (year - A 122 t.toNat).toNat → RM I A → Fr [151] [(91, 87)] I0 I → h274_1 (d + 27) L I R S Q t year (spL A t k) (A 122 t.toNat + k) w5 w6 w7 := by
  obtain ⟨t1, t2, -⟩ := hT
  obtain ⟨t3, t4, t5⟩ := t2 t.toNat (by omega)
  intro n
  induction n with
  | zero =>
    intro k I w5 w6 w7 hk hR hf
    refine e274_1 hR ⟨⟨by omega, by omega⟩, ⟨by omega, by omega⟩, fun h => by exfalso; omega, fun _ => ?_⟩
    have := hK I hf hR
    unfold sttS at this
    rw [show (year - A 122 t.toNat).toNat = k by omega] at this
    exact this
  | succ n ih =>
    intro k I w5 w6 w7 hk hR hf
    have si := spL_in (A := A) (t := t) k
    have nx : ∀ (I3 : mI) (v : Int) (w5 w6 w7 : Value), RM I3 A → Fr [151] [(91, 87)] I0 I3 → v = spL A t (k + 1) → h274_1 (d + 27) L I3 R S Q t year v (A 122 t.toNat + k + 1) w5 w6 w7 := by
      intro I3 v w5 w6 w7 hR3 hf3 hv
      have q := ih (k + 1) I3 w5 w6 w7 (by omega) hR3 hf3
      rw [← hv, show (A 122 t.toNat + ((k + 1 : Nat) : Int)) = A 122 t.toNat + k + 1 by omega] at q
      exact q
    have es : spL A t (k + 1) = if ¬ A 123 (8 * t + (A 122 t.toNat + k)).toNat = -1 ∧ lnS A (A 122 t.toNat + k) 12 0 ≤ A 123 (8 * t + (A 122 t.toNat + k)).toNat then min 5 (spL A t k + 1) else spL A t k := rfl
    refine e274_1 hR ⟨⟨by omega, by omega⟩, ⟨by omega, by omega⟩, fun h => ⟨hC, by omega, fun I1 hf1 hR1 => ?_⟩, fun h => by exfalso; omega⟩
    rcases lsS_prop hC (y := A 122 t.toNat + k) (kind := 12) with q | ⟨m, s, q1, q2, q3, q4, q5, q6, q7, q8⟩
    · have en : lnS A (A 122 t.toNat + k) 12 0 = 0 := by unfold lnS; rw [if_pos q]
      rw [en] at es
      rw [q]
      refine ⟨inRd rfl, fun _ => ⟨by omega, fun h1 => nx I1 _ _ _ _ hR1 (hf.trans hf1) ?_, fun h1 => ⟨fun h2 => nx I1 _ _ _ _ hR1 (hf.trans hf1) ?_, fun h2 => ⟨⟨by omega, by omega⟩, nx I1 _ _ _ _ hR1 (hf.trans hf1) ?_⟩⟩⟩, fun h => absurd rfl h⟩
      · rw [es, if_neg (by rintro ⟨a, -⟩; exact a h1)]
      · rw [es, if_neg (by rintro ⟨-, b⟩; omega)]
      · rw [es, if_pos ⟨h1, by omega⟩]
    · have en : lnS A (A 122 t.toNat + k) 12 0 = A 141 s := by unfold lnS; rw [q1, if_neg (by omega), ls_nu hC q4]
      rw [en] at es
      rw [q1, q4, Int.toNat_natCast]
      refine ⟨⟨by omega, by omega⟩, fun h => by exfalso; omega, fun _ => ⟨by omega, fun I2 hf2 hR2 => ⟨by omega, by omega, fun h1 => nx I2 _ _ _ _ hR2 (hf.trans (hf1.trans hf2)) ?_, fun h1 => ⟨fun h2 => nx I2 _ _ _ _ hR2 (hf.trans (hf1.trans hf2)) ?_, fun h2 => ⟨⟨by omega, by omega⟩, nx I2 _ _ _ _ hR2 (hf.trans (hf1.trans hf2)) ?_⟩⟩⟩⟩⟩
      · rw [es, if_neg (by rintro ⟨a, -⟩; exact a h1)]
      · rw [es, if_neg (by rintro ⟨-, b⟩; omega)]
      · rw [es, if_pos ⟨h1, by omega⟩]
theorem k274 {K : Int32 → mM → Prop} {t : Int} (hR : RM I A) (hC : WfC A) (hT : WfT A) (ht : 0 ≤ t ∧ t < A 91 40) (hy : 0 ≤ year ∧ year ≤ 7) (hK : ∀ I1, Fr [151] [(91, 87)] I I1 → RM I1 A → K (oI (sttS A t year)) (bd L I1 R S)) : CallI (d + 27) 274 [.ref 91, .int (oI t), .int (oI year)] (bd L I R S) K := by
  have q := l274 (d := d) hC hT ht hy (fun I2 h1 h2 => rqI_of (hK I2 h1 h2)) (year - A 122 t.toNat).toNat 0 I mUn mUn mUn (by omega) hR (Fr.refl _ _ _)
  have t1 := hT.1
  refine e274 hR ⟨by omega, ?_⟩
  rw [show (A 122 t.toNat + ((0 : Nat) : Int)) = A 122 t.toNat by omega] at q
  exact q
theorem today_year (hW : WfA A) : 0 ≤ Int.tdiv (A 91 0) 100 ∧ Int.tdiv (A 91 0) 100 ≤ 7 := by
  have h := hW.1
  rw [Int.tdiv_eq_ediv_of_nonneg h.1]
  omega
theorem k298 {K : Int32 → mM → Prop} {h r : Int} (hR : RM I A) (hW : WfA A) (hC : WfC A) (hT : WfT A) (hh : 0 ≤ h ∧ h < A 91 63) (hr : 0 ≤ r ∧ r ≤ 480) (hK : ∀ I1, Fr [151] [(91, 87)] I I1 → RM I1 A → K (oI (paS A h r)) (bd L I1 R S)) : CallI (d + 27) 298 [.ref 91, .int (oI h), .int (oI r)] (bd L I R S) K := by
  have hv := hT.2.2.2.1 h.toNat (by omega)
  have hb := hT.2.2.1
  have hm : 0 ≤ A 136 h.toNat * r ∧ A 136 h.toNat * r ≤ 500 * 480 := ⟨Int.mul_nonneg (by omega) (by omega), Int.mul_le_mul hv.2 hr.2 (by omega) (by omega)⟩
  refine e298 hR ⟨hC, today_year hW, fun I1 hf1 hR1 => ?_⟩
  unfold paS at hK
  rcases lsS_prop hC (y := Int.tdiv (A 91 0) 100) (kind := 15) with q | ⟨m, s, q1, q2, q3, q4, q5, q6, q7, q8⟩
  · have esm : smS A = 0 := by unfold smS lnS; rw [if_pos q]
    rw [esm] at hK
    rw [q]
    refine ⟨inRd rfl, fun _ => ⟨by omega, fun h1 => by exfalso; omega, fun h1 => ?_⟩, fun h => absurd rfl h⟩
    rw [if_neg h1] at hK
    exact hK I1 hf1 hR1
  · have esm : smS A = A 141 s := by unfold smS lnS; rw [q1, if_neg (by omega), ls_nu hC q4]
    rw [esm] at hK
    rw [q1, q4, Int.toNat_natCast]
    refine ⟨⟨by omega, by omega⟩, fun h => by exfalso; omega, fun _ => ⟨by omega, fun I2 hf2 hR2 => ⟨by omega, by omega, fun h1 => ⟨⟨by omega, by omega⟩, ?_⟩, fun h1 => ?_⟩⟩⟩
    · rw [if_pos h1] at hK; exact hK I2 (hf1.trans hf2) hR2
    · rw [if_neg h1] at hK; exact hK I2 (hf1.trans hf2) hR2
theorem l278 {set : Int} (hC : WfC A) (hcd : 0 ≤ code ∧ code ≤ 7) (hs : inR set) (hK : ∀ I1, Fr [150, 151] [(91, 87)] I0 I1 → RM I1 A → Q (some (.int (oI (hrS A code set)))) (bd L I1 R S)) : ∀ (n k : Nat) (I : mI) (w : Value), k + n = 6 → RM I A → Fr [150, 151] [(91, 87)] I0 I → h278_1 (d + 26) L I R S Q code set (hrL A code set k) k w := by
  intro n
  induction n with
  | zero =>
    intro k I w hk hR hf
    refine e278_1 hR ⟨⟨by omega, by omega⟩, fun h => by exfalso; omega, fun _ => ?_⟩
    have := hK I hf hR
    unfold hrS at this
    rw [show k = 6 by omega]
    exact this
  | succ n ih =>
    intro k I w hk hR hf
    have es : hrL A code set (k + 1) = if iAnd (iShr set k) 1 = 0 then hrL A code set k else hrL A code set k + teS A code k := rfl
    have ki : inR (k : Int) := ⟨by omega, by omega⟩
    refine e278_1 hR ⟨ki, fun h => ⟨inR_toInt _, fun h1 => ?_, fun h1 I1 hf1 hz1 => ⟨hC, hcd, zE, EnvI.zero hz1, fun I2 hf2 hR2 => ?_⟩⟩, fun h => by exfalso; omega⟩
    · have q := ih (k + 1) I w (by omega) hR hf
      rw [es, if_pos h1] at q
      exact q
    · have fr2 : Fr [150, 151] [(91, 87)] I0 I2 := hf.trans ((hf1.sub rfl rfl).trans (hf2.sub rfl rfl))
      rw [if_neg h1] at es
      unfold teS at es
      rcases fsS_prop hC (h := zE) (y := code) (kind := 14) (key := k) with q | ⟨m, s, q1, q2, q3, q4, q5, q6, q7, q8, -⟩
      · rw [q] at es ⊢
        refine ⟨inRd rfl, fun _ => ?_, fun h => absurd rfl h⟩
        have q := ih (k + 1) I2 (.int (oI (-1))) (by omega) hR2 fr2
        rw [es, if_pos rfl] at q
        exact q
      · rw [q1, if_neg (by omega), q4, Int.toNat_natCast] at es
        rw [q1, q4, Int.toNat_natCast]
        refine ⟨⟨by omega, by omega⟩, fun h => by exfalso; omega, fun _ => ⟨by omega, fun I3 hf3 hR3 => ⟨by omega, ?_⟩⟩⟩
        have q := ih (k + 1) I3 (.int (oI (m : Int))) (by omega) hR3 (fr2.trans (hf3.sub rfl rfl))
        rw [es] at q
        exact q
theorem k278 {K : Int32 → mM → Prop} {set : Int} (hR : RM I A) (hC : WfC A) (hcd : 0 ≤ code ∧ code ≤ 7) (hs : inR set) (hK : ∀ I1, Fr [150, 151] [(91, 87)] I I1 → RM I1 A → K (oI (hrS A code set)) (bd L I1 R S)) : CallI (d + 26) 278 [.ref 91, .int (oI code), .int (oI set)] (bd L I R S) K :=
  e278 hR (l278 hC hcd hs (fun I2 h1 h2 => rqI_of (hK I2 h1 h2)) 6 0 I mUn rfl hR (Fr.refl _ _ _))
end
