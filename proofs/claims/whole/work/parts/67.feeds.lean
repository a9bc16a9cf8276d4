/-! the reference: the tape, the clauses in force -/
/-- k bytes of x more on the tape -/
def foS (A : aS) (x : Int) : Nat → aS
  | 0 => A
  | k + 1 => u2 (u2 (foS A x k) 152 ((A 91 67).toNat + k) (iB (iB (iShr x (24 - 8 * k))))) 91 67 (A 91 67 + k + 1)
theorem fo67 {A : aS} {x : Int} : ∀ k : Nat, foS A x k 91 67 = A 91 67 + k
  | 0 => (Int.add_zero _).symm
  | k + 1 => by
    show u2 _ 91 67 (A 91 67 + k + 1) 91 67 = _
    rw [v2_eq]; omega
theorem iB_in {x : Int} : inR (iB x) := inR_toInt _
def h300_1 (d L : Nat) (I : Nat → Nat → Int32) (R : Nat → Nat → Option Nat) (S : List (Nat × Nat)) (Q : Option Value → mM → Prop) (x1 : Int) (x2 : Int) : Prop := Wp d (gb 300 1) [.ref 91, .int (oI x1), .int (oI x2)] [] (bd L I R S) Q
set_option maxRecDepth 4000 in
theorem e300_1 {d L : Nat} {I : Nat → Nat → Int32} {R : Nat → Nat → Option Nat} {S : List (Nat × Nat)} {Q : Option Value → mM → Prop} {A : aS} (hR : RM I A) {x1 : Int} {x2 : Int} (hE : inR x2 ∧ (((x2 < 0) → Q none (bd L I R S)) ∧ (¬ (x2 < 0) → (0 ≤ A 91 67 ∧ A 91 67 < 800) ∧ (h300_1 d L (u2 (u2 I 152 (A 91 67).toNat (oI (iB (iB (iShr x1 x2))))) 91 67 (oI (A 91 67 + 1))) R S Q x1 (x2 + (-8)))))) : h300_1 d L I R S Q x1 x2 := by
  unfold h300_1
  refine xG gb300.2.1 ?_
  refine s4 (x := x2) rfl ?_
  obtain ⟨g1, hE⟩ := hE
  refine s69 g1 (fun c2 => ?_) (fun c2 => ?_)
  · replace hE := hE.1 c2
    refine xG gb300.2.2 ?_
    refine s83 ?_
    exact hE
  · replace hE := hE.2 c2
    refine s6 (p := 91) rfl ?_
    refine s51 sh91 (by decide) (by decide) rf91_88 ?_
    refine s6 (p := 91) rfl ?_
    refine s50 (v := A 91 67) sh91 (by decide) (by decide) (rdM hR.1 rfl) ?_
    refine s4 (x := x1) rfl ?_
    refine s4 (x := x2) rfl ?_
    refine s23 ?_
    refine s28 ?_
    obtain ⟨g3, hE⟩ := hE
    refine s45 sh152 (by decide) g3 rfl ?_
    refine s6 (p := 91) rfl ?_
    refine s13r ?_
    refine s50 (v := A 91 67) sh91 (by decide) (by decide) ((v2_ne (by decide)).trans (rdM hR.1 rfl)) ?_
    refine s0 ?_
    refine s16 ?_
    refine s52 sh91 (by decide) (by decide) ?_
    refine s10 (x := x2) (ls' := [.ref 91, .int (oI x1), .int (oI (x2 + (-8)))]) rfl rfl ?_
    refine s60 ?_
    exact hE
set_option maxRecDepth 4000 in
theorem e300 {d L : Nat} {I : Nat → Nat → Int32} {R : Nat → Nat → Option Nat} {S : List (Nat × Nat)} {K : mM → Prop} {A : aS} (hR : RM I A) {x1 : Int} (hE : h300_1 d L I R S (rqV K) x1 24) : CallV d 300 [.ref 91, .int (oI x1)] (bd L I R S) K := by
  refine cV_of (ls := [.ref 91, .int (oI x1), mUn]) rfl ?_
  refine xG gb300.1 ?_
  refine s0 ?_
  refine s7 (ls' := [.ref 91, .int (oI x1), .int (oI 24)]) (Nat.le_of_ble_eq_true rfl) rfl ?_
  refine s79 ?_
  exact hE
theorem l300 {d L : Nat} {I0 : mI} {R : Nat → Nat → Option Nat} {S : List (Nat × Nat)} {Q : Option Value → mM → Prop} {A : aS} {x : Int} (h : 0 ≤ A 91 67 ∧ A 91 67 + 4 ≤ 800) (hK : ∀ I1, FM I0 I1 → RM I1 (foS A x 4) → Q none (bd L I1 R S)) : ∀ (n k : Nat) (I : mI), k + n = 4 → FM I0 I → RM I (foS A x k) → h300_1 d L I R S Q x (24 - 8 * k) := by
  intro n
  induction n with
  | zero =>
    intro k I hk hf hR
    have e : k = 4 := by omega
    subst e
    exact e300_1 hR ⟨⟨by omega, by omega⟩, fun _ => hK I hf hR, fun h => by exfalso; omega⟩
  | succ n ih =>
    intro k I hk hf hR
    refine e300_1 hR ⟨⟨by omega, by omega⟩, fun h => by exfalso; omega, fun _ => ?_⟩
    rw [fo67 (A := A) (x := x) k]
    refine ⟨⟨by omega, by omega⟩, ?_⟩
    rw [show (24 - 8 * (k : Int) + -8) = 24 - 8 * ((k + 1 : Nat) : Int) by omega, show (A 91 67 + (k : Int)).toNat = (A 91 67).toNat + k by omega]
    exact ih (k + 1) _ (by omega) ((hf.wr (by decide)).wr (by decide)) ((hR.set 152 ((A 91 67).toNat + k) iB_in rfl).set 91 67 ⟨by omega, by omega⟩ rfl)
theorem k300 {d L : Nat} {I : mI} {R : Nat → Nat → Option Nat} {S : List (Nat × Nat)} {A : aS} {K : mM → Prop} {x : Int} (hR : RM I A) (h : 0 ≤ A 91 67 ∧ A 91 67 + 4 ≤ 800) (hK : ∀ I1, FM I I1 → RM I1 (foS A x 4) → K (bd L I1 R S)) : CallV d 300 [.ref 91, .int (oI x)] (bd L I R S) K :=
  e300 hR (l300 h (fun I1 h1 h2 => rqV_of (hK I1 h1 h2)) 4 0 I rfl (FM.refl _) hR)
set_option maxRecDepth 4000 in
theorem e299 {d L : Nat} {I : Nat → Nat → Int32} {R : Nat → Nat → Option Nat} {S : List (Nat × Nat)} {K : Int32 → mM → Prop} {A : aS} (hR : RM I A) {x1 : Int} {x2 : Int} {x3 : Int} {x4 : Int} {x5 : Int} (hE : inR (A 91 67 + 20) ∧ (((800 < A 91 67 + 20) → K (oI (-1)) (bd L I R S)) ∧ (¬ (800 < A 91 67 + 20) → inR x1 ∧ ((0 ≤ A 91 67 ∧ A 91 67 + 4 ≤ 800) ∧ (∀ (I5 : mI) (A6 : aS), (A6 = foS A x1 4) → (FM I I5) → (RM I5 A6) → inR x2 ∧ ((0 ≤ A6 91 67 ∧ A6 91 67 + 4 ≤ 800) ∧ (∀ (I12 : mI) (A13 : aS), (A13 = foS A6 x2 4) → (FM I5 I12) → (RM I12 A13) → inR x3 ∧ ((0 ≤ A13 91 67 ∧ A13 91 67 + 4 ≤ 800) ∧ (∀ (I19 : mI) (A20 : aS), (A20 = foS A13 x3 4) → (FM I12 I19) → (RM I19 A20) → inR x4 ∧ ((0 ≤ A20 91 67 ∧ A20 91 67 + 4 ≤ 800) ∧ (∀ (I26 : mI) (A27 : aS), (A27 = foS A20 x4 4) → (FM I19 I26) → (RM I26 A27) → inR x5 ∧ ((0 ≤ A27 91 67 ∧ A27 91 67 + 4 ≤ 800) ∧ (∀ (I33 : mI) (A34 : aS), (A34 = foS A27 x5 4) → (FM I26 I33) → (RM I33 A34) → K (oI (A34 91 67)) (bd L I33 R S)))))))))))))) : CallI (d + 2) 299 [.ref 91, .int (oI x1), .int (oI x2), .int (oI x3), .int (oI x4), .int (oI x5)] (bd L I R S) K := by
  refine cI_of (ls := [.ref 91, .int (oI x1), .int (oI x2), .int (oI x3), .int (oI x4), .int (oI x5)]) rfl ?_
  refine xG gb299.1 ?_
  refine s6 (p := 91) rfl ?_
  refine s50 (v := A 91 67) sh91 (by decide) (by decide) (rdM hR.1 rfl) ?_
  refine s0 ?_
  refine s16 ?_
  refine s0 ?_
  obtain ⟨g1, hE⟩ := hE
  refine s66 g1 (inRd rfl) (fun c2 => ?_) (fun c2 => ?_)
  · replace hE := hE.1 c2
    refine s0 ?_
    refine s80 ?_
    exact rqI_of hE
  · replace hE := hE.2 c2
    refine xG gb299.2 ?_
    refine s6 (p := 91) rfl ?_
    refine s4 (x := x1) rfl ?_
    obtain ⟨g3, hE⟩ := hE
    obtain ⟨g4, hE⟩ := hE
    refine sV rc300 rfl (Nat.le_of_ble_eq_true rfl) ?_
    refine k300 hR g4 (fun I5 q8 q9 => ?_)
    obtain ⟨A6, q7⟩ : ∃ a, a = foS A x1 4 := ⟨_, rfl⟩
    rw [← q7] at q9
    replace hE := hE I5 A6 q7 q8 q9
    refine s6 (p := 91) rfl ?_
    refine s4 (x := x2) rfl ?_
    obtain ⟨g10, hE⟩ := hE
    obtain ⟨g11, hE⟩ := hE
    refine sV rc300 rfl (Nat.le_of_ble_eq_true rfl) ?_
    refine k300 q9 g11 (fun I12 q15 q16 => ?_)
    obtain ⟨A13, q14⟩ : ∃ a, a = foS A6 x2 4 := ⟨_, rfl⟩
    rw [← q14] at q16
    replace hE := hE I12 A13 q14 q15 q16
    refine s6 (p := 91) rfl ?_
    refine s4 (x := x3) rfl ?_
    obtain ⟨g17, hE⟩ := hE
    obtain ⟨g18, hE⟩ := hE
    refine sV rc300 rfl (Nat.le_of_ble_eq_true rfl) ?_
    refine k300 q16 g18 (fun I19 q22 q23 => ?_)
    obtain ⟨A20, q21⟩ : ∃ a, a = foS A13 x3 4 := ⟨_, rfl⟩
    rw [← q21] at q23
    replace hE := hE I19 A20 q21 q22 q23
    refine s6 (p := 91) rfl ?_
    refine s4 (x := x4) rfl ?_
    obtain ⟨g24, hE⟩ := hE
    obtain ⟨g25, hE⟩ := hE
    refine sV rc300 rfl (Nat.le_of_ble_eq_true rfl) ?_
    refine k300 q23 g25 (fun I26 q29 q30 => ?_)
    obtain ⟨A27, q28⟩ : ∃ a, a = foS A20 x4 4 := ⟨_, rfl⟩
    rw [← q28] at q30
    replace hE := hE I26 A27 q28 q29 q30
    refine s6 (p := 91) rfl ?_
    refine s4 (x := x5) rfl ?_
    obtain ⟨g31, hE⟩ := hE
    obtain ⟨g32, hE⟩ := hE
    refine sV rc300 rfl (Nat.le_of_ble_eq_true rfl) ?_
    refine k300 q30 g32 (fun I33 q36 q37 => ?_)
    obtain ⟨A34, q35⟩ : ∃ a, a = foS A27 x5 4 := ⟨_, rfl⟩
    rw [← q35] at q37
    replace hE := hE I33 A34 q35 q36 q37
    refine s6 (p := 91) rfl ?_
    refine s50 (v := A34 91 67) sh91 (by decide) (by decide) (rdM q37.1 rfl) ?_
    refine s80 ?_
    exact rqI_of hE
/-- what stands on the tape fits -/
def WfF (A : aS) : Prop := 0 ≤ A 91 67 ∧ A 91 67 ≤ 800
def o299 (A : aS) (x1 x2 x3 x4 x5 : Int) : Int × aS := if 800 < A 91 67 + 20 then (-1, A) else (A 91 67 + 20, foS (foS (foS (foS (foS A x1 4) x2 4) x3 4) x4 4) x5 4)
theorem k299 {d L : Nat} {I : mI} {R : Nat → Nat → Option Nat} {S : List (Nat × Nat)} {A : aS} {K : Int32 → mM → Prop} {x1 x2 x3 x4 x5 : Int} (hR : RM I A) (hF : WfF A) (r1 : inR x1) (r2 : inR x2) (r3 : inR x3) (r4 : inR x4) (r5 : inR x5) (hK : ∀ I1, FM I I1 → RM I1 (o299 A x1 x2 x3 x4 x5).2 → K (oI (o299 A x1 x2 x3 x4 x5).1) (bd L I1 R S)) : CallI (d + 2) 299 [.ref 91, .int (oI x1), .int (oI x2), .int (oI x3), .int (oI x4), .int (oI x5)] (bd L I R S) K := by
  unfold WfF at hF
  refine e299 (d := d) hR ⟨⟨by omega, by omega⟩, fun c => ?_, fun c => ⟨r1, by omega, fun I1 A1 a1 f1 q1 => ?_⟩⟩
  · have ho : o299 A x1 x2 x3 x4 x5 = (-1, A) := if_pos c
    rw [ho] at hK
    exact hK I (FM.refl _) hR
  · have ho : o299 A x1 x2 x3 x4 x5 = (A 91 67 + 20, foS (foS (foS (foS (foS A x1 4) x2 4) x3 4) x4 4) x5 4) := if_neg c
    rw [ho] at hK
    have e1 : A1 91 67 = A 91 67 + (4 : Nat) := by rw [a1]; exact fo67 4
    refine ⟨r2, by omega, fun I2 A2 a2 f2 q2 => ?_⟩
    have e2 : A2 91 67 = A1 91 67 + (4 : Nat) := by rw [a2]; exact fo67 4
    refine ⟨r3, by omega, fun I3 A3 a3 f3 q3 => ?_⟩
    have e3 : A3 91 67 = A2 91 67 + (4 : Nat) := by rw [a3]; exact fo67 4
    refine ⟨r4, by omega, fun I4 A4 a4 f4 q4 => ?_⟩
    have e4 : A4 91 67 = A3 91 67 + (4 : Nat) := by rw [a4]; exact fo67 4
    refine ⟨r5, by omega, fun I5 A5 a5 f5 q5 => ?_⟩
    have e5 : A5 91 67 = A4 91 67 + (4 : Nat) := by rw [a5]; exact fo67 4
    rw [show A5 91 67 = A 91 67 + 20 by omega]
    refine hK I5 ((((f1.trans f2).trans f3).trans f4).trans f5) ?_
    rw [a5, a4, a3, a2, a1] at q5
    exact q5
def h320_2 (d L : Nat) (I : Nat → Nat → Int32) (R : Nat → Nat → Option Nat) (S : List (Nat × Nat)) (Q : Option Value → mM → Prop) (x1 : Int) (x2 : Int) (x3 : Int) (x4 : Int) (x5 : Int) (x6 : Int) (w7 : Value) : Prop := Wp d (gb 320 2) [.ref 91, .int (oI x1), .int (oI x2), .int (oI x3), .int (oI x4), .int (oI x5), .int (oI x6), w7] [] (bd L I R S) Q
set_option maxRecDepth 4000 in
theorem e320_2 {d L : Nat} {I : Nat → Nat → Int32} {R : Nat → Nat → Option Nat} {S : List (Nat × Nat)} {Q : Option Value → mM → Prop} {A : aS} (hR : RM I A) {x1 : Int} {x2 : Int} {x3 : Int} {x4 : Int} {x5 : Int} {x6 : Int} {w7 : Value} (hE : inR x6 ∧ (((60 < x6) → inR x2 ∧ (((x2 = (-1)) → Q (some (.int (oI x4))) (bd L I R S)) ∧ (¬ (x2 = (-1)) → Q (some (.int (oI (-1)))) (bd L I R S)))) ∧ (¬ (60 < x6) → WfC A ∧ ((0 ≤ x1 ∧ x1 ≤ 7) ∧ ((0 ≤ x6 ∧ x6 ≤ 60) ∧ (∀ (I8 : mI), (Fr [151] [(91, 87)] I I8) → (RM I8 A) → inR (cdS A x1 x6) ∧ (((cdS A x1 x6 = (-1)) → h320_2 (d + 2) L I8 R S Q x1 x2 x3 x4 x5 (x6 + 1) (.int (oI (cdS A x1 x6)))) ∧ (¬ (cdS A x1 x6 = (-1)) → inR x2 ∧ (((x2 = (-1)) → h320_2 (d + 2) L I8 R S Q x1 x2 x3 (x4 + 1) (x5 + (-1)) (x6 + 1) (.int (oI (cdS A x1 x6)))) ∧ (¬ (x2 = (-1)) → inR x5 ∧ (((x5 = 0) → inR x3 ∧ (((x3 = 0) → Q (some (.int (oI x6))) (bd L I8 R S)) ∧ (¬ (x3 = 0) → ((x3 = 1) → Q (some (.int (oI (Int.tdiv (cdS A x1 x6) 40)))) (bd L I8 R S)) ∧ (¬ (x3 = 1) → Q (some (.int (oI (-1)))) (bd L I8 R S))))) ∧ (¬ (x5 = 0) → h320_2 (d + 2) L I8 R S Q x1 x2 x3 (x4 + 1) (x5 + (-1)) (x6 + 1) (.int (oI (cdS A x1 x6))))))))))))))) : h320_2 (d + 2) L I R S Q x1 x2 x3 x4 x5 x6 w7 := by
  unfold h320_2
  refine xG gb320.2.2.1 ?_
  refine s4 (x := x6) rfl ?_
  refine s0 ?_
  obtain ⟨g1, hE⟩ := hE
  refine s65 g1 (inRd rfl) (fun c2 => ?_) (fun c2 => ?_)
  · replace hE := hE.1 c2
    refine xG gb320.2.2.2.2.2.2.2.2.2.1 ?_
    refine s4 (x := x2) rfl ?_
    refine s0 ?_
    obtain ⟨g3, hE⟩ := hE
    refine s62 g3 (inRd rfl) (fun c4 => ?_) (fun c4 => ?_)
    · replace hE := hE.1 c4
      refine s4 (x := x4) rfl ?_
      refine s60 ?_
      refine xG gb320.2.2.2.2.2.2.2.2.2.2.2 ?_
      refine s80 ?_
      exact hE
    · replace hE := hE.2 c4
      refine xG gb320.2.2.2.2.2.2.2.2.2.2.1 ?_
      refine s0 ?_
      refine s79 ?_
      refine xG gb320.2.2.2.2.2.2.2.2.2.2.2 ?_
      refine s80 ?_
      exact hE
  · replace hE := hE.2 c2
    refine s6 (p := 91) rfl ?_
    refine s4 (x := x1) rfl ?_
    refine s4 (x := x6) rfl ?_
    obtain ⟨g5, hE⟩ := hE
    obtain ⟨g6, hE⟩ := hE
    obtain ⟨g7, hE⟩ := hE
    refine sI rc221 rfl (Nat.le_of_ble_eq_true rfl) ?_
    refine k221 hR g5 g6 g7 (fun I8 q9 q10 => ?_)
    replace hE := hE I8 q9 q10
    refine s7 (ls' := [.ref 91, .int (oI x1), .int (oI x2), .int (oI x3), .int (oI x4), .int (oI x5), .int (oI x6), .int (oI (cdS A x1 x6))]) (Nat.le_of_ble_eq_true rfl) rfl ?_
    refine s4 (x := cdS A x1 x6) rfl ?_
    refine s0 ?_
    obtain ⟨g11, hE⟩ := hE
    refine s62 g11 (inRd rfl) (fun c12 => ?_) (fun c12 => ?_)
    · replace hE := hE.1 c12
      refine s60 ?_
      refine xG gb320.2.2.2.2.2.2.2.2.1 ?_
      refine s10 (x := x6) (ls' := [.ref 91, .int (oI x1), .int (oI x2), .int (oI x3), .int (oI x4), .int (oI x5), .int (oI (x6 + 1)), .int (oI (cdS A x1 x6))]) rfl rfl ?_
      refine s60 ?_
      exact hE
    · replace hE := hE.2 c12
      refine xG gb320.2.2.2.1 ?_
      refine s4 (x := x2) rfl ?_
      refine s0 ?_
      obtain ⟨g13, hE⟩ := hE
      refine s61 g13 (inRd rfl) (fun c14 => ?_) (fun c14 => ?_)
      · replace hE := hE.1 c14
        refine xG gb320.2.2.2.2.2.2.2.1 ?_
        refine s10 (x := x5) (ls' := [.ref 91, .int (oI x1), .int (oI x2), .int (oI x3), .int (oI x4), .int (oI (x5 + (-1))), .int (oI x6), .int (oI (cdS A x1 x6))]) rfl rfl ?_
        refine s10 (x := x4) (ls' := [.ref 91, .int (oI x1), .int (oI x2), .int (oI x3), .int (oI (x4 + 1)), .int (oI (x5 + (-1))), .int (oI x6), .int (oI (cdS A x1 x6))]) rfl rfl ?_
        refine s79 ?_
        refine xG gb320.2.2.2.2.2.2.2.2.1 ?_
        refine s10 (x := x6) (ls' := [.ref 91, .int (oI x1), .int (oI x2), .int (oI x3), .int (oI (x4 + 1)), .int (oI (x5 + (-1))), .int (oI (x6 + 1)), .int (oI (cdS A x1 x6))]) rfl rfl ?_
        refine s60 ?_
        exact hE
      · replace hE := hE.2 c14
        refine s4 (x := x5) rfl ?_
        obtain ⟨g15, hE⟩ := hE
        refine s68 g15 (fun c16 => ?_) (fun c16 => ?_)
        · replace hE := hE.1 c16
          refine s4 (x := x3) rfl ?_
          obtain ⟨g17, hE⟩ := hE
          refine s68 g17 (fun c18 => ?_) (fun c18 => ?_)
          · replace hE := hE.1 c18
            refine s4 (x := x6) rfl ?_
            refine s60 ?_
            refine xG gb320.2.2.2.2.2.2.1 ?_
            refine s80 ?_
            exact hE
          · replace hE := hE.2 c18
            refine xG gb320.2.2.2.2.1 ?_
            refine s4 (x := x3) rfl ?_
            refine s0 ?_
            refine s62 g17 (inRd rfl) (fun c19 => ?_) (fun c19 => ?_)
            · replace hE := hE.1 c19
              refine s4 (x := cdS A x1 x6) rfl ?_
              refine s0 ?_
              refine s19 g11 ⟨(inRd rfl), by decide⟩ ?_
              refine s60 ?_
              refine xG gb320.2.2.2.2.2.2.1 ?_
              refine s80 ?_
              exact hE
            · replace hE := hE.2 c19
              refine xG gb320.2.2.2.2.2.1 ?_
              refine s0 ?_
              refine s79 ?_
              refine xG gb320.2.2.2.2.2.2.1 ?_
              refine s80 ?_
              exact hE
        · replace hE := hE.2 c16
          refine xG gb320.2.2.2.2.2.2.2.1 ?_
          refine s10 (x := x5) (ls' := [.ref 91, .int (oI x1), .int (oI x2), .int (oI x3), .int (oI x4), .int (oI (x5 + (-1))), .int (oI x6), .int (oI (cdS A x1 x6))]) rfl rfl ?_
          refine s10 (x := x4) (ls' := [.ref 91, .int (oI x1), .int (oI x2), .int (oI x3), .int (oI (x4 + 1)), .int (oI (x5 + (-1))), .int (oI x6), .int (oI (cdS A x1 x6))]) rfl rfl ?_
          refine s79 ?_
          refine xG gb320.2.2.2.2.2.2.2.2.1 ?_
          refine s10 (x := x6) (ls' := [.ref 91, .int (oI x1), .int (oI x2), .int (oI x3), .int (oI (x4 + 1)), .int (oI (x5 + (-1))), .int (oI (x6 + 1)), .int (oI (cdS A x1 x6))]) rfl rfl ?_
          refine s60 ?_
          exact hE
set_option maxRecDepth 4000 in
theorem e320 {d L : Nat} {I : Nat → Nat → Int32} {R : Nat → Nat → Option Nat} {S : List (Nat × Nat)} {K : Int32 → mM → Prop} {A : aS} (hR : RM I A) {x1 : Int} {x2 : Int} {x3 : Int} (hE : inR x1 ∧ (((0 ≤ x1 ∧ x1 ≤ 7) → h320_2 (d + 2) L I R S (rqI K) x1 x2 x3 0 x2 1 mUn) ∧ (¬ (0 ≤ x1 ∧ x1 ≤ 7) → K (oI (-1)) (bd L I R S)))) : CallI (d + 2) 320 [.ref 91, .int (oI x1), .int (oI x2), .int (oI x3)] (bd L I R S) K := by
  refine cI_of (ls := [.ref 91, .int (oI x1), .int (oI x2), .int (oI x3), mUn, mUn, mUn, mUn]) rfl ?_
  refine xG gb320.1 ?_
  refine s4 (x := x1) rfl ?_
  refine sI rc250 rfl (Nat.le_of_ble_eq_true rfl) ?_
  refine cI_of (ls := [.int (oI x1)]) rfl ?_
  refine xG gb250 ?_
  refine s4 (x := x1) rfl ?_
  refine s0 ?_
  refine s0 ?_
  obtain ⟨g1, hE⟩ := hE
  refine sI rc210 rfl (Nat.le_of_ble_eq_true rfl) ?_
  refine k210 g1 (inRd rfl) (inRd rfl) (fun c2 => ?_) (fun c2 => ?_)
  · replace hE := hE.1 c2
    refine s84 (by decide) ?_
    refine rqI_of ?_
    refine s68 (inRd rfl) (fun c3 => absurd c3 (by decide)) (fun _ => ?_)
    refine xG gb320.2.1 ?_
    refine s0 ?_
    refine s7 (ls' := [.ref 91, .int (oI x1), .int (oI x2), .int (oI x3), .int (oI 0), mUn, mUn, mUn]) (Nat.le_of_ble_eq_true rfl) rfl ?_
    refine s4 (x := x2) rfl ?_
    refine s7 (ls' := [.ref 91, .int (oI x1), .int (oI x2), .int (oI x3), .int (oI 0), .int (oI x2), mUn, mUn]) (Nat.le_of_ble_eq_true rfl) rfl ?_
    refine s0 ?_
    refine s7 (ls' := [.ref 91, .int (oI x1), .int (oI x2), .int (oI x3), .int (oI 0), .int (oI x2), .int (oI 1), mUn]) (Nat.le_of_ble_eq_true rfl) rfl ?_
    refine s79 ?_
    exact hE
  · replace hE := hE.2 c2
    refine s84 (by decide) ?_
    refine rqI_of ?_
    refine s68 (inRd rfl) (fun _ => ?_) (fun c4 => absurd (by decide) c4)
    refine s0 ?_
    refine s80 ?_
    exact rqI_of hE
noncomputable def clF (A : aS) (y k what : Int) : Nat → Int → Int → Int → Int
  | 0, _, n, _ => if k = -1 then n else -1
  | f + 1, c, n, left => if cdS A y c = -1 then clF A y k what f (c + 1) n left else if k = -1 then clF A y k what f (c + 1) (n + 1) (left - 1) else if left = 0 then (if what = 0 then c else if what = 1 then Int.tdiv (cdS A y c) 40 else -1) else clF A y k what f (c + 1) (n + 1) (left - 1)
noncomputable def clauseA (A : aS) (y k what : Int) : Int := if 0 ≤ y ∧ y ≤ 7 then clF A y k what 60 1 0 k else -1
def wr (z : Int) : Int := (oI z).toInt
theorem oI_wr (z : Int) : oI (wr z) = oI z := Int32.ofInt_toInt _
theorem wr_in (z : Int) : inR (wr z) := inR_toInt _
theorem wr_0 {z : Int} (h : -2147483648 - 100 ≤ z ∧ z ≤ 2147483647) : wr z = 0 ↔ z = 0 := by
  have e : wr z = Int.bmod z (2 ^ 32) := Int32.toInt_ofInt ..
  rw [e, Int.bmod_def]
  omega
theorem h320_eq {d L : Nat} {R : Nat → Nat → Option Nat} {S : List (Nat × Nat)} {Q : Option Value → mM → Prop} {I : mI} {a b c n x x' k : Int} {w : Value} (h : oI x = oI x') (hh : h320_2 d L I R S Q a b c n x k w) : h320_2 d L I R S Q a b c n x' k w := by
  unfold h320_2 at hh ⊢
  rw [← h]; exact hh
theorem l320 {d L : Nat} {I0 : mI} {R : Nat → Nat → Option Nat} {S : List (Nat × Nat)} {Q : Option Value → mM → Prop} {A : aS} {y k what : Int} (hC : WfC A) (hy : 0 ≤ y ∧ y ≤ 7) (hk : inR k) (hw : inR what) {v : Int} (hK : ∀ I1, FM I0 I1 → RM I1 A → Q (some (.int (oI v))) (bd L I1 R S)) : ∀ (f c n : Nat) (I : mI) (w7 : Value), c + f = 61 → n < c → FM I0 I → RM I A → clF A y k what f c n (k - n) = v → h320_2 (d + 2) L I R S Q y k what n (wr (k - n)) c w7 := by
  have hk2 := hk
  unfold inR at hk2
  intro f
  induction f with
  | zero =>
    intro c n I w7 hc hn hf hR hv
    have ev : (if k = -1 then (n : Int) else -1) = v := hv
    refine e320_2 hR ⟨⟨by omega, by omega⟩, fun _ => ⟨hk, fun q => ?_, fun q => ?_⟩, fun h => by exfalso; omega⟩
    · rw [if_pos q] at ev; rw [ev]; exact hK I hf hR
    · rw [if_neg q] at ev; rw [ev]; exact hK I hf hR
  | succ f ih =>
    intro c n I w7 hc hn hf hR hv
    have ev : (if cdS A y c = -1 then clF A y k what f (c + 1) n (k - n) else if k = -1 then clF A y k what f (c + 1) (n + 1) (k - n - 1) else if k - n = 0 then (if what = 0 then (c : Int) else if what = 1 then Int.tdiv (cdS A y c) 40 else -1) else clF A y k what f (c + 1) (n + 1) (k - n - 1)) = v := hv
    have ci := cdS_in hC (y := y) (n := (c : Int))
    have z0 := wr_0 (z := k - n) (by omega)
    refine e320_2 hR ⟨⟨by omega, by omega⟩, fun h => by exfalso; omega, fun _ => ⟨hC, hy, by omega, fun I1 hf1 hR1 => ⟨⟨by omega, by omega⟩, fun q => ?_, fun q => ⟨hk, fun q2 => ?_, fun q2 => ⟨wr_in _, fun q3 => ⟨hw, fun q4 => ?_, fun q4 => ⟨fun q5 => ?_, fun q5 => ?_⟩⟩, fun q3 => ?_⟩⟩⟩⟩⟩
    · rw [if_pos q] at ev
      exact ih (c + 1) n I1 _ (by omega) (by omega) (hf.trans (hf1.FM rfl)) hR1 ev
    · rw [if_neg q, if_pos q2] at ev
      refine h320_eq (x := wr (k - ((n + 1 : Nat) : Int))) ?_ (ih (c + 1) (n + 1) I1 _ (by omega) (by omega) (hf.trans (hf1.FM rfl)) hR1 ?_)
      · rw [oI_wr, ← oI_add, oI_wr, oI_add]; congr 1; omega
      · rw [show k - ((n + 1 : Nat) : Int) = k - n - 1 by omega]; exact ev
    · rw [if_neg q, if_neg q2, if_pos (z0.mp q3), if_pos q4] at ev
      rw [ev]; exact hK I1 (hf.trans (hf1.FM rfl)) hR1
    · rw [if_neg q, if_neg q2, if_pos (z0.mp q3), if_neg q4, if_pos q5] at ev
      rw [ev]; exact hK I1 (hf.trans (hf1.FM rfl)) hR1
    · rw [if_neg q, if_neg q2, if_pos (z0.mp q3), if_neg q4, if_neg q5] at ev
      rw [ev]; exact hK I1 (hf.trans (hf1.FM rfl)) hR1
    · rw [if_neg q, if_neg q2, if_neg (fun h => q3 (z0.mpr h))] at ev
      refine h320_eq (x := wr (k - ((n + 1 : Nat) : Int))) ?_ (ih (c + 1) (n + 1) I1 _ (by omega) (by omega) (hf.trans (hf1.FM rfl)) hR1 ?_)
      · rw [oI_wr, ← oI_add, oI_wr, oI_add]; congr 1; omega
      · rw [show k - ((n + 1 : Nat) : Int) = k - n - 1 by omega]; exact ev
theorem k320 {d L : Nat} {I : mI} {R : Nat → Nat → Option Nat} {S : List (Nat × Nat)} {A : aS} {K : Int32 → mM → Prop} {y k what : Int} (hR : RM I A) (hC : WfC A) (r1 : inR y) (r2 : inR k) (r3 : inR what) (hK : ∀ I1, FM I I1 → RM I1 A → K (oI (clauseA A y k what)) (bd L I1 R S)) : CallI (d + 2) 320 [.ref 91, .int (oI y), .int (oI k), .int (oI what)] (bd L I R S) K := by
  refine e320 (d := d) hR ⟨r1, fun c => ?_, fun c => ?_⟩
  · have e : clauseA A y k what = clF A y k what 60 1 0 k := if_pos c
    rw [e] at hK
    refine h320_eq (x := wr (k - ((0 : Nat) : Int))) ?_ (l320 (d := d) (I0 := I) hC c r2 r3 (fun I1 h1 h2 => rqI_of (hK I1 h1 h2)) 60 1 0 I mUn rfl (by decide) (FM.refl _) hR ?_)
    · rw [oI_wr]; congr 1; omega
    · rw [show k - ((0 : Nat) : Int) = k by omega]; rfl
  · have e : clauseA A y k what = -1 := if_neg c
    rw [e] at hK
    exact hK I (FM.refl _) hR
