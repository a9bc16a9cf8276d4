def h234_1 (d L : Nat) (I : Nat → Nat → Int32) (R : Nat → Nat → Option Nat) (S : List (Nat × Nat)) (Q : Option Value → mM → Prop) (x1 : Int) (x2 : Int) (x3 : Int) (w4 : Value) (x5 : Int) (x6 : Int) (x7 : Int) (w8 : Value) : Prop := Wp d (gb 234 1) [.ref 91, .int (oI x1), .int (oI x2), .int (oI x3), w4, .int (oI x5), .int (oI x6), .int (oI x7), w8] [] (bd L I R S) Q
set_option maxRecDepth 4000 in
theorem e234_1 {d L : Nat} {I : Nat → Nat → Int32} {R : Nat → Nat → Option Nat} {S : List (Nat × Nat)} {Q : Option Value → mM → Prop} {A : aS} (hR : RM I A) {x1 : Int} {x2 : Int} {x3 : Int} {w4 : Value} {x5 : Int} {x6 : Int} {x7 : Int} {w8 : Value} (hE : inR x7 ∧ (((x7 < 6) → WfN A ∧ (inR x1 ∧ (inR x2 ∧ (inR x5 ∧ (inR (rsS A x1 x2 x7 x5) ∧ (((rsS A x1 x2 x7 x5 = (-1)) → h234_1 (d + 27) L I R S Q x1 x2 x3 w4 x5 x6 (x7 + 1) (.int (oI (rsS A x1 x2 x7 x5)))) ∧ (¬ (rsS A x1 x2 x7 x5 = (-1)) → WfC A ∧ ((0 ≤ x3 ∧ x3 ≤ 7) ∧ (∃ e9 : Nat → Int, EnvI I e9 ∧ e9 9 = 0 ∧ e9 10 = 0 ∧ (((wpS A e9 x3 x7 (rsS A x1 x2 x7 x5) = true) → ∀ (I16 : mI), (Fr [150, 151] [(91, 87)] I I16) → (RM I16 A) → (EnvI I16 e9) → h234_1 (d + 27) L I16 R S Q x1 x2 x3 w4 x5 (iOr x6 (iShl 1 x7)) (x7 + 1) (.int (oI (rsS A x1 x2 x7 x5)))) ∧ (¬ (wpS A e9 x3 x7 (rsS A x1 x2 x7 x5) = true) → ∀ (I16 : mI), (Fr [150, 151] [(91, 87)] I I16) → (RM I16 A) → (EnvI I16 e9) → h234_1 (d + 27) L I16 R S Q x1 x2 x3 w4 x5 x6 (x7 + 1) (.int (oI (rsS A x1 x2 x7 x5)))))))))))))) ∧ (¬ (x7 < 6) → Q (some (.int (oI x6))) (bd L I R S)))) : h234_1 (d + 27) L I R S Q x1 x2 x3 w4 x5 x6 x7 w8 := by
  unfold h234_1
  refine xG gb234.2.1 ?_
  refine s4 (x := x7) rfl ?_
  refine s0 ?_
  obtain ⟨g1, hE⟩ := hE
  refine s64 g1 (inRd rfl) (fun c2 => ?_) (fun c2 => ?_)
  · replace hE := hE.1 c2
    refine s6 (p := 91) rfl ?_
    refine s4 (x := x1) rfl ?_
    refine s4 (x := x2) rfl ?_
    refine s4 (x := x7) rfl ?_
    refine s4 (x := x5) rfl ?_
    obtain ⟨g3, hE⟩ := hE
    obtain ⟨g4, hE⟩ := hE
    obtain ⟨g5, hE⟩ := hE
    obtain ⟨g6, hE⟩ := hE
    refine sI rc239 rfl (Nat.le_of_ble_eq_true rfl) ?_
    refine k239 hR.1 g3 g4 g5 g1 g6 ?_
    refine s7 (ls' := [.ref 91, .int (oI x1), .int (oI x2), .int (oI x3), w4, .int (oI x5), .int (oI x6), .int (oI x7), .int (oI (rsS A x1 x2 x7 x5))]) (Nat.le_of_ble_eq_true rfl) rfl ?_
    refine s4 (x := rsS A x1 x2 x7 x5) rfl ?_
    refine s0 ?_
    obtain ⟨g7, hE⟩ := hE
    refine s61 g7 (inRd rfl) (fun c8 => ?_) (fun c8 => ?_)
    · replace hE := hE.1 c8
      refine xG gb234.2.2.1 ?_
      refine s10 (x := x7) (ls' := [.ref 91, .int (oI x1), .int (oI x2), .int (oI x3), w4, .int (oI x5), .int (oI x6), .int (oI (x7 + 1)), .int (oI (rsS A x1 x2 x7 x5))]) rfl rfl ?_
      refine s60 ?_
      exact hE
    · replace hE := hE.2 c8
      refine s6 (p := 91) rfl ?_
      refine s4 (x := x3) rfl ?_
      refine s4 (x := x7) rfl ?_
      refine s4 (x := rsS A x1 x2 x7 x5) rfl ?_
      obtain ⟨g13, hE⟩ := hE
      obtain ⟨g14, hE⟩ := hE
      obtain ⟨e9, k10, k11, k12, hE⟩ := hE
      refine sI rc240 rfl (Nat.le_of_ble_eq_true rfl) ?_
      refine k240 k10 k11 k12 hR g13 g14 g1 g7 (fun c15 I16 q17 q18 q19 => ?_) (fun c15 I16 q17 q18 q19 => ?_)
      · replace hE := hE.1 c15 I16 q17 q18 q19
        refine s67 (inRd rfl) (fun c20 => absurd c20 (by decide)) (fun _ => ?_)
        refine s4 (x := x6) rfl ?_
        refine s0 ?_
        refine s4 (x := x7) rfl ?_
        refine s22 ?_
        refine s26 ?_
        refine s7 (ls' := [.ref 91, .int (oI x1), .int (oI x2), .int (oI x3), w4, .int (oI x5), .int (oI (iOr x6 (iShl 1 x7))), .int (oI x7), .int (oI (rsS A x1 x2 x7 x5))]) (Nat.le_of_ble_eq_true rfl) rfl ?_
        refine s79 ?_
        refine xG gb234.2.2.1 ?_
        refine s10 (x := x7) (ls' := [.ref 91, .int (oI x1), .int (oI x2), .int (oI x3), w4, .int (oI x5), .int (oI (iOr x6 (iShl 1 x7))), .int (oI (x7 + 1)), .int (oI (rsS A x1 x2 x7 x5))]) rfl rfl ?_
        refine s60 ?_
        exact hE
      · replace hE := hE.2 c15 I16 q17 q18 q19
        refine s67 (inRd rfl) (fun _ => ?_) (fun c21 => absurd (by decide) c21)
        refine xG gb234.2.2.1 ?_
        refine s10 (x := x7) (ls' := [.ref 91, .int (oI x1), .int (oI x2), .int (oI x3), w4, .int (oI x5), .int (oI x6), .int (oI (x7 + 1)), .int (oI (rsS A x1 x2 x7 x5))]) rfl rfl ?_
        refine s60 ?_
        exact hE
  · replace hE := hE.2 c2
    refine xG gb234.2.2.2 ?_
    refine s4 (x := x6) rfl ?_
    refine s80 ?_
    exact hE
set_option maxRecDepth 4000 in
theorem e234 {d L : Nat} {I : Nat → Nat → Int32} {R : Nat → Nat → Option Nat} {S : List (Nat × Nat)} {K : Int32 → mM → Prop} {A : aS} (hR : RM I A) {x1 : Int} {x2 : Int} {x3 : Int} {x4 : Int} {x5 : Int} (hE : WfA A ∧ (WfP A ∧ ((0 ≤ x1 ∧ x1 < A 91 1) ∧ ((0 ≤ x2 ∧ x2 ≤ 7) ∧ (inR x4 ∧ (inR x5 ∧ (∀ (I7 : mI), (Fr [150] [] I I7) → (EnvI I7 (psE A x1 x2 x4 x5)) → h234_1 (d + 3) L I7 R S (rqI K) x1 x2 x3 (.int (oI x4)) x5 0 0 mUn))))))) : CallI (d + 3) 234 [.ref 91, .int (oI x1), .int (oI x2), .int (oI x3), .int (oI x4), .int (oI x5)] (bd L I R S) K := by
  refine cI_of (ls := [.ref 91, .int (oI x1), .int (oI x2), .int (oI x3), .int (oI x4), .int (oI x5), mUn, mUn, mUn]) rfl ?_
  refine xG gb234.1 ?_
  refine s6 (p := 91) rfl ?_
  refine s4 (x := x1) rfl ?_
  refine s4 (x := x2) rfl ?_
  refine s4 (x := x4) rfl ?_
  refine s4 (x := x5) rfl ?_
  obtain ⟨g1, hE⟩ := hE
  obtain ⟨g2, hE⟩ := hE
  obtain ⟨g3, hE⟩ := hE
  obtain ⟨g4, hE⟩ := hE
  obtain ⟨g5, hE⟩ := hE
  obtain ⟨g6, hE⟩ := hE
  refine sV rc235 rfl (Nat.le_of_ble_eq_true rfl) ?_
  refine k235 hR g1 g2 g3 g4 g5 g6 (fun I7 q8 q9 => ?_)
  replace hE := hE I7 q8 q9
  refine s0 ?_
  refine s7 (ls' := [.ref 91, .int (oI x1), .int (oI x2), .int (oI x3), .int (oI x4), .int (oI x5), .int (oI 0), mUn, mUn]) (Nat.le_of_ble_eq_true rfl) rfl ?_
  refine s0 ?_
  refine s7 (ls' := [.ref 91, .int (oI x1), .int (oI x2), .int (oI x3), .int (oI x4), .int (oI x5), .int (oI 0), .int (oI 0), mUn]) (Nat.le_of_ble_eq_true rfl) rfl ?_
  refine s79 ?_
  exact hE
section
variable {d L : Nat} {I I0 : mI} {R : Nat → Nat → Option Nat} {S : List (Nat × Nat)} {Q : Option Value → mM → Prop} {A : aS} {c day known kind half year subj code : Int}
theorem psE_9 {std : Int} : psE A c year std known 9 = 0 := rfl
theorem psE_10 {std : Int} : psE A c year std known 10 = 0 := rfl
theorem rsL_in (hM : RelM I A) : ∀ k, inR (rsL A c year subj known k)
  | 0 => inRd rfl
  | k + 1 => by unfold rsL; split; exact inA hM rfl; exact rsL_in hM k
theorem l234 {h : Nat → Int} {std : Int} (h9 : h 9 = 0) (h10 : h 10 = 0) (hW : WfA A) (hC : WfC A) (hc : inR c) (hy : inR year) (hcd : 0 ≤ code ∧ code ≤ 7) (hkn : inR known) (hK : ∀ I1, Fr [150, 151] [(91, 87)] I0 I1 → RM I1 A → EnvI I1 h → Q (some (.int (oI (psL A h c year code known 6)))) (bd L I1 R S)) : ∀ (n k : Nat) (I : mI) (w4 w8 : Value), k + n = 6 → RM I A → Fr [150, 151] [(91, 87)] I0 I → EnvI I h → h234_1 (d + 27) L I R S Q c year code w4 known (psL A h c year code known k) k w8 := by
  intro n
  induction n with
  | zero =>
    intro k I w4 w8 hk hR hf he
    refine e234_1 hR ⟨⟨by omega, by omega⟩, fun h => by exfalso; omega, fun _ => ?_⟩
    rw [show k = 6 by omega]
    exact hK I hf hR he
  | succ n ih =>
    intro k I w4 w8 hk hR hf he
    have ki : inR (k : Int) := ⟨by omega, by omega⟩
    refine e234_1 hR ⟨ki, fun _ => ⟨hW.2.2.2.1, hc, hy, hkn, rsL_in hR.1 _, fun h1 => ?_, fun h1 => ⟨hC, hcd, h, he, h9, h10, fun h2 I1 hf1 hR1 he1 => ?_, fun h2 I1 hf1 hR1 he1 => ?_⟩⟩, fun h => by exfalso; omega⟩
    · have q := ih (k + 1) I w4 (.int (oI (rsS A c year k known))) (by omega) hR hf he
      rw [psL_no (by rintro ⟨a, b⟩; exact a h1)] at q
      exact q
    · have q := ih (k + 1) I1 w4 (.int (oI (rsS A c year k known))) (by omega) hR1 (hf.trans hf1) he1
      rw [psL_yes ⟨h1, h2⟩] at q
      exact q
    · have q := ih (k + 1) I1 w4 (.int (oI (rsS A c year k known))) (by omega) hR1 (hf.trans hf1) he1
      rw [psL_no (by rintro ⟨a, b⟩; exact h2 b)] at q
      exact q
theorem k234 {K : Int32 → mM → Prop} {std : Int} (hR : RM I A) (hW : WfA A) (hC : WfC A) (hP : WfP A) (hc : 0 ≤ c ∧ c < A 91 1) (hy : 0 ≤ year ∧ year ≤ 7) (hcd : 0 ≤ code ∧ code ≤ 7) (hst : inR std) (hkn : inR known) (hK : ∀ I1, Fr [150, 151] [(91, 87)] I I1 → RM I1 A → EnvI I1 (psE A c year std known) → K (oI (psS A c year code std known)) (bd L I1 R S)) : CallI (d + 27) 234 [.ref 91, .int (oI c), .int (oI year), .int (oI code), .int (oI std), .int (oI known)] (bd L I R S) K := by
  have hW1 := hW.2.1
  refine e234 (d := d + 24) hR ⟨hW, hP, hc, hy, hst, hkn, fun I1 hf1 he1 => ?_⟩
  exact l234 (std := std) rfl rfl hW hC ⟨by omega, by omega⟩ ⟨by omega, by omega⟩ hcd hkn (fun I2 h1 h2 h3 => rqI_of (hK I2 ((hf1.sub rfl rfl).trans h1) h2 h3)) 6 0 I1 _ _ rfl (hR.fr hf1 rfl rfl (fun _ => rfl)) (Fr.refl _ _ _) he1
end
def h233_1 (d L : Nat) (I : Nat → Nat → Int32) (R : Nat → Nat → Option Nat) (S : List (Nat × Nat)) (Q : Option Value → mM → Prop) (x1 : Int) (x2 : Int) (x3 : Int) (x4 : Int) (x5 : Int) (w6 : Value) (w7 : Value) : Prop := Wp d (gb 233 1) [.ref 91, .int (oI x1), .int (oI x2), .int (oI x3), .int (oI x4), .int (oI x5), w6, w7] [] (bd L I R S) Q
set_option maxRecDepth 4000 in
theorem e233_1 {d L : Nat} {I : Nat → Nat → Int32} {R : Nat → Nat → Option Nat} {S : List (Nat × Nat)} {Q : Option Value → mM → Prop} {A : aS} (hR : RM I A) {x1 : Int} {x2 : Int} {x3 : Int} {x4 : Int} {x5 : Int} {w6 : Value} {w7 : Value} (hE : inR x5 ∧ (inR x2 ∧ (((x5 < x2) → WfA A ∧ (WfC A ∧ (WfP A ∧ ((0 ≤ x1 ∧ x1 < A 91 1) ∧ ((0 ≤ x5 ∧ x5 ≤ 7) ∧ (inR x4 ∧ (inR x3 ∧ (∀ (I11 : mI), (Fr [150, 151] [(91, 87)] I I11) → (RM I11 A) → (EnvI I11 (psE A x1 x5 x4 x3)) → (0 ≤ psS A x1 x5 x5 x4 x3 ∧ psS A x1 x5 x5 x4 x3 < 1024) ∧ (∃ e16 : Nat → Int, EnvI (u2 I11 150 7 (oI (btS (psS A x1 x5 x5 x4 x3)))) e16 ∧ (∀ (I18 : mI), (Fr [151] [(91, 87)] (u2 I11 150 7 (oI (btS (psS A x1 x5 x5 x4 x3)))) I18) → (RM I18 A) → inR (fsS A e16 x5 5 (-1)) ∧ (((fsS A e16 x5 5 (-1) = (-1)) → h233_1 (d + 28) L I18 R S Q x1 x2 x3 x4 (x5 + 1) (.int (oI (btS (psS A x1 x5 x5 x4 x3)))) (.int (oI (fsS A e16 x5 5 (-1))))) ∧ (¬ (fsS A e16 x5 5 (-1) = (-1)) → (0 ≤ fsS A e16 x5 5 (-1) ∧ fsS A e16 x5 5 (-1) ≤ 60) ∧ (∀ (I24 : mI), (Fr [151] [(91, 87)] I18 I24) → (RM I24 A) → (0 ≤ cdS A x5 (fsS A e16 x5 5 (-1)) ∧ cdS A x5 (fsS A e16 x5 5 (-1)) < 360) ∧ (inR (btS (psS A x1 x5 x5 x4 x3)) ∧ (((btS (psS A x1 x5 x5 x4 x3) < A 141 (cdS A x5 (fsS A e16 x5 5 (-1))).toNat) → h233_1 (d + 28) L I24 R S Q x1 x2 x3 x4 (x5 + 1) (.int (oI (btS (psS A x1 x5 x5 x4 x3)))) (.int (oI (fsS A e16 x5 5 (-1))))) ∧ (¬ (btS (psS A x1 x5 x5 x4 x3) < A 141 (cdS A x5 (fsS A e16 x5 5 (-1))).toNat) → inR (x4 + 1) ∧ (h233_1 (d + 28) L I24 R S Q x1 x2 x3 (min 6 (x4 + 1)) (x5 + 1) (.int (oI (btS (psS A x1 x5 x5 x4 x3)))) (.int (oI (fsS A e16 x5 5 (-1))))))))))))))))))))) ∧ (¬ (x5 < x2) → Q (some (.int (oI x4))) (bd L I R S))))) : h233_1 (d + 28) L I R S Q x1 x2 x3 x4 x5 w6 w7 := by
  unfold h233_1
  refine xG gb233.2.1 ?_
  refine s4 (x := x5) rfl ?_
  refine s4 (x := x2) rfl ?_
  obtain ⟨g1, hE⟩ := hE
  obtain ⟨g2, hE⟩ := hE
  refine s64 g1 g2 (fun c3 => ?_) (fun c3 => ?_)
  · replace hE := hE.1 c3
    refine s6 (p := 91) rfl ?_
    refine s4 (x := x1) rfl ?_
    refine s4 (x := x5) rfl ?_
    refine s4 (x := x5) rfl ?_
    refine s4 (x := x4) rfl ?_
    refine s4 (x := x3) rfl ?_
    obtain ⟨g4, hE⟩ := hE
    obtain ⟨g5, hE⟩ := hE
    obtain ⟨g6, hE⟩ := hE
    obtain ⟨g7, hE⟩ := hE
    obtain ⟨g8, hE⟩ := hE
    obtain ⟨g9, hE⟩ := hE
    obtain ⟨g10, hE⟩ := hE
    refine sI rc234 rfl (Nat.le_of_ble_eq_true rfl) ?_
    refine k234 hR g4 g5 g6 g7 g8 g8 g9 g10 (fun I11 q12 q13 q14 => ?_)
    replace hE := hE I11 q12 q13 q14
    obtain ⟨g15, hE⟩ := hE
    refine sI rc241 rfl (Nat.le_of_ble_eq_true rfl) ?_
    refine k241 g15 ?_
    refine s7 (ls' := [.ref 91, .int (oI x1), .int (oI x2), .int (oI x3), .int (oI x4), .int (oI x5), .int (oI (btS (psS A x1 x5 x5 x4 x3))), w7]) (Nat.le_of_ble_eq_true rfl) rfl ?_
    refine s6 (p := 91) rfl ?_
    refine s51 sh91 (by decide) (by decide) rf91_85 ?_
    refine s0 ?_
    refine s4 (x := btS (psS A x1 x5 x5 x4 x3)) rfl ?_
    refine s44 sh150 (by decide) (⟨by decide, by decide⟩ : (0 : Int) ≤ 7 ∧ (7 : Int) < 12) rfl ?_
    refine s6 (p := 91) rfl ?_
    refine s4 (x := x5) rfl ?_
    refine s0 ?_
    refine s0 ?_
    obtain ⟨e16, k17, hE⟩ := hE
    refine sI rc220 rfl (Nat.le_of_ble_eq_true rfl) ?_
    refine k220 k17 (RM.scr (q13) rfl) g5 g8 (inRd rfl) (inRd rfl) (fun I18 q19 q20 => ?_)
    replace hE := hE I18 q19 q20
    refine s7 (ls' := [.ref 91, .int (oI x1), .int (oI x2), .int (oI x3), .int (oI x4), .int (oI x5), .int (oI (btS (psS A x1 x5 x5 x4 x3))), .int (oI (fsS A e16 x5 5 (-1)))]) (Nat.le_of_ble_eq_true rfl) rfl ?_
    refine s4 (x := fsS A e16 x5 5 (-1)) rfl ?_
    refine s0 ?_
    obtain ⟨g21, hE⟩ := hE
    refine s61 g21 (inRd rfl) (fun c22 => ?_) (fun c22 => ?_)
    · replace hE := hE.1 c22
      refine xG gb233.2.2.1 ?_
      refine s10 (x := x5) (ls' := [.ref 91, .int (oI x1), .int (oI x2), .int (oI x3), .int (oI x4), .int (oI (x5 + 1)), .int (oI (btS (psS A x1 x5 x5 x4 x3))), .int (oI (fsS A e16 x5 5 (-1)))]) rfl rfl ?_
      refine s60 ?_
      exact hE
    · replace hE := hE.2 c22
      refine s4 (x := btS (psS A x1 x5 x5 x4 x3)) rfl ?_
      refine s6 (p := 91) rfl ?_
      refine s51 sh91 (by decide) (by decide) rf91_76 ?_
      refine s6 (p := 91) rfl ?_
      refine s4 (x := x5) rfl ?_
      refine s4 (x := fsS A e16 x5 5 (-1)) rfl ?_
      obtain ⟨g23, hE⟩ := hE
      refine sI rc221 rfl (Nat.le_of_ble_eq_true rfl) ?_
      refine k221 q20 g5 g8 g23 (fun I24 q25 q26 => ?_)
      replace hE := hE I24 q25 q26
      obtain ⟨g27, hE⟩ := hE
      refine s40 (v := A 141 (cdS A x5 (fsS A e16 x5 5 (-1))).toNat) sh141 g27 rfl (rdM (q26).1 rfl) ?_
      obtain ⟨g28, hE⟩ := hE
      refine s63 g28 (inA (q26).1 (a := 141) (k := (cdS A x5 (fsS A e16 x5 5 (-1))).toNat) rfl) (fun c29 => ?_) (fun c29 => ?_)
      · replace hE := hE.1 c29
        refine xG gb233.2.2.1 ?_
        refine s10 (x := x5) (ls' := [.ref 91, .int (oI x1), .int (oI x2), .int (oI x3), .int (oI x4), .int (oI (x5 + 1)), .int (oI (btS (psS A x1 x5 x5 x4 x3))), .int (oI (fsS A e16 x5 5 (-1)))]) rfl rfl ?_
        refine s60 ?_
        exact hE
      · replace hE := hE.2 c29
        refine s0 ?_
        refine s4 (x := x4) rfl ?_
        refine s0 ?_
        refine s16 ?_
        obtain ⟨g30, hE⟩ := hE
        refine sI rc345 rfl (Nat.le_of_ble_eq_true rfl) ?_
        refine k345 (inRd rfl) g30 ?_
        refine s7 (ls' := [.ref 91, .int (oI x1), .int (oI x2), .int (oI x3), .int (oI (min 6 (x4 + 1))), .int (oI x5), .int (oI (btS (psS A x1 x5 x5 x4 x3))), .int (oI (fsS A e16 x5 5 (-1)))]) (Nat.le_of_ble_eq_true rfl) rfl ?_
        refine s79 ?_
        refine xG gb233.2.2.1 ?_
        refine s10 (x := x5) (ls' := [.ref 91, .int (oI x1), .int (oI x2), .int (oI x3), .int (oI (min 6 (x4 + 1))), .int (oI (x5 + 1)), .int (oI (btS (psS A x1 x5 x5 x4 x3))), .int (oI (fsS A e16 x5 5 (-1)))]) rfl rfl ?_
        refine s60 ?_
        exact hE
  · replace hE := hE.2 c3
    refine xG gb233.2.2.2 ?_
    refine s4 (x := x4) rfl ?_
    refine s80 ?_
    exact hE
set_option maxRecDepth 4000 in
theorem e233 {d L : Nat} {I : Nat → Nat → Int32} {R : Nat → Nat → Option Nat} {S : List (Nat × Nat)} {K : Int32 → mM → Prop} {A : aS} (hR : RM I A) {x1 : Int} {x2 : Int} {x3 : Int} (hE : (0 ≤ x1 ∧ x1 < 40) ∧ (h233_1 d L I R S (rqI K) x1 x2 x3 (A 95 x1.toNat) (A 94 x1.toNat) mUn mUn)) : CallI d 233 [.ref 91, .int (oI x1), .int (oI x2), .int (oI x3)] (bd L I R S) K := by
  refine cI_of (ls := [.ref 91, .int (oI x1), .int (oI x2), .int (oI x3), mUn, mUn, mUn, mUn]) rfl ?_
  refine xG gb233.1 ?_
  refine s6 (p := 91) rfl ?_
  refine s51 sh91 (by decide) (by decide) rf91_8 ?_
  refine s4 (x := x1) rfl ?_
  obtain ⟨g1, hE⟩ := hE
  refine s40 (v := A 95 x1.toNat) sh95 g1 rfl (rdM hR.1 rfl) ?_
  refine s7 (ls' := [.ref 91, .int (oI x1), .int (oI x2), .int (oI x3), .int (oI (A 95 x1.toNat)), mUn, mUn, mUn]) (Nat.le_of_ble_eq_true rfl) rfl ?_
  refine s6 (p := 91) rfl ?_
  refine s51 sh91 (by decide) (by decide) rf91_7 ?_
  refine s4 (x := x1) rfl ?_
  refine s40 (v := A 94 x1.toNat) sh94 g1 rfl (rdM hR.1 rfl) ?_
  refine s7 (ls' := [.ref 91, .int (oI x1), .int (oI x2), .int (oI x3), .int (oI (A 95 x1.toNat)), .int (oI (A 94 x1.toNat)), mUn, mUn]) (Nat.le_of_ble_eq_true rfl) rfl ?_
  refine s79 ?_
  exact hE
section
variable {d L : Nat} {I I0 : mI} {R : Nat → Nat → Option Nat} {S : List (Nat × Nat)} {Q : Option Value → mM → Prop} {A : aS} {c day known kind half year subj code : Int}
theorem stL_succ {k : Nat} : stL A c known (k + 1) = if ¬ stR A c (A 94 c.toNat + k) (stL A c known k) known = -1 ∧ nuS A (A 94 c.toNat + k) (stR A c (A 94 c.toNat + k) (stL A c known k) known) ≤ stN A c (A 94 c.toNat + k) (stL A c known k) known then min 6 (stL A c known k + 1) else stL A c known k := rfl
theorem l233 (hW : WfA A) (hC : WfC A) (hP : WfP A) (hc : 0 ≤ c ∧ c < A 91 1) (hy : 0 ≤ year ∧ year ≤ 7) (hkn : inR known) (hK : ∀ I1, Fr [150, 151] [(91, 87)] I0 I1 → RM I1 A → Q (some (.int (oI (stS A c year known)))) (bd L I1 R S)) : ∀ (n k : Nat) (I : mI) (w6 w7 : Value), k + n = (year - A 94 c.toNat).toNat → RM I A → Fr [150, 151] [(91, 87)] I0 I → h233_1 (d + 28) L I R S Q c year known (stL A c known k) (A 94 c.toNat + k) w6 w7 := by
  have hW1 := hW.2.1
  have wp := hP c.toNat (by omega)
  obtain ⟨-, -, wp, -⟩ := wp
  intro n
  induction n with
  | zero =>
    intro k I w6 w7 hk hR hf
    refine e233_1 hR ⟨⟨by omega, by omega⟩, ⟨by omega, by omega⟩, fun h => by exfalso; omega, fun _ => ?_⟩
    have e : stS A c year known = stL A c known k := by unfold stS; rw [show (year - A 94 c.toNat).toNat = k by omega]
    rw [e] at hK
    exact hK I hf hR
  | succ n ih =>
    intro k I w6 w7 hk hR hf
    have si := stL_in hP (known := known) hc k
    refine e233_1 hR ⟨⟨by omega, by omega⟩, ⟨by omega, by omega⟩, fun h => ⟨hW, hC, hP, hc, by omega, ⟨by omega, by omega⟩, hkn, fun I1 hf1 hR1 he1 => ?_⟩, fun h => by exfalso; omega⟩
    have pi := psS_in (A := A) (c := c) (year := A 94 c.toNat + k) (code := A 94 c.toNat + k) (std := stL A c known k) (known := known)
    have bi := btS_in (psS A c (A 94 c.toNat + k) (A 94 c.toNat + k) (stL A c known k) known)
    have bi' : inR (btS (psS A c (A 94 c.toNat + k) (A 94 c.toNat + k) (stL A c known k) known)) := ⟨by omega, by omega⟩
    refine ⟨by omega, _, he1.put (k := 7) bi', fun I2 hf2 hR2 => ?_⟩
    have fr2 : Fr [150, 151] [(91, 87)] I0 I2 := hf.trans ((hf1.wr rfl).trans (hf2.sub rfl rfl))
    have nx : ∀ (I3 : mI) (v w6 w7 : _), RM I3 A → Fr [150, 151] [(91, 87)] I0 I3 → v = stL A c known (k + 1) → h233_1 (d + 28) L I3 R S Q c year known v (A 94 c.toNat + k + 1) w6 w7 := by
      intro I3 v w6 w7 hR3 hf3 hv
      have q := ih (k + 1) I3 w6 w7 (by omega) hR3 hf3
      rw [← hv, show (A 94 c.toNat + ((k + 1 : Nat) : Int)) = A 94 c.toNat + k + 1 by omega] at q
      exact q
    rcases fsS_prop hC (h := putE (psE A c (A 94 c.toNat + k) (stL A c known k) known) 7 (btS (psS A c (A 94 c.toNat + k) (A 94 c.toNat + k) (stL A c known k) known))) (y := A 94 c.toNat + k) (kind := 5) (key := -1) with q | ⟨m, s, q1, q2, q3, q4, q5, q6, q7, q8, -⟩
    · refine ⟨by rw [q]; exact inRd rfl, fun _ => nx I2 _ _ _ hR2 fr2 ?_, fun h => absurd q h⟩
      rw [stL_succ, if_neg]
      rintro ⟨a, -⟩
      exact a q
    · have w := (q6.2.2 q7).1 (by omega)
      rw [q1, q4, Int.toNat_natCast]
      have er : stR A c (A 94 c.toNat + k) (stL A c known k) known = m := q1
      have en : nuS A (A 94 c.toNat + k) m = A 141 s := by unfold nuS; rw [q4, Int.toNat_natCast]
      refine ⟨⟨by omega, by omega⟩, fun h => by exfalso; omega, fun _ => ⟨by omega, fun I3 hf3 hR3 => ⟨by omega, bi', fun hl => ?_, fun hl => ?_⟩⟩⟩
      · refine nx I3 _ _ _ hR3 (fr2.trans (hf3.sub rfl rfl)) ?_
        rw [stL_succ, if_neg]
        rintro ⟨-, b⟩
        rw [er, en] at b
        exact absurd hl (Int.not_lt.mpr b)
      · refine ⟨⟨by omega, by omega⟩, nx I3 _ _ _ hR3 (fr2.trans (hf3.sub rfl rfl)) ?_⟩
        rw [stL_succ, if_pos]
        refine ⟨by rw [er]; omega, ?_⟩
        rw [er, en]
        exact Int.not_lt.mp hl
theorem k233 {K : Int32 → mM → Prop} (hR : RM I A) (hW : WfA A) (hC : WfC A) (hP : WfP A) (hc : 0 ≤ c ∧ c < A 91 1) (hy : 0 ≤ year ∧ year ≤ 7) (hkn : inR known) (hK : ∀ I1, Fr [150, 151] [(91, 87)] I I1 → RM I1 A → K (oI (stS A c year known)) (bd L I1 R S)) : CallI (d + 28) 233 [.ref 91, .int (oI c), .int (oI year), .int (oI known)] (bd L I R S) K := by
  have hW1 := hW.2.1
  have q := l233 (d := d) hW hC hP hc hy hkn (fun I2 h1 h2 => rqI_of (hK I2 h1 h2)) (year - A 94 c.toNat).toNat 0 I mUn mUn (by omega) hR (Fr.refl _ _ _)
  refine e233 hR ⟨by omega, ?_⟩
  rw [show (A 94 c.toNat + ((0 : Nat) : Int)) = A 94 c.toNat by omega] at q
  exact q
end
