/-! the reference: fault; what a new day keeps -/
set_option maxRecDepth 4000 in
theorem e319 {d L : Nat} {I : Nat → Nat → Int32} {R : Nat → Nat → Option Nat} {S : List (Nat × Nat)} {K : Int32 → mM → Prop} {A : aS} (hR : RM I A)  (hE : K (oI (A 91 71)) (bd L I R S)) : CallI d 319 [.ref 91] (bd L I R S) K := by
  refine cI_of (ls := [.ref 91]) rfl ?_
  refine xG gb319 ?_
  refine s6 (p := 91) rfl ?_
  refine s50 (v := A 91 71) sh91 (by decide) (by decide) (rdM hR.1 rfl) ?_
  refine s80 ?_
  exact rqI_of hE
noncomputable def o319 (A : aS) : Int × aS := ((A 91 71), A)
set_option maxRecDepth 4000 in
theorem k319 {d L : Nat} {I : mI} {R : Nat → Nat → Option Nat} {S : List (Nat × Nat)} {A : aS} {K : Int32 → mM → Prop} (hR : RM I A) (hK : ∀ I1, FM I I1 → RM I1 (o319 A).2 → K (oI (o319 A).1) (bd L I1 R S)) : CallI (d + 0) 319 [.ref 91] (bd L I R S) K := by
  have ho : o319 A = ((A 91 71), A) := rfl
  refine e319 (d := d) hR ?_
  rw [ho] at hK
  exact hK _ (FM.refl _) (hR)
theorem keepA208 {A : aS} {x : Int} (h : WfA A) : WfA (o208 A x).2 := by
  unfold o208
  split
  · split
    · exact h
    · rename_i h1 h2
      obtain ⟨a, b, c, e, f⟩ := h
      refine ⟨?_, b, c, e, fun k hk => ?_⟩
      · show 0 ≤ x ∧ x ≤ 799
        omega
      · have g := f k hk
        unfold WfK at g ⊢
        show (0 ≤ A 103 k ∧ A 103 k ≤ 6) ∧ (A 103 k = 1 → 0 ≤ A 104 k ∧ A 104 k < A 91 2) ∧ (¬ A 103 k = 1 → 0 ≤ A 104 k ∧ A 104 k < A 91 1) ∧ (A 103 k = 0 → (-1 ≤ A 105 k ∧ A 105 k < A 91 2) ∧ (0 ≤ A 106 k ∧ A 106 k ≤ x)) ∧ (A 103 k = 1 ∨ (3 ≤ A 103 k ∧ A 103 k ≤ 5) → 0 ≤ A 105 k ∧ A 105 k ≤ A 106 k ∧ A 106 k ≤ 799) ∧ (A 103 k = 2 → 0 ≤ A 105 k ∧ A 105 k ≤ A 106 k ∧ A 106 k ≤ 1599 ∧ 0 ≤ A 107 k ∧ A 107 k ≤ 3) ∧ (A 103 k = 3 → 0 ≤ A 107 k ∧ A 107 k ≤ 5) ∧ (A 103 k = 6 → (0 ≤ A 105 k ∧ A 105 k ≤ 7) ∧ (0 ≤ A 106 k ∧ A 106 k ≤ 5) ∧ (0 ≤ A 107 k ∧ A 107 k ≤ 100)) ∧ (0 ≤ A 108 k ∧ A 108 k ≤ x) ∧ (A 109 k = 5000 ∨ (0 ≤ A 109 k ∧ A 109 k ≤ x))
        omega
  · exact h
