/-! each call of the reference keeps it well, one by one -/
theorem wf208 {A : aS} {x1 : Int} (h : WF A) : WF (o208 A x1).2 := by
  unfold o208
  by_cases c1 : A 91 0 < x1
  · rw [if_pos c1]
    by_cases c2 : 799 < x1
    · rw [if_pos c2]
      exact h
    · rw [if_neg c2]
      show WF (u2 A 91 0 (x1))
      refine ⟨?_, (WfP.ko h.2.1 (Ko.set (Ko.refl _ _ _) rfl)), (WfT.ko h.2.2.1 (Ko.set (Ko.refl _ _ _) rfl)), (WfV.ko h.2.2.2.1 (Ko.set (Ko.refl _ _ _) rfl)), (WfX.ko h.2.2.2.2.1 (Ko.set (Ko.refl _ _ _) rfl)), (WfB.ko h.2.2.2.2.2.1 (Ko.set (Ko.refl _ _ _) rfl)), (WfL.ko h.2.2.2.2.2.2.1 (Ko.set (Ko.refl _ _ _) rfl)), (WfF.ko h.2.2.2.2.2.2.2.1 (Ko.set (Ko.refl _ _ _) rfl)), (WfD.ko h.2.2.2.2.2.2.2.2.1 (Ko.set (Ko.refl _ _ _) rfl)), (WfE.ko h.2.2.2.2.2.2.2.2.2.1 (Ko.set (Ko.refl _ _ _) rfl)), (WfC.ko h.2.2.2.2.2.2.2.2.2.2.1 (Ko.set (Ko.refl _ _ _) rfl) h.n7), (WfW.ko h.2.2.2.2.2.2.2.2.2.2.2 h.2.2.2.2.2.2.2.2.2.2.1 (Ko.set (Ko.refl _ _ _) rfl) h.n7)⟩
      · have g := keepA208 (x := x1) h.1
        unfold o208 at g
        rw [if_pos c1, if_neg c2] at g
        exact g
  · rw [if_neg c1]
    exact h
theorem wf209 {A : aS} {x1 x2 x3 : Int} (h : WF A) : WF (o209 A x1 x2 x3).2 := by
  unfold o209
  by_cases c1 : (-1500) ≤ x1 ∧ x1 ≤ A 91 0
  · rw [if_pos c1]
    by_cases c2 : 0 ≤ x2 ∧ x2 ≤ 9
    · rw [if_pos c2]
      by_cases c3 : 0 ≤ x3 ∧ x3 ≤ 6
      · rw [if_pos c3]
        by_cases c4 : A 91 1 = 40
        · rw [if_pos c4]
          exact h
        · rw [if_neg c4]
          show WF (u2 (u2 (u2 (u2 (u2 A 92 (A 91 1).toNat (x1)) 93 (A 91 1).toNat (x2)) 95 (A 91 1).toNat (x3)) 94 (A 91 1).toNat ((Int.tdiv (A 91 0) 100))) 91 1 ((A 91 1 + 1)))
          refine ⟨?_, ?_, (WfT.ko h.2.2.1 (Ko.set (Ko.set (Ko.set (Ko.set (Ko.set (Ko.refl _ _ _) rfl) rfl) rfl) rfl) rfl)), (WfV.ko h.2.2.2.1 (Ko.set (Ko.set (Ko.set (Ko.set (Ko.set (Ko.refl _ _ _) rfl) rfl) rfl) rfl) rfl)), (WfX.ko h.2.2.2.2.1 (Ko.set (Ko.set (Ko.set (Ko.set (Ko.set (Ko.refl _ _ _) rfl) rfl) rfl) rfl) rfl)), (WfB.ko h.2.2.2.2.2.1 (Ko.set (Ko.set (Ko.set (Ko.set (Ko.set (Ko.refl _ _ _) rfl) rfl) rfl) rfl) rfl)), (WfL.ko h.2.2.2.2.2.2.1 (Ko.set (Ko.set (Ko.set (Ko.set (Ko.set (Ko.refl _ _ _) rfl) rfl) rfl) rfl) rfl)), (WfF.ko h.2.2.2.2.2.2.2.1 (Ko.set (Ko.set (Ko.set (Ko.set (Ko.set (Ko.refl _ _ _) rfl) rfl) rfl) rfl) rfl)), (WfD.ko h.2.2.2.2.2.2.2.2.1 (Ko.set (Ko.set (Ko.set (Ko.set (Ko.set (Ko.refl _ _ _) rfl) rfl) rfl) rfl) rfl)), ?_, (WfC.ko h.2.2.2.2.2.2.2.2.2.2.1 (Ko.set (Ko.set (Ko.set (Ko.set (Ko.set (Ko.refl _ _ _) rfl) rfl) rfl) rfl) rfl) h.n7), (WfW.ko h.2.2.2.2.2.2.2.2.2.2.2 h.2.2.2.2.2.2.2.2.2.2.1 (Ko.set (Ko.set (Ko.set (Ko.set (Ko.set (Ko.refl _ _ _) rfl) rfl) rfl) rfl) rfl) h.n7)⟩
          · obtain ⟨g1, g2, g3, g4, g5⟩ := h.1
            refine ⟨g1, ?_, g3, g4, fun k hk => ?_⟩
            · show 0 ≤ A 91 1 + 1 ∧ A 91 1 + 1 ≤ 40
              omega
            · have g := g5 k hk
              unfold WfK at g ⊢
              simp [u2]
              omega
          · have ht : Int.tdiv (A 91 0) 100 = A 91 0 / 100 := Int.tdiv_eq_ediv_of_nonneg h.1.1.1
            have h00 := h.1.1
            have h01 := h.1.2.1
            have h02 := h.1.2.2.1
            have h96 := h.2.2.2.2.2.2.2.2.2.1.2 (A 91 1).toNat (by omega) (Nat.le_refl _)
            intro k hk
            have hk2 : k < (A 91 1).toNat + 1 := by simp [u2] at hk; omega
            by_cases hkn : k = (A 91 1).toNat
            · subst hkn
              simp [u2]
              omega
            · have g := h.2.1 k (by omega)
              simp [u2, hkn]
              simpa using g
          · have g := h.2.2.2.2.2.2.2.2.2.1
            refine ⟨g.1, fun c hc hc2 => ?_⟩
            have h01 := h.1.2.1
            simp [u2] at hc2
            exact g.2 c hc (by omega)
      · rw [if_neg c3]
        exact h
    · rw [if_neg c2]
      exact h
  · rw [if_neg c1]
    exact h
theorem wf211 {A : aS} {x1 x2 x3 : Int} (h : WF A) : WF (o211 A x1 x2 x3).2 := by
  unfold o211
  by_cases c1 : 0 ≤ x1 ∧ x1 ≤ 60
  · rw [if_pos c1]
    by_cases c2 : 0 ≤ x2 ∧ x2 ≤ 60
    · rw [if_pos c2]
      by_cases c3 : 0 ≤ x3 ∧ x3 ≤ 9999
      · rw [if_pos c3]
        by_cases c4 : A 91 2 = 6
        · rw [if_pos c4]
          exact h
        · rw [if_neg c4]
          show WF (u2 (u2 (u2 (u2 A 98 (A 91 2).toNat (x1)) 99 (A 91 2).toNat (x2)) 100 (A 91 2).toNat (x3)) 91 2 ((A 91 2 + 1)))
          refine ⟨?_, (WfP.ko h.2.1 (Ko.set (Ko.set (Ko.set (Ko.set (Ko.refl _ _ _) rfl) rfl) rfl) rfl)), ?_, (WfV.ko h.2.2.2.1 (Ko.set (Ko.set (Ko.set (Ko.set (Ko.refl _ _ _) rfl) rfl) rfl) rfl)), ?_, (WfB.ko h.2.2.2.2.2.1 (Ko.set (Ko.set (Ko.set (Ko.set (Ko.refl _ _ _) rfl) rfl) rfl) rfl)), (WfL.ko h.2.2.2.2.2.2.1 (Ko.set (Ko.set (Ko.set (Ko.set (Ko.refl _ _ _) rfl) rfl) rfl) rfl)), (WfF.ko h.2.2.2.2.2.2.2.1 (Ko.set (Ko.set (Ko.set (Ko.set (Ko.refl _ _ _) rfl) rfl) rfl) rfl)), (WfD.ko h.2.2.2.2.2.2.2.2.1 (Ko.set (Ko.set (Ko.set (Ko.set (Ko.refl _ _ _) rfl) rfl) rfl) rfl)), (WfE.ko h.2.2.2.2.2.2.2.2.2.1 (Ko.set (Ko.set (Ko.set (Ko.set (Ko.refl _ _ _) rfl) rfl) rfl) rfl)), (WfC.ko h.2.2.2.2.2.2.2.2.2.2.1 (Ko.set (Ko.set (Ko.set (Ko.set (Ko.refl _ _ _) rfl) rfl) rfl) rfl) h.n7), (WfW.ko h.2.2.2.2.2.2.2.2.2.2.2 h.2.2.2.2.2.2.2.2.2.2.1 (Ko.set (Ko.set (Ko.set (Ko.set (Ko.refl _ _ _) rfl) rfl) rfl) rfl) h.n7)⟩
          · obtain ⟨g1, g2, g3, g4, g5⟩ := h.1
            refine ⟨g1, g2, ?_, g4, fun k hk => ?_⟩
            · show 0 ≤ A 91 2 + 1 ∧ A 91 2 + 1 ≤ 6
              omega
            · have g := g5 k hk
              unfold WfK at g ⊢
              simp [u2]
              omega
          · have ht : Int.tdiv (A 91 0) 100 = A 91 0 / 100 := Int.tdiv_eq_ediv_of_nonneg h.1.1.1
            have h00 := h.1.1
            have h01 := h.1.2.1
            have h02 := h.1.2.2.1
            obtain ⟨g1, g2, g3, g4, g5⟩ := h.2.2.1
            refine ⟨g1, fun t ht2 => ?_, g3, g4, ?_⟩
            · have g := g2 t ht2
              simp [u2]
              refine ⟨by omega, by omega, fun y hy => by have := g.2.2 y hy; omega⟩
            · intro k hk
              have hk2 : k < (A 91 2).toNat + 1 := by simp [u2] at hk; omega
              by_cases hkn : k = (A 91 2).toNat
              · subst hkn
                simp [u2]
                omega
              · have g := g5 k (by omega)
                simp [u2, hkn]
                simpa using g
          · have ht : Int.tdiv (A 91 0) 100 = A 91 0 / 100 := Int.tdiv_eq_ediv_of_nonneg h.1.1.1
            have h00 := h.1.1
            have h01 := h.1.2.1
            have h02 := h.1.2.2.1
            obtain ⟨g1, g2, g3, g4⟩ := h.2.2.2.2.1
            refine ⟨g1, g2, ?_, g4⟩
            intro k hk
            have hk2 : k < (A 91 2).toNat + 1 := by simp [u2] at hk; omega
            by_cases hkn : k = (A 91 2).toNat
            · subst hkn
              simp [u2]
              omega
            · have g := g3 k (by omega)
              simp [u2, hkn]
              simpa using g
      · rw [if_neg c3]
        exact h
    · rw [if_neg c2]
      exact h
  · rw [if_neg c1]
    exact h
theorem wf213 {A : aS} {x1 x2 x3 : Int} (h : WF A) : WF (o213 A x1 x2 x3).2 := by
  unfold o213
  by_cases c1 : 0 ≤ x1 ∧ x1 ≤ 9
  · rw [if_pos c1]
    by_cases c2 : 0 ≤ x2 ∧ x2 ≤ 60
    · rw [if_pos c2]
      by_cases c3 : 0 ≤ x3 ∧ x3 ≤ 60
      · rw [if_pos c3]
        show WF (u2 (u2 A 101 x1.toNat (x2)) 102 x1.toNat (x3))
        refine ⟨(WfA.ko h.1 (Ko.set (Ko.set (Ko.refl _ _ _) rfl) rfl)), (WfP.ko h.2.1 (Ko.set (Ko.set (Ko.refl _ _ _) rfl) rfl)), (WfT.ko h.2.2.1 (Ko.set (Ko.set (Ko.refl _ _ _) rfl) rfl)), (WfV.ko h.2.2.2.1 (Ko.set (Ko.set (Ko.refl _ _ _) rfl) rfl)), ?_, (WfB.ko h.2.2.2.2.2.1 (Ko.set (Ko.set (Ko.refl _ _ _) rfl) rfl)), (WfL.ko h.2.2.2.2.2.2.1 (Ko.set (Ko.set (Ko.refl _ _ _) rfl) rfl)), (WfF.ko h.2.2.2.2.2.2.2.1 (Ko.set (Ko.set (Ko.refl _ _ _) rfl) rfl)), (WfD.ko h.2.2.2.2.2.2.2.2.1 (Ko.set (Ko.set (Ko.refl _ _ _) rfl) rfl)), (WfE.ko h.2.2.2.2.2.2.2.2.2.1 (Ko.set (Ko.set (Ko.refl _ _ _) rfl) rfl)), (WfC.ko h.2.2.2.2.2.2.2.2.2.2.1 (Ko.set (Ko.set (Ko.refl _ _ _) rfl) rfl) h.n7), (WfW.ko h.2.2.2.2.2.2.2.2.2.2.2 h.2.2.2.2.2.2.2.2.2.2.1 (Ko.set (Ko.set (Ko.refl _ _ _) rfl) rfl) h.n7)⟩
        · obtain ⟨g1, g2, g3, g4⟩ := h.2.2.2.2.1
          refine ⟨g1, ?_, g3, g4⟩
          intro k hk
          by_cases hkn : k = x1.toNat
          · subst hkn
            simp [u2]
            omega
          · have g := g2 k hk
            simp [u2, hkn]
            simpa using g
      · rw [if_neg c3]
        exact h
    · rw [if_neg c2]
      exact h
  · rw [if_neg c1]
    exact h
theorem wf214 {A : aS} {x1 x2 : Int} (h : WF A) : WF (o214 A x1 x2).2 := by
  unfold o214
  by_cases c1 : 0 ≤ x1 ∧ x1 ≤ A 91 1 - 1
  · rw [if_pos c1]
    by_cases c2 : 0 ≤ x2 ∧ x2 ≤ 9
    · rw [if_pos c2]
      show WF (u2 A 93 x1.toNat (x2))
      refine ⟨(WfA.ko h.1 (Ko.set (Ko.refl _ _ _) rfl)), ?_, (WfT.ko h.2.2.1 (Ko.set (Ko.refl _ _ _) rfl)), (WfV.ko h.2.2.2.1 (Ko.set (Ko.refl _ _ _) rfl)), (WfX.ko h.2.2.2.2.1 (Ko.set (Ko.refl _ _ _) rfl)), (WfB.ko h.2.2.2.2.2.1 (Ko.set (Ko.refl _ _ _) rfl)), (WfL.ko h.2.2.2.2.2.2.1 (Ko.set (Ko.refl _ _ _) rfl)), (WfF.ko h.2.2.2.2.2.2.2.1 (Ko.set (Ko.refl _ _ _) rfl)), (WfD.ko h.2.2.2.2.2.2.2.2.1 (Ko.set (Ko.refl _ _ _) rfl)), (WfE.ko h.2.2.2.2.2.2.2.2.2.1 (Ko.set (Ko.refl _ _ _) rfl)), (WfC.ko h.2.2.2.2.2.2.2.2.2.2.1 (Ko.set (Ko.refl _ _ _) rfl) h.n7), (WfW.ko h.2.2.2.2.2.2.2.2.2.2.2 h.2.2.2.2.2.2.2.2.2.2.1 (Ko.set (Ko.refl _ _ _) rfl) h.n7)⟩
      · intro c hc
        have g := h.2.1 c hc
        by_cases hkn : c = x1.toNat
        · subst hkn
          simp [u2]
          omega
        · simp [u2, hkn]
          simpa using g
    · rw [if_neg c2]
      exact h
  · rw [if_neg c1]
    exact h
theorem wf216 {A : aS} {x1 x2 x3 : Int} (h : WF A) : WF (o216 A x1 x2 x3).2 := by
  unfold o216
  by_cases c1 : 0 ≤ x1 ∧ x1 ≤ A 91 1 - 1
  · rw [if_pos c1]
    by_cases c2 : x2 = (-1)
    · rw [if_pos c2]
      by_cases c3 : 0 ≤ x3 ∧ x3 ≤ A 91 0
      · rw [if_pos c3]
        by_cases c4 : A 110 0 = 150
        · rw [if_pos c4]
          exact h
        · rw [if_neg c4]
          have h02 := h.1.2.2.1
          have h01 := h.1.2.1
          have hB := h.2.2.2.2.2.1
          unfold WfB at hB
          have ht : Int.tdiv (A 91 0) 100 = A 91 0 / 100 := Int.tdiv_eq_ediv_of_nonneg h.1.1.1
          have h00 := h.1.1
          refine wfNt (j := 0) h (by omega) (by simp [mxN]; omega) (by unfold NkOk; omega)
      · rw [if_neg c3]
        exact h
    · rw [if_neg c2]
      by_cases c3 : 0 ≤ x2 ∧ x2 ≤ A 91 2 - 1
      · rw [if_pos c3]
        by_cases c4 : 0 ≤ x3 ∧ x3 ≤ A 91 0
        · rw [if_pos c4]
          by_cases c5 : A 110 0 = 150
          · rw [if_pos c5]
            exact h
          · rw [if_neg c5]
            by_cases c6 : hoS A x2 (Int.tdiv x3 100) = (-1)
            · rw [if_pos c6]
              have h02 := h.1.2.2.1
              have h01 := h.1.2.1
              have hB := h.2.2.2.2.2.1
              unfold WfB at hB
              have ht : Int.tdiv (A 91 0) 100 = A 91 0 / 100 := Int.tdiv_eq_ediv_of_nonneg h.1.1.1
              have h00 := h.1.1
              refine wfNt (j := 0) h (by omega) (by simp [mxN]; omega) (by unfold NkOk; omega)
            · rw [if_neg c6]
              by_cases c7 : roL A x1 x2 x3 (A 91 1).toNat < hoS A x2 (Int.tdiv x3 100)
              · rw [if_pos c7]
                show WF (ntS A 0 x1 x2 x3 0 0)
                unfold ntS
                have h02 := h.1.2.2.1
                have h01 := h.1.2.1
                have hB := h.2.2.2.2.2.1
                unfold WfB at hB
                have ht : Int.tdiv (A 91 0) 100 = A 91 0 / 100 := Int.tdiv_eq_ediv_of_nonneg h.1.1.1
                have h00 := h.1.1
                refine wfNt (j := 0) h (by omega) (by simp [mxN]; omega) (by unfold NkOk; omega)
              · rw [if_neg c7]
                exact h
        · rw [if_neg c4]
          exact h
      · rw [if_neg c3]
        exact h
  · rw [if_neg c1]
    exact h
theorem wf229 {A : aS} {x1 x2 x3 : Int} (h : WF A) : WF (o229 A x1 x2 x3).2 := by
  unfold o229
  by_cases c1 : 0 ≤ x1 ∧ x1 ≤ A 91 2 - 1
  · rw [if_pos c1]
    by_cases c2 : 0 ≤ x2 ∧ x2 ≤ 799
    · rw [if_pos c2]
      by_cases c3 : 0 ≤ x3 ∧ x3 ≤ 799
      · rw [if_pos c3]
        by_cases c4 : x3 < x2
        · rw [if_pos c4]
          exact h
        · rw [if_neg c4]
          by_cases c5 : A 110 1 = 30
          · rw [if_pos c5]
            exact h
          · rw [if_neg c5]
            have h02 := h.1.2.2.1
            have h01 := h.1.2.1
            have hB := h.2.2.2.2.2.1
            unfold WfB at hB
            have ht : Int.tdiv (A 91 0) 100 = A 91 0 / 100 := Int.tdiv_eq_ediv_of_nonneg h.1.1.1
            have h00 := h.1.1
            refine wfNt (j := 1) h (by omega) (by simp [mxN]; omega) (by unfold NkOk; omega)
      · rw [if_neg c3]
        exact h
    · rw [if_neg c2]
      exact h
  · rw [if_neg c1]
    exact h
theorem wf231 {A : aS} {x1 x2 x3 x4 x5 x6 : Int} (h : WF A) : WF (o231 A x1 x2 x3 x4 x5 x6).2 := by
  unfold o231
  by_cases c1 : 0 ≤ x1 ∧ x1 ≤ A 91 1 - 1
  · rw [if_pos c1]
    by_cases c2 : 0 ≤ x2 ∧ x2 ≤ A 91 0
    · rw [if_pos c2]
      by_cases c3 : 0 ≤ x4 ∧ x4 ≤ A 91 0
      · rw [if_pos c3]
        by_cases c4 : 0 ≤ x3 ∧ x3 ≤ 1
        · rw [if_pos c4]
          by_cases c5 : 0 ≤ x5 ∧ x5 ≤ 1
          · rw [if_pos c5]
            by_cases c6 : 0 ≤ x6 ∧ x6 ≤ 3
            · rw [if_pos c6]
              by_cases c7 : (2 * x4) + x5 < (2 * x2) + x3
              · rw [if_pos c7]
                exact h
              · rw [if_neg c7]
                by_cases c8 : A 110 2 = 300
                · rw [if_pos c8]
                  exact h
                · rw [if_neg c8]
                  have h02 := h.1.2.2.1
                  have h01 := h.1.2.1
                  have hB := h.2.2.2.2.2.1
                  unfold WfB at hB
                  have ht : Int.tdiv (A 91 0) 100 = A 91 0 / 100 := Int.tdiv_eq_ediv_of_nonneg h.1.1.1
                  have h00 := h.1.1
                  refine wfNt (j := 2) h (by omega) (by simp [mxN]; omega) (by unfold NkOk; omega)
            · rw [if_neg c6]
              exact h
          · rw [if_neg c5]
            exact h
        · rw [if_neg c4]
          exact h
      · rw [if_neg c3]
        exact h
    · rw [if_neg c2]
      exact h
  · rw [if_neg c1]
    exact h
theorem wf232 {A : aS} {x1 x2 x3 x4 x5 : Int} (h : WF A) : WF (o232 A x1 x2 x3 x4 x5).2 := by
  unfold o232
  by_cases c1 : 0 ≤ x1 ∧ x1 ≤ A 91 1 - 1
  · rw [if_pos c1]
    by_cases c2 : 0 ≤ x2 ∧ x2 ≤ 2
    · rw [if_pos c2]
      by_cases c3 : x2 = 0
      · rw [if_pos c3]
        by_cases c4 : 0 ≤ x3 ∧ x3 ≤ 5
        · rw [if_pos c4]
          by_cases c5 : 0 ≤ x4 ∧ x4 ≤ 799
          · rw [if_pos c5]
            by_cases c6 : 0 ≤ x5 ∧ x5 ≤ 799
            · rw [if_pos c6]
              by_cases c7 : x5 < x4
              · rw [if_pos c7]
                exact h
              · rw [if_neg c7]
                by_cases c8 : A 110 (3 + x2).toNat = 60
                · rw [if_pos c8]
                  exact h
                · rw [if_neg c8]
                  by_cases c9 : x2 = 1
                  · rw [if_pos c9]
                    by_cases c10 : fsS A (putE (putE (putE zE 0 (max 0 (Int.tdiv (x4 - (A 92 x1.toNat)) 100))) 1 (stS A x1 (Int.tdiv x4 100) (A 91 0))) 3 (Int.tdiv x4 100)) (Int.tdiv x4 100) 9 (-1) = (-1)
                    · rw [if_pos c10]
                      exact h
                    · rw [if_neg c10]
                      have h02 := h.1.2.2.1
                      have h01 := h.1.2.1
                      have hB := h.2.2.2.2.2.1
                      unfold WfB at hB
                      have ht : Int.tdiv (A 91 0) 100 = A 91 0 / 100 := Int.tdiv_eq_ediv_of_nonneg h.1.1.1
                      have h00 := h.1.1
                      have hx2 : x2 = 0 ∨ x2 = 1 ∨ x2 = 2 := by omega
                      refine wfNt (j := (3 + x2).toNat) h (by omega) ?_ (by unfold NkOk; omega)
                      rcases hx2 with rfl | rfl | rfl <;> simp [mxN] at * <;> omega
                  · rw [if_neg c9]
                    have h02 := h.1.2.2.1
                    have h01 := h.1.2.1
                    have hB := h.2.2.2.2.2.1
                    unfold WfB at hB
                    have ht : Int.tdiv (A 91 0) 100 = A 91 0 / 100 := Int.tdiv_eq_ediv_of_nonneg h.1.1.1
                    have h00 := h.1.1
                    have hx2 : x2 = 0 ∨ x2 = 1 ∨ x2 = 2 := by omega
                    refine wfNt (j := (3 + x2).toNat) h (by omega) ?_ (by unfold NkOk; omega)
                    rcases hx2 with rfl | rfl | rfl <;> simp [mxN] at * <;> omega
            · rw [if_neg c6]
              exact h
          · rw [if_neg c5]
            exact h
        · rw [if_neg c4]
          exact h
      · rw [if_neg c3]
        by_cases c4 : 0 ≤ x4 ∧ x4 ≤ 799
        · rw [if_pos c4]
          by_cases c5 : 0 ≤ x5 ∧ x5 ≤ 799
          · rw [if_pos c5]
            by_cases c6 : x5 < x4
            · rw [if_pos c6]
              exact h
            · rw [if_neg c6]
              by_cases c7 : A 110 (3 + x2).toNat = 30
              · rw [if_pos c7]
                exact h
              · rw [if_neg c7]
                by_cases c8 : x2 = 1
                · rw [if_pos c8]
                  by_cases c9 : fsS A (putE (putE (putE zE 0 (max 0 (Int.tdiv (x4 - (A 92 x1.toNat)) 100))) 1 (stS A x1 (Int.tdiv x4 100) (A 91 0))) 3 (Int.tdiv x4 100)) (Int.tdiv x4 100) 9 (-1) = (-1)
                  · rw [if_pos c9]
                    exact h
                  · rw [if_neg c9]
                    have h02 := h.1.2.2.1
                    have h01 := h.1.2.1
                    have hB := h.2.2.2.2.2.1
                    unfold WfB at hB
                    have ht : Int.tdiv (A 91 0) 100 = A 91 0 / 100 := Int.tdiv_eq_ediv_of_nonneg h.1.1.1
                    have h00 := h.1.1
                    have hx2 : x2 = 0 ∨ x2 = 1 ∨ x2 = 2 := by omega
                    refine wfNt (j := (3 + x2).toNat) h (by omega) ?_ (by unfold NkOk; omega)
                    rcases hx2 with rfl | rfl | rfl <;> simp [mxN] at * <;> omega
                · rw [if_neg c8]
                  have h02 := h.1.2.2.1
                  have h01 := h.1.2.1
                  have hB := h.2.2.2.2.2.1
                  unfold WfB at hB
                  have ht : Int.tdiv (A 91 0) 100 = A 91 0 / 100 := Int.tdiv_eq_ediv_of_nonneg h.1.1.1
                  have h00 := h.1.1
                  have hx2 : x2 = 0 ∨ x2 = 1 ∨ x2 = 2 := by omega
                  refine wfNt (j := (3 + x2).toNat) h (by omega) ?_ (by unfold NkOk; omega)
                  rcases hx2 with rfl | rfl | rfl <;> simp [mxN] at * <;> omega
          · rw [if_neg c5]
            exact h
        · rw [if_neg c4]
          exact h
    · rw [if_neg c2]
      exact h
  · rw [if_neg c1]
    exact h
theorem wf242 {A : aS} {x1 x2 x3 x4 : Int} (h : WF A) : WF (o242 A x1 x2 x3 x4).2 := by
  unfold o242
  by_cases c1 : 0 ≤ x1 ∧ x1 ≤ A 91 1 - 1
  · rw [if_pos c1]
    by_cases c2 : 0 ≤ x2 ∧ x2 ≤ Int.tdiv (A 91 0) 100
    · rw [if_pos c2]
      by_cases c3 : 0 ≤ x3 ∧ x3 ≤ 5
      · rw [if_pos c3]
        by_cases c4 : 0 ≤ x4 ∧ x4 ≤ 100
        · rw [if_pos c4]
          by_cases c5 : A 110 6 = 250
          · rw [if_pos c5]
            exact h
          · rw [if_neg c5]
            have h02 := h.1.2.2.1
            have h01 := h.1.2.1
            have hB := h.2.2.2.2.2.1
            unfold WfB at hB
            have ht : Int.tdiv (A 91 0) 100 = A 91 0 / 100 := Int.tdiv_eq_ediv_of_nonneg h.1.1.1
            have h00 := h.1.1
            refine wfNt (j := 6) h (by omega) (by simp [mxN]; omega) (by unfold NkOk; omega)
        · rw [if_neg c4]
          exact h
      · rw [if_neg c3]
        exact h
    · rw [if_neg c2]
      exact h
  · rw [if_neg c1]
    exact h
theorem wf243 {A : aS} {x1 : Int} (h : WF A) : WF (o243 A x1).2 := by
  unfold o243
  by_cases c1 : 0 ≤ x1 ∧ x1 ≤ A 91 3 - 1
  · rw [if_pos c1]
    by_cases c2 : A 109 x1.toNat = 5000
    · rw [if_pos c2]
      show WF (u2 (u2 A 109 x1.toNat ((A 91 0))) 91 4 ((A 91 4 + 1)))
      refine ⟨?_, (WfP.ko h.2.1 (Ko.set (Ko.set (Ko.refl _ _ _) rfl) rfl)), (WfT.ko h.2.2.1 (Ko.set (Ko.set (Ko.refl _ _ _) rfl) rfl)), (WfV.ko h.2.2.2.1 (Ko.set (Ko.set (Ko.refl _ _ _) rfl) rfl)), (WfX.ko h.2.2.2.2.1 (Ko.set (Ko.set (Ko.refl _ _ _) rfl) rfl)), (WfB.ko h.2.2.2.2.2.1 (Ko.set (Ko.set (Ko.refl _ _ _) rfl) rfl)), ?_, (WfF.ko h.2.2.2.2.2.2.2.1 (Ko.set (Ko.set (Ko.refl _ _ _) rfl) rfl)), (WfD.ko h.2.2.2.2.2.2.2.2.1 (Ko.set (Ko.set (Ko.refl _ _ _) rfl) rfl)), (WfE.ko h.2.2.2.2.2.2.2.2.2.1 (Ko.set (Ko.set (Ko.refl _ _ _) rfl) rfl)), (WfC.ko h.2.2.2.2.2.2.2.2.2.2.1 (Ko.set (Ko.set (Ko.refl _ _ _) rfl) rfl) h.n7), (WfW.ko h.2.2.2.2.2.2.2.2.2.2.2 h.2.2.2.2.2.2.2.2.2.2.1 (Ko.set (Ko.set (Ko.refl _ _ _) rfl) rfl) h.n7)⟩
      · obtain ⟨g1, g2, g3, g4, g5⟩ := h.1
        have hu := h.2.2.2.2.2.2.1
        refine ⟨g1, g2, g3, g4, fun k hk => ?_⟩
        have g := g5 k hk
        unfold WfK at g ⊢
        by_cases hkn : k = x1.toNat
        · subst hkn
          simp [u2]
          omega
        · simp [u2, hkn]
          omega
      · have hL := h.2.2.2.2.2.2.1
        have h00 := h.1.1
        unfold WfL at hL ⊢
        rw [v2_eq, v2_nk (by decide), v2_ne (by decide), unL_one (A := A) (k0 := x1.toNat) c2 (by simp [u2]; omega) (fun j hj => by simp [u2, hj]) _ (by omega), hL]
        rfl
    · rw [if_neg c2]
      exact h
  · rw [if_neg c1]
    exact h
theorem wf269 {A : aS} {x1 x2 : Int} (h : WF A) : WF (o269 A x1 x2).2 := by
  unfold o269
  by_cases c1 : 0 ≤ x1 ∧ x1 ≤ A 91 1 - 1
  · rw [if_pos c1]
    by_cases c2 : 1 ≤ x2 ∧ x2 ≤ 9999
    · rw [if_pos c2]
      by_cases c3 : 999999 < A 96 x1.toNat + x2
      · rw [if_pos c3]
        exact h
      · rw [if_neg c3]
        show WF (u2 A 96 x1.toNat ((A 96 x1.toNat + x2)))
        refine ⟨(WfA.ko h.1 (Ko.set (Ko.refl _ _ _) rfl)), ?_, (WfT.ko h.2.2.1 (Ko.set (Ko.refl _ _ _) rfl)), (WfV.ko h.2.2.2.1 (Ko.set (Ko.refl _ _ _) rfl)), (WfX.ko h.2.2.2.2.1 (Ko.set (Ko.refl _ _ _) rfl)), (WfB.ko h.2.2.2.2.2.1 (Ko.set (Ko.refl _ _ _) rfl)), (WfL.ko h.2.2.2.2.2.2.1 (Ko.set (Ko.refl _ _ _) rfl)), (WfF.ko h.2.2.2.2.2.2.2.1 (Ko.set (Ko.refl _ _ _) rfl)), (WfD.ko h.2.2.2.2.2.2.2.2.1 (Ko.set (Ko.refl _ _ _) rfl)), ?_, (WfC.ko h.2.2.2.2.2.2.2.2.2.2.1 (Ko.set (Ko.refl _ _ _) rfl) h.n7), (WfW.ko h.2.2.2.2.2.2.2.2.2.2.2 h.2.2.2.2.2.2.2.2.2.2.1 (Ko.set (Ko.refl _ _ _) rfl) h.n7)⟩
        · intro c hc
          have g := h.2.1 c hc
          by_cases hkn : c = x1.toNat
          · subst hkn
            simp [u2]
            omega
          · simp [u2, hkn]
            simpa using g
        · have g := h.2.2.2.2.2.2.2.2.2.1
          refine ⟨g.1, fun c hc hc2 => ?_⟩
          have h01 := h.1.2.1
          rw [v2_ne (by decide)] at hc2
          rw [v2_nk (by omega)]
          exact g.2 c hc hc2
    · rw [if_neg c2]
      exact h
  · rw [if_neg c1]
    exact h
theorem wf272 {A : aS} {x1 x2 x3 : Int} (h : WF A) : WF (o272 A x1 x2 x3).2 := by
  unfold o272
  by_cases c1 : 0 ≤ x1 ∧ x1 ≤ A 91 40 - 1
  · rw [if_pos c1]
    by_cases c2 : A 122 x1.toNat ≤ x2 ∧ x2 ≤ Int.tdiv (A 91 0) 100
    · rw [if_pos c2]
      by_cases c3 : 0 ≤ x3 ∧ x3 ≤ 100
      · rw [if_pos c3]
        show WF (u2 A 123 ((8 * x1) + x2).toNat ((max x3 (A 123 ((8 * x1) + x2).toNat))))
        refine ⟨(WfA.ko h.1 (Ko.set (Ko.refl _ _ _) rfl)), (WfP.ko h.2.1 (Ko.set (Ko.refl _ _ _) rfl)), ?_, (WfV.ko h.2.2.2.1 (Ko.set (Ko.refl _ _ _) rfl)), (WfX.ko h.2.2.2.2.1 (Ko.set (Ko.refl _ _ _) rfl)), (WfB.ko h.2.2.2.2.2.1 (Ko.set (Ko.refl _ _ _) rfl)), (WfL.ko h.2.2.2.2.2.2.1 (Ko.set (Ko.refl _ _ _) rfl)), (WfF.ko h.2.2.2.2.2.2.2.1 (Ko.set (Ko.refl _ _ _) rfl)), (WfD.ko h.2.2.2.2.2.2.2.2.1 (Ko.set (Ko.refl _ _ _) rfl)), (WfE.ko h.2.2.2.2.2.2.2.2.2.1 (Ko.set (Ko.refl _ _ _) rfl)), (WfC.ko h.2.2.2.2.2.2.2.2.2.2.1 (Ko.set (Ko.refl _ _ _) rfl) h.n7), (WfW.ko h.2.2.2.2.2.2.2.2.2.2.2 h.2.2.2.2.2.2.2.2.2.2.1 (Ko.set (Ko.refl _ _ _) rfl) h.n7)⟩
        · have ht : Int.tdiv (A 91 0) 100 = A 91 0 / 100 := Int.tdiv_eq_ediv_of_nonneg h.1.1.1
          have h00 := h.1.1
          have h01 := h.1.2.1
          have h02 := h.1.2.2.1
          obtain ⟨g1, g2, g3, g4, g5⟩ := h.2.2.1
          refine ⟨g1, fun t ht2 => ?_, g3, g4, g5⟩
          have g := g2 t ht2
          refine ⟨g.1, g.2.1, fun y hy => ?_⟩
          have gy := g.2.2 y hy
          by_cases hkn : 8 * t + y = ((8 * x1) + x2).toNat
          · rw [← hkn, v2_eq]
            omega
          · rw [v2_nk hkn]
            exact gy
      · rw [if_neg c3]
        exact h
    · rw [if_neg c2]
      exact h
  · rw [if_neg c1]
    exact h
theorem wf275 {A : aS} {x1 x2 x3 : Int} (h : WF A) : WF (o275 A x1 x2 x3).2 := by
  unfold o275
  by_cases c1 : 0 ≤ x1 ∧ x1 ≤ A 91 1 - 1
  · rw [if_pos c1]
    by_cases c2 : 0 ≤ x2 ∧ x2 ≤ 5
    · rw [if_pos c2]
      by_cases c3 : (-1) ≤ x3 ∧ x3 ≤ 100
      · rw [if_pos c3]
        show WF (u2 A 97 ((6 * x1) + x2).toNat (x3))
        refine ⟨(WfA.ko h.1 (Ko.set (Ko.refl _ _ _) rfl)), (WfP.ko h.2.1 (Ko.set (Ko.refl _ _ _) rfl)), (WfT.ko h.2.2.1 (Ko.set (Ko.refl _ _ _) rfl)), (WfV.ko h.2.2.2.1 (Ko.set (Ko.refl _ _ _) rfl)), (WfX.ko h.2.2.2.2.1 (Ko.set (Ko.refl _ _ _) rfl)), (WfB.ko h.2.2.2.2.2.1 (Ko.set (Ko.refl _ _ _) rfl)), (WfL.ko h.2.2.2.2.2.2.1 (Ko.set (Ko.refl _ _ _) rfl)), (WfF.ko h.2.2.2.2.2.2.2.1 (Ko.set (Ko.refl _ _ _) rfl)), (WfD.ko h.2.2.2.2.2.2.2.2.1 (Ko.set (Ko.refl _ _ _) rfl)), ?_, (WfC.ko h.2.2.2.2.2.2.2.2.2.2.1 (Ko.set (Ko.refl _ _ _) rfl) h.n7), (WfW.ko h.2.2.2.2.2.2.2.2.2.2.2 h.2.2.2.2.2.2.2.2.2.2.1 (Ko.set (Ko.refl _ _ _) rfl) h.n7)⟩
        · have g := h.2.2.2.2.2.2.2.2.2.1
          refine ⟨fun k hk => ?_, g.2⟩
          have gk := g.1 k hk
          by_cases hkn : k = ((6 * x1) + x2).toNat
          · rw [hkn, v2_eq]; exact c3
          · rw [v2_nk hkn]; exact gk
      · rw [if_neg c3]
        exact h
    · rw [if_neg c2]
      exact h
  · rw [if_neg c1]
    exact h
theorem wf283 {A : aS} {x1 x2 : Int} (h : WF A) : WF (o283 A x1 x2).2 := by
  unfold o283
  by_cases c1 : 0 ≤ x1 ∧ x1 ≤ 60
  · rw [if_pos c1]
    by_cases c2 : 0 ≤ x2 ∧ x2 ≤ 60
    · rw [if_pos c2]
      by_cases c3 : A 91 54 = 10
      · rw [if_pos c3]
        exact h
      · rw [if_neg c3]
        show WF (u2 (u2 (u2 A 131 (A 91 54).toNat (x1)) 132 (A 91 54).toNat (x2)) 91 54 ((A 91 54 + 1)))
        refine ⟨(WfA.ko h.1 (Ko.set (Ko.set (Ko.set (Ko.refl _ _ _) rfl) rfl) rfl)), (WfP.ko h.2.1 (Ko.set (Ko.set (Ko.set (Ko.refl _ _ _) rfl) rfl) rfl)), (WfT.ko h.2.2.1 (Ko.set (Ko.set (Ko.set (Ko.refl _ _ _) rfl) rfl) rfl)), (WfV.ko h.2.2.2.1 (Ko.set (Ko.set (Ko.set (Ko.refl _ _ _) rfl) rfl) rfl)), ?_, (WfB.ko h.2.2.2.2.2.1 (Ko.set (Ko.set (Ko.set (Ko.refl _ _ _) rfl) rfl) rfl)), (WfL.ko h.2.2.2.2.2.2.1 (Ko.set (Ko.set (Ko.set (Ko.refl _ _ _) rfl) rfl) rfl)), (WfF.ko h.2.2.2.2.2.2.2.1 (Ko.set (Ko.set (Ko.set (Ko.refl _ _ _) rfl) rfl) rfl)), (WfD.ko h.2.2.2.2.2.2.2.2.1 (Ko.set (Ko.set (Ko.set (Ko.refl _ _ _) rfl) rfl) rfl)), (WfE.ko h.2.2.2.2.2.2.2.2.2.1 (Ko.set (Ko.set (Ko.set (Ko.refl _ _ _) rfl) rfl) rfl)), (WfC.ko h.2.2.2.2.2.2.2.2.2.2.1 (Ko.set (Ko.set (Ko.set (Ko.refl _ _ _) rfl) rfl) rfl) h.n7), (WfW.ko h.2.2.2.2.2.2.2.2.2.2.2 h.2.2.2.2.2.2.2.2.2.2.1 (Ko.set (Ko.set (Ko.set (Ko.refl _ _ _) rfl) rfl) rfl) h.n7)⟩
        · obtain ⟨g1, g2, g3, g4⟩ := h.2.2.2.2.1
          refine ⟨?_, g2, g3, ?_⟩
          · simp [u2]; omega
          · intro k hk
            have hk2 : k < (A 91 54).toNat + 1 := by simp [u2] at hk; omega
            by_cases hkn : k = (A 91 54).toNat
            · subst hkn
              simp [u2]
              omega
            · have g := g4 k (by omega)
              simp [u2, hkn]
              simpa using g
    · rw [if_neg c2]
      exact h
  · rw [if_neg c1]
    exact h
theorem wf287 {A : aS} {x1 : Int} (h : WF A) : WF (o287 A x1).2 := by
  unfold o287
  by_cases c1 : 0 ≤ x1 ∧ x1 ≤ 3
  · rw [if_pos c1]
    by_cases c2 : A 91 57 = 0
    · rw [if_pos c2]
      exact h
    · rw [if_neg c2]
      by_cases c3 : A 91 58 = 10
      · rw [if_pos c3]
        exact h
      · rw [if_neg c3]
        show WF (u2 (u2 A 133 (A 91 58).toNat (x1)) 91 58 ((A 91 58 + 1)))
        refine ⟨(WfA.ko h.1 (Ko.set (Ko.set (Ko.refl _ _ _) rfl) rfl)), (WfP.ko h.2.1 (Ko.set (Ko.set (Ko.refl _ _ _) rfl) rfl)), (WfT.ko h.2.2.1 (Ko.set (Ko.set (Ko.refl _ _ _) rfl) rfl)), ?_, (WfX.ko h.2.2.2.2.1 (Ko.set (Ko.set (Ko.refl _ _ _) rfl) rfl)), (WfB.ko h.2.2.2.2.2.1 (Ko.set (Ko.set (Ko.refl _ _ _) rfl) rfl)), (WfL.ko h.2.2.2.2.2.2.1 (Ko.set (Ko.set (Ko.refl _ _ _) rfl) rfl)), (WfF.ko h.2.2.2.2.2.2.2.1 (Ko.set (Ko.set (Ko.refl _ _ _) rfl) rfl)), (WfD.ko h.2.2.2.2.2.2.2.2.1 (Ko.set (Ko.set (Ko.refl _ _ _) rfl) rfl)), (WfE.ko h.2.2.2.2.2.2.2.2.2.1 (Ko.set (Ko.set (Ko.refl _ _ _) rfl) rfl)), (WfC.ko h.2.2.2.2.2.2.2.2.2.2.1 (Ko.set (Ko.set (Ko.refl _ _ _) rfl) rfl) h.n7), (WfW.ko h.2.2.2.2.2.2.2.2.2.2.2 h.2.2.2.2.2.2.2.2.2.2.1 (Ko.set (Ko.set (Ko.refl _ _ _) rfl) rfl) h.n7)⟩
        · obtain ⟨g1, g2, g3, g4, g5, g6, g7⟩ := h.2.2.2.1
          refine ⟨g1, ?_, g3, ?_, g5, ?_, ?_⟩
          · simp [u2]; omega
          · intro k hk
            have hk2 : k < (A 91 58).toNat + 1 := by simp [u2] at hk; omega
            by_cases hkn : k = (A 91 58).toNat
            · subst hkn
              simp [u2]
              omega
            · have g := g4 k (by omega)
              simp [u2, hkn]
              simpa using g
          · intro b c hb hc hbc
            have g := g6 b c hb hc
            simp [u2] at hbc ⊢
            exact g (by omega)
          · intro q
            exact absurd q c2
  · rw [if_neg c1]
    exact h
theorem wf288 {A : aS}  (h : WF A) : WF (o288 A ).2 := by
  unfold o288
  by_cases c1 : A 91 57 = 0
  · rw [if_pos c1]
    exact h
  · rw [if_neg c1]
    by_cases c2 : A 91 59 = 60
    · rw [if_pos c2]
      exact h
    · rw [if_neg c2]
      show WF (u2 A 91 59 ((A 91 59 + 1)))
      refine ⟨(WfA.ko h.1 (Ko.set (Ko.refl _ _ _) rfl)), (WfP.ko h.2.1 (Ko.set (Ko.refl _ _ _) rfl)), (WfT.ko h.2.2.1 (Ko.set (Ko.refl _ _ _) rfl)), ?_, (WfX.ko h.2.2.2.2.1 (Ko.set (Ko.refl _ _ _) rfl)), (WfB.ko h.2.2.2.2.2.1 (Ko.set (Ko.refl _ _ _) rfl)), (WfL.ko h.2.2.2.2.2.2.1 (Ko.set (Ko.refl _ _ _) rfl)), (WfF.ko h.2.2.2.2.2.2.2.1 (Ko.set (Ko.refl _ _ _) rfl)), (WfD.ko h.2.2.2.2.2.2.2.2.1 (Ko.set (Ko.refl _ _ _) rfl)), (WfE.ko h.2.2.2.2.2.2.2.2.2.1 (Ko.set (Ko.refl _ _ _) rfl)), (WfC.ko h.2.2.2.2.2.2.2.2.2.2.1 (Ko.set (Ko.refl _ _ _) rfl) h.n7), (WfW.ko h.2.2.2.2.2.2.2.2.2.2.2 h.2.2.2.2.2.2.2.2.2.2.1 (Ko.set (Ko.refl _ _ _) rfl) h.n7)⟩
      · obtain ⟨g1, g2, g3, g4, g5, g6, g7⟩ := h.2.2.2.1
        refine ⟨g1, g2, ?_, g4, g5, ?_, ?_⟩
        · simp [u2]; omega
        · intro b c hb hc hbc
          have g := g6 b c hb hc
          simp [u2] at hbc ⊢
          exact g (by omega)
        · intro q
          exact absurd q c1
theorem wf289 {A : aS} {x1 x2 x3 : Int} (h : WF A) : WF (o289 A x1 x2 x3).2 := by
  unfold o289
  by_cases c1 : 0 ≤ x1 ∧ x1 ≤ A 91 59 - 1
  · rw [if_pos c1]
    by_cases c2 : 0 ≤ x2 ∧ x2 ≤ A 91 58 - 1
    · rw [if_pos c2]
      by_cases c3 : 0 ≤ x3 ∧ x3 ≤ 9
      · rw [if_pos c3]
        by_cases c4 : heapS A x1 x2 x3 ≤ A 91 57
        · rw [if_pos c4]
          show WF (u2 A 134 (10 * x1 + x2).toNat x3)
          refine ⟨(WfA.ko h.1 (Ko.set (Ko.refl _ _ _) rfl)), (WfP.ko h.2.1 (Ko.set (Ko.refl _ _ _) rfl)), (WfT.ko h.2.2.1 (Ko.set (Ko.refl _ _ _) rfl)), ?_, (WfX.ko h.2.2.2.2.1 (Ko.set (Ko.refl _ _ _) rfl)), (WfB.ko h.2.2.2.2.2.1 (Ko.set (Ko.refl _ _ _) rfl)), (WfL.ko h.2.2.2.2.2.2.1 (Ko.set (Ko.refl _ _ _) rfl)), (WfF.ko h.2.2.2.2.2.2.2.1 (Ko.set (Ko.refl _ _ _) rfl)), (WfD.ko h.2.2.2.2.2.2.2.2.1 (Ko.set (Ko.refl _ _ _) rfl)), (WfE.ko h.2.2.2.2.2.2.2.2.2.1 (Ko.set (Ko.refl _ _ _) rfl)), (WfC.ko h.2.2.2.2.2.2.2.2.2.2.1 (Ko.set (Ko.refl _ _ _) rfl) h.n7), (WfW.ko h.2.2.2.2.2.2.2.2.2.2.2 h.2.2.2.2.2.2.2.2.2.2.1 (Ko.set (Ko.refl _ _ _) rfl) h.n7)⟩
          · obtain ⟨g1, g2, g3, g4, g5, g6, g7⟩ := h.2.2.2.1
            refine ⟨g1, g2, g3, g4, ?_, ?_, g7⟩
            · intro k hk
              by_cases hkn : k = (10 * x1 + x2).toNat
              · rw [hkn, v2_eq]; exact c3
              · rw [v2_nk hkn]; exact g5 k hk
            · intro b c hb hc hbc
              have hbc2 : (A 91 59).toNat ≤ b ∨ (A 91 58).toNat ≤ c := hbc
              rw [v2_nk (by omega)]
              exact g6 b c hb hc hbc2
        · rw [if_neg c4]
          exact h
      · rw [if_neg c3]
        exact h
    · rw [if_neg c2]
      exact h
  · rw [if_neg c1]
    exact h
theorem wf295 {A : aS} {x1 : Int} (h : WF A) : WF (o295 A x1).2 := by
  unfold o295
  by_cases c1 : 1 ≤ x1 ∧ x1 ≤ 500
  · rw [if_pos c1]
    by_cases c2 : A 91 63 = 40
    · rw [if_pos c2]
      exact h
    · rw [if_neg c2]
      show WF (u2 (u2 A 136 (A 91 63).toNat (x1)) 91 63 ((A 91 63 + 1)))
      refine ⟨(WfA.ko h.1 (Ko.set (Ko.set (Ko.refl _ _ _) rfl) rfl)), (WfP.ko h.2.1 (Ko.set (Ko.set (Ko.refl _ _ _) rfl) rfl)), ?_, (WfV.ko h.2.2.2.1 (Ko.set (Ko.set (Ko.refl _ _ _) rfl) rfl)), (WfX.ko h.2.2.2.2.1 (Ko.set (Ko.set (Ko.refl _ _ _) rfl) rfl)), (WfB.ko h.2.2.2.2.2.1 (Ko.set (Ko.set (Ko.refl _ _ _) rfl) rfl)), (WfL.ko h.2.2.2.2.2.2.1 (Ko.set (Ko.set (Ko.refl _ _ _) rfl) rfl)), (WfF.ko h.2.2.2.2.2.2.2.1 (Ko.set (Ko.set (Ko.refl _ _ _) rfl) rfl)), (WfD.ko h.2.2.2.2.2.2.2.2.1 (Ko.set (Ko.set (Ko.refl _ _ _) rfl) rfl)), (WfE.ko h.2.2.2.2.2.2.2.2.2.1 (Ko.set (Ko.set (Ko.refl _ _ _) rfl) rfl)), (WfC.ko h.2.2.2.2.2.2.2.2.2.2.1 (Ko.set (Ko.set (Ko.refl _ _ _) rfl) rfl) h.n7), (WfW.ko h.2.2.2.2.2.2.2.2.2.2.2 h.2.2.2.2.2.2.2.2.2.2.1 (Ko.set (Ko.set (Ko.refl _ _ _) rfl) rfl) h.n7)⟩
      · have ht : Int.tdiv (A 91 0) 100 = A 91 0 / 100 := Int.tdiv_eq_ediv_of_nonneg h.1.1.1
        have h00 := h.1.1
        have h01 := h.1.2.1
        have h02 := h.1.2.2.1
        obtain ⟨g1, g2, g3, g4, g5⟩ := h.2.2.1
        refine ⟨g1, g2, ?_, ?_, g5⟩
        · simp [u2]; omega
        · intro k hk
          have hk2 : k < (A 91 63).toNat + 1 := by simp [u2] at hk; omega
          by_cases hkn : k = (A 91 63).toNat
          · subst hkn
            simp [u2]
            omega
          · have g := g4 k (by omega)
            simp [u2, hkn]
            simpa using g
  · rw [if_neg c1]
    exact h
theorem Ko.fl {ks rs : List Nat} {A A1 : aS} {a b : Nat} {v : Int} (h : Ko ks rs A A1) (hp : ∀ k, dp ks rs a k = false) : ∀ n, Ko ks rs A (fl A1 a b v n)
  | 0 => h
  | n + 1 => (Ko.fl h hp n).set (hp _)
theorem fl_in {A : aS} {a b : Nat} {v : Int} {j : Nat} : ∀ n, fl A a b v n a j = if b ≤ j ∧ j < b + n then v else A a j
  | 0 => by rw [if_neg (by omega)]; rfl
  | n + 1 => by
    show u2 (fl A a b v n) a (b + n) v a j = _
    by_cases q : j = b + n
    · rw [q, v2_eq, if_pos (by omega)]
    · rw [v2_nk q, fl_in n]
      by_cases q2 : b ≤ j ∧ j < b + n
      · rw [if_pos q2, if_pos (by omega)]
      · rw [if_neg q2, if_neg (by omega)]
theorem iB_rng {x : Int} : -128 ≤ iB x ∧ iB x ≤ 127 := by
  unfold iB
  rw [Int8.toInt_toInt32]
  have h1 := Int8.le_toInt ((oI x).toInt8)
  have h2 := Int8.toInt_lt ((oI x).toInt8)
  omega
theorem Ko.fo {ks rs : List Nat} {A A1 : aS} {x : Int} (h : Ko ks rs A A1) (h1 : ∀ k, dp ks rs 152 k = false) (h2 : dp ks rs 91 67 = false) : ∀ n, Ko ks rs A (foS A1 x n)
  | 0 => h
  | n + 1 => ((Ko.fo h h1 h2 n).set (h1 _)).set h2
theorem fo_rng {A : aS} {x : Int} {j : Nat} (h : -128 ≤ A 152 j ∧ A 152 j ≤ 127) : ∀ n, -128 ≤ foS A x n 152 j ∧ foS A x n 152 j ≤ 127
  | 0 => h
  | n + 1 => by
    show -128 ≤ u2 (u2 (foS A x n) 152 ((A 91 67).toNat + n) (iB (iB (iShr x (24 - 8 * n))))) 91 67 (A 91 67 + n + 1) 152 j ∧ u2 (u2 (foS A x n) 152 ((A 91 67).toNat + n) (iB (iB (iShr x (24 - 8 * n))))) 91 67 (A 91 67 + n + 1) 152 j ≤ 127
    rw [v2_ne (by decide)]
    by_cases q : j = (A 91 67).toNat + n
    · rw [q, v2_eq]; exact iB_rng
    · rw [v2_nk q]; exact fo_rng h n
theorem wf271 {A : aS} {x1 : Int} (h : WF A) : WF (o271 A x1).2 := by
  unfold o271
  by_cases c1 : 0 ≤ x1 ∧ x1 ≤ A 91 2 - 1
  · rw [if_pos c1]
    by_cases c2 : A 91 40 = 20
    · rw [if_pos c2]
      exact h
    · rw [if_neg c2]
      show WF (u2 (fl (u2 (u2 A 121 (A 91 40).toNat x1) 122 (A 91 40).toNat (Int.tdiv (A 91 0) 100)) 123 (8 * A 91 40).toNat (-1) 8) 91 40 (A 91 40 + 1))
      refine ⟨(WfA.ko h.1 (Ko.set (Ko.fl (Ko.set (Ko.set (Ko.refl _ _ _) rfl) rfl) (fun _ => rfl) 8) rfl)), (WfP.ko h.2.1 (Ko.set (Ko.fl (Ko.set (Ko.set (Ko.refl _ _ _) rfl) rfl) (fun _ => rfl) 8) rfl)), ?_, (WfV.ko h.2.2.2.1 (Ko.set (Ko.fl (Ko.set (Ko.set (Ko.refl _ _ _) rfl) rfl) (fun _ => rfl) 8) rfl)), (WfX.ko h.2.2.2.2.1 (Ko.set (Ko.fl (Ko.set (Ko.set (Ko.refl _ _ _) rfl) rfl) (fun _ => rfl) 8) rfl)), (WfB.ko h.2.2.2.2.2.1 (Ko.set (Ko.fl (Ko.set (Ko.set (Ko.refl _ _ _) rfl) rfl) (fun _ => rfl) 8) rfl)), (WfL.ko h.2.2.2.2.2.2.1 (Ko.set (Ko.fl (Ko.set (Ko.set (Ko.refl _ _ _) rfl) rfl) (fun _ => rfl) 8) rfl)), (WfF.ko h.2.2.2.2.2.2.2.1 (Ko.set (Ko.fl (Ko.set (Ko.set (Ko.refl _ _ _) rfl) rfl) (fun _ => rfl) 8) rfl)), (WfD.ko h.2.2.2.2.2.2.2.2.1 (Ko.set (Ko.fl (Ko.set (Ko.set (Ko.refl _ _ _) rfl) rfl) (fun _ => rfl) 8) rfl)), (WfE.ko h.2.2.2.2.2.2.2.2.2.1 (Ko.set (Ko.fl (Ko.set (Ko.set (Ko.refl _ _ _) rfl) rfl) (fun _ => rfl) 8) rfl)), (WfC.ko h.2.2.2.2.2.2.2.2.2.2.1 (Ko.set (Ko.fl (Ko.set (Ko.set (Ko.refl _ _ _) rfl) rfl) (fun _ => rfl) 8) rfl) h.n7), (WfW.ko h.2.2.2.2.2.2.2.2.2.2.2 h.2.2.2.2.2.2.2.2.2.2.1 (Ko.set (Ko.fl (Ko.set (Ko.set (Ko.refl _ _ _) rfl) rfl) (fun _ => rfl) 8) rfl) h.n7)⟩
      · have ht : Int.tdiv (A 91 0) 100 = A 91 0 / 100 := Int.tdiv_eq_ediv_of_nonneg h.1.1.1
        have h00 := h.1.1
        have h01 := h.1.2.1
        have h02 := h.1.2.2.1
        obtain ⟨g1, g2, g3, g4, g5⟩ := h.2.2.1
        have f1 : ∀ r k : Nat, ¬ r = 91 → ¬ r = 123 → (u2 (fl (u2 (u2 A 121 (A 91 40).toNat x1) 122 (A 91 40).toNat (Int.tdiv (A 91 0) 100)) 123 (8 * A 91 40).toNat (-1) 8) 91 40 (A 91 40 + 1)) r k = u2 (u2 A 121 (A 91 40).toNat x1) 122 (A 91 40).toNat (Int.tdiv (A 91 0) 100) r k := fun r k h1 h2 => (v2_ne h1).trans (fl_o h2 8)
        have f2 : ∀ k : Nat, ¬ k = 40 → (u2 (fl (u2 (u2 A 121 (A 91 40).toNat x1) 122 (A 91 40).toNat (Int.tdiv (A 91 0) 100)) 123 (8 * A 91 40).toNat (-1) 8) 91 40 (A 91 40 + 1)) 91 k = A 91 k := fun k hk => (v2_nk hk).trans ((fl_o (by decide) 8).trans ((v2_ne (by decide)).trans (v2_ne (by decide))))
        have f3 : ∀ k : Nat, (u2 (fl (u2 (u2 A 121 (A 91 40).toNat x1) 122 (A 91 40).toNat (Int.tdiv (A 91 0) 100)) 123 (8 * A 91 40).toNat (-1) 8) 91 40 (A 91 40 + 1)) 123 k = if (8 * A 91 40).toNat ≤ k ∧ k < (8 * A 91 40).toNat + 8 then -1 else A 123 k := by
          intro k
          rw [v2_ne (by decide), fl_in 8, v2_ne (by decide), v2_ne (by decide)]
        refine ⟨?_, ?_, ?_, ?_, ?_⟩
        · rw [v2_eq]; omega
        · intro t htt
          rw [v2_eq] at htt
          rw [f1 121 t (by decide) (by decide), f1 122 t (by decide) (by decide), f2 2 (by decide)]
          by_cases q : t = (A 91 40).toNat
          · refine ⟨?_, ?_, fun y hy => ?_⟩
            · rw [q, v2_ne (by decide), v2_eq]; omega
            · rw [q, v2_eq]; omega
            · rw [f3, if_pos (by omega)]; decide
          · have g := g2 t (by omega)
            refine ⟨?_, ?_, fun y hy => ?_⟩
            · rw [v2_ne (by decide), v2_nk q]; exact g.1
            · rw [v2_nk q, v2_ne (by decide)]; exact g.2.1
            · rw [f3, if_neg (by omega)]; exact g.2.2 y hy
        · rw [f2 63 (by decide)]; exact g3
        · intro k hk
          rw [f2 63 (by decide)] at hk
          rw [f1 136 k (by decide) (by decide), v2_ne (by decide), v2_ne (by decide)]; exact g4 k hk
        · intro k hk
          rw [f2 2 (by decide)] at hk
          rw [f1 100 k (by decide) (by decide), v2_ne (by decide), v2_ne (by decide)]; exact g5 k hk
  · rw [if_neg c1]
    exact h
theorem wf286 {A : aS} {x1 : Int} (h : WF A) : WF (o286 A x1).2 := by
  unfold o286
  by_cases c1 : 1 ≤ x1 ∧ x1 ≤ 9
  · rw [if_pos c1]
    show WF (fl (u2 (u2 (u2 A 91 57 x1) 91 58 0) 91 59 0) 134 0 0 600)
    refine ⟨(WfA.ko h.1 (Ko.fl (Ko.set (Ko.set (Ko.set (Ko.refl _ _ _) rfl) rfl) rfl) (fun _ => rfl) 600)), (WfP.ko h.2.1 (Ko.fl (Ko.set (Ko.set (Ko.set (Ko.refl _ _ _) rfl) rfl) rfl) (fun _ => rfl) 600)), (WfT.ko h.2.2.1 (Ko.fl (Ko.set (Ko.set (Ko.set (Ko.refl _ _ _) rfl) rfl) rfl) (fun _ => rfl) 600)), ?_, (WfX.ko h.2.2.2.2.1 (Ko.fl (Ko.set (Ko.set (Ko.set (Ko.refl _ _ _) rfl) rfl) rfl) (fun _ => rfl) 600)), (WfB.ko h.2.2.2.2.2.1 (Ko.fl (Ko.set (Ko.set (Ko.set (Ko.refl _ _ _) rfl) rfl) rfl) (fun _ => rfl) 600)), (WfL.ko h.2.2.2.2.2.2.1 (Ko.fl (Ko.set (Ko.set (Ko.set (Ko.refl _ _ _) rfl) rfl) rfl) (fun _ => rfl) 600)), (WfF.ko h.2.2.2.2.2.2.2.1 (Ko.fl (Ko.set (Ko.set (Ko.set (Ko.refl _ _ _) rfl) rfl) rfl) (fun _ => rfl) 600)), (WfD.ko h.2.2.2.2.2.2.2.2.1 (Ko.fl (Ko.set (Ko.set (Ko.set (Ko.refl _ _ _) rfl) rfl) rfl) (fun _ => rfl) 600)), (WfE.ko h.2.2.2.2.2.2.2.2.2.1 (Ko.fl (Ko.set (Ko.set (Ko.set (Ko.refl _ _ _) rfl) rfl) rfl) (fun _ => rfl) 600)), (WfC.ko h.2.2.2.2.2.2.2.2.2.2.1 (Ko.fl (Ko.set (Ko.set (Ko.set (Ko.refl _ _ _) rfl) rfl) rfl) (fun _ => rfl) 600) h.n7), (WfW.ko h.2.2.2.2.2.2.2.2.2.2.2 h.2.2.2.2.2.2.2.2.2.2.1 (Ko.fl (Ko.set (Ko.set (Ko.set (Ko.refl _ _ _) rfl) rfl) rfl) (fun _ => rfl) 600) h.n7)⟩
    · have f1 : ∀ k : Nat, (fl (u2 (u2 (u2 A 91 57 x1) 91 58 0) 91 59 0) 134 0 0 600) 91 k = u2 (u2 (u2 A 91 57 x1) 91 58 0) 91 59 0 91 k := fun k => fl_o (by decide) 600
      have f2 : ∀ k : Nat, k < 600 → (fl (u2 (u2 (u2 A 91 57 x1) 91 58 0) 91 59 0) 134 0 0 600) 134 k = 0 := fun k hk => by rw [fl_in 600, if_pos (by omega)]
      have e57 : (fl (u2 (u2 (u2 A 91 57 x1) 91 58 0) 91 59 0) 134 0 0 600) 91 57 = x1 := by rw [f1, v2_nk (by decide), v2_nk (by decide), v2_eq]
      have e58 : (fl (u2 (u2 (u2 A 91 57 x1) 91 58 0) 91 59 0) 134 0 0 600) 91 58 = 0 := by rw [f1, v2_nk (by decide), v2_eq]
      have e59 : (fl (u2 (u2 (u2 A 91 57 x1) 91 58 0) 91 59 0) 134 0 0 600) 91 59 = 0 := by rw [f1, v2_eq]
      refine ⟨?_, ?_, ?_, fun c hc => ?_, fun k hk => ?_, fun b c hb hc _ => f2 _ (by omega), fun _ => ⟨e58, e59⟩⟩
      · rw [e57]; omega
      · rw [e58]; decide
      · rw [e59]; decide
      · rw [e58] at hc; exact absurd hc (by omega)
      · rw [f2 k hk]; decide
  · rw [if_neg c1]
    exact h
theorem wf299 {A : aS} {x1 x2 x3 x4 x5 : Int} (h : WF A) : WF (o299 A x1 x2 x3 x4 x5).2 := by
  unfold o299
  by_cases c1 : 800 < A 91 67 + 20
  · rw [if_pos c1]
    exact h
  · rw [if_neg c1]
    show WF (foS (foS (foS (foS (foS A x1 4) x2 4) x3 4) x4 4) x5 4)
    refine ⟨(WfA.ko h.1 (Ko.fo (Ko.fo (Ko.fo (Ko.fo (Ko.fo (Ko.refl _ _ _) (fun _ => rfl) rfl 4) (fun _ => rfl) rfl 4) (fun _ => rfl) rfl 4) (fun _ => rfl) rfl 4) (fun _ => rfl) rfl 4)), (WfP.ko h.2.1 (Ko.fo (Ko.fo (Ko.fo (Ko.fo (Ko.fo (Ko.refl _ _ _) (fun _ => rfl) rfl 4) (fun _ => rfl) rfl 4) (fun _ => rfl) rfl 4) (fun _ => rfl) rfl 4) (fun _ => rfl) rfl 4)), (WfT.ko h.2.2.1 (Ko.fo (Ko.fo (Ko.fo (Ko.fo (Ko.fo (Ko.refl _ _ _) (fun _ => rfl) rfl 4) (fun _ => rfl) rfl 4) (fun _ => rfl) rfl 4) (fun _ => rfl) rfl 4) (fun _ => rfl) rfl 4)), (WfV.ko h.2.2.2.1 (Ko.fo (Ko.fo (Ko.fo (Ko.fo (Ko.fo (Ko.refl _ _ _) (fun _ => rfl) rfl 4) (fun _ => rfl) rfl 4) (fun _ => rfl) rfl 4) (fun _ => rfl) rfl 4) (fun _ => rfl) rfl 4)), (WfX.ko h.2.2.2.2.1 (Ko.fo (Ko.fo (Ko.fo (Ko.fo (Ko.fo (Ko.refl _ _ _) (fun _ => rfl) rfl 4) (fun _ => rfl) rfl 4) (fun _ => rfl) rfl 4) (fun _ => rfl) rfl 4) (fun _ => rfl) rfl 4)), (WfB.ko h.2.2.2.2.2.1 (Ko.fo (Ko.fo (Ko.fo (Ko.fo (Ko.fo (Ko.refl _ _ _) (fun _ => rfl) rfl 4) (fun _ => rfl) rfl 4) (fun _ => rfl) rfl 4) (fun _ => rfl) rfl 4) (fun _ => rfl) rfl 4)), (WfL.ko h.2.2.2.2.2.2.1 (Ko.fo (Ko.fo (Ko.fo (Ko.fo (Ko.fo (Ko.refl _ _ _) (fun _ => rfl) rfl 4) (fun _ => rfl) rfl 4) (fun _ => rfl) rfl 4) (fun _ => rfl) rfl 4) (fun _ => rfl) rfl 4)), ?_, ?_, (WfE.ko h.2.2.2.2.2.2.2.2.2.1 (Ko.fo (Ko.fo (Ko.fo (Ko.fo (Ko.fo (Ko.refl _ _ _) (fun _ => rfl) rfl 4) (fun _ => rfl) rfl 4) (fun _ => rfl) rfl 4) (fun _ => rfl) rfl 4) (fun _ => rfl) rfl 4)), (WfC.ko h.2.2.2.2.2.2.2.2.2.2.1 (Ko.fo (Ko.fo (Ko.fo (Ko.fo (Ko.fo (Ko.refl _ _ _) (fun _ => rfl) rfl 4) (fun _ => rfl) rfl 4) (fun _ => rfl) rfl 4) (fun _ => rfl) rfl 4) (fun _ => rfl) rfl 4) h.n7), (WfW.ko h.2.2.2.2.2.2.2.2.2.2.2 h.2.2.2.2.2.2.2.2.2.2.1 (Ko.fo (Ko.fo (Ko.fo (Ko.fo (Ko.fo (Ko.refl _ _ _) (fun _ => rfl) rfl 4) (fun _ => rfl) rfl 4) (fun _ => rfl) rfl 4) (fun _ => rfl) rfl 4) (fun _ => rfl) rfl 4) h.n7)⟩
    · have g := h.2.2.2.2.2.2.2.1
      unfold WfF at g ⊢
      rw [fo67, fo67, fo67, fo67, fo67]
      omega
    · have g := h.2.2.2.2.2.2.2.2.1
      refine ⟨?_, fun j hj => fo_rng (fo_rng (fo_rng (fo_rng (fo_rng (g.2 j hj) 4) 4) 4) 4) 4⟩
      have k1 : Ko [66, 65] [] A (foS (foS (foS (foS (foS A x1 4) x2 4) x3 4) x4 4) x5 4) := (Ko.fo (Ko.fo (Ko.fo (Ko.fo (Ko.fo (Ko.refl _ _ _) (fun _ => rfl) rfl 4) (fun _ => rfl) rfl 4) (fun _ => rfl) rfl 4) (fun _ => rfl) rfl 4) (fun _ => rfl) rfl 4)
      rw [k1 91 66 rfl, k1 91 65 rfl]
      exact g.1
