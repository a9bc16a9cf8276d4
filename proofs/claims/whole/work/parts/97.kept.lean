/-! each call of the reference keeps it well -/
def NkOk (A : aS) (kd w a b c : Int) : Prop := (0 ≤ kd ∧ kd ≤ 6) ∧ (kd = 1 → 0 ≤ w ∧ w < A 91 2) ∧ (¬ kd = 1 → 0 ≤ w ∧ w < A 91 1) ∧ (kd = 0 → (-1 ≤ a ∧ a < A 91 2) ∧ (0 ≤ b ∧ b ≤ A 91 0)) ∧ (kd = 1 ∨ (3 ≤ kd ∧ kd ≤ 5) → 0 ≤ a ∧ a ≤ b ∧ b ≤ 799) ∧ (kd = 2 → 0 ≤ a ∧ a ≤ b ∧ b ≤ 1599 ∧ 0 ≤ c ∧ c ≤ 3) ∧ (kd = 3 → 0 ≤ c ∧ c ≤ 5) ∧ (kd = 6 → (0 ≤ a ∧ a ≤ 7) ∧ (0 ≤ b ∧ b ≤ 5) ∧ (0 ≤ c ∧ c ≤ 100))
def mxN (j : Nat) : Int := if j = 0 then 150 else if j = 1 then 30 else if j = 2 then 300 else if j = 3 then 60 else if j = 4 then 30 else if j = 5 then 30 else 250
section
variable {A : aS} {kd w a b c : Int} {j : Nat}
theorem wfNt (h : WF A) (hj : kd = (j : Int)) (hm : A 110 j < mxN j) (hK : NkOk A kd w a b c) : WF (u2 (u2 (u2 (u2 (u2 (u2 (u2 (u2 (u2 A 103 (A 91 3).toNat kd) 104 (A 91 3).toNat w) 105 (A 91 3).toNat a) 106 (A 91 3).toNat b) 107 (A 91 3).toNat c) 108 (A 91 3).toNat (A 91 0)) 109 (A 91 3).toNat 5000) 110 j (A 110 j + 1)) 91 3 (A 91 3 + 1)) := by
  have hA := h.1
  have hB := h.2.2.2.2.2.1
  have hL := h.2.2.2.2.2.2.1
  have h0 := hA.1
  have hN := hA.2.2.2.1
  have hk6 := hK.1
  unfold WfB at hB
  unfold WfN at hN
  have hj7 : j = 0 ∨ j = 1 ∨ j = 2 ∨ j = 3 ∨ j = 4 ∨ j = 5 ∨ j = 6 := by omega
  have hlt : A 91 3 < 850 := by
    rcases hj7 with rfl | rfl | rfl | rfl | rfl | rfl | rfl <;> simp [mxN] at hm <;> omega
  refine ⟨⟨h0, hA.2.1, hA.2.2.1, ?_, ?_⟩, (WfP.ko h.2.1 (Ko.set (Ko.set (Ko.set (Ko.set (Ko.set (Ko.set (Ko.set (Ko.set (Ko.set (Ko.refl _ _ _) rfl) rfl) rfl) rfl) rfl) rfl) rfl) rfl) rfl)), (WfT.ko h.2.2.1 (Ko.set (Ko.set (Ko.set (Ko.set (Ko.set (Ko.set (Ko.set (Ko.set (Ko.set (Ko.refl _ _ _) rfl) rfl) rfl) rfl) rfl) rfl) rfl) rfl) rfl)), (WfV.ko h.2.2.2.1 (Ko.set (Ko.set (Ko.set (Ko.set (Ko.set (Ko.set (Ko.set (Ko.set (Ko.set (Ko.refl _ _ _) rfl) rfl) rfl) rfl) rfl) rfl) rfl) rfl) rfl)), (WfX.ko h.2.2.2.2.1 (Ko.set (Ko.set (Ko.set (Ko.set (Ko.set (Ko.set (Ko.set (Ko.set (Ko.set (Ko.refl _ _ _) rfl) rfl) rfl) rfl) rfl) rfl) rfl) rfl) rfl)), ?_, ?_, (WfF.ko h.2.2.2.2.2.2.2.1 (Ko.set (Ko.set (Ko.set (Ko.set (Ko.set (Ko.set (Ko.set (Ko.set (Ko.set (Ko.refl _ _ _) rfl) rfl) rfl) rfl) rfl) rfl) rfl) rfl) rfl)), (WfD.ko h.2.2.2.2.2.2.2.2.1 (Ko.set (Ko.set (Ko.set (Ko.set (Ko.set (Ko.set (Ko.set (Ko.set (Ko.set (Ko.refl _ _ _) rfl) rfl) rfl) rfl) rfl) rfl) rfl) rfl) rfl)), (WfE.ko h.2.2.2.2.2.2.2.2.2.1 (Ko.set (Ko.set (Ko.set (Ko.set (Ko.set (Ko.set (Ko.set (Ko.set (Ko.set (Ko.refl _ _ _) rfl) rfl) rfl) rfl) rfl) rfl) rfl) rfl) rfl)), (WfC.ko h.2.2.2.2.2.2.2.2.2.2.1 (Ko.set (Ko.set (Ko.set (Ko.set (Ko.set (Ko.set (Ko.set (Ko.set (Ko.set (Ko.refl _ _ _) rfl) rfl) rfl) rfl) rfl) rfl) rfl) rfl) rfl) h.n7), (WfW.ko h.2.2.2.2.2.2.2.2.2.2.2 h.2.2.2.2.2.2.2.2.2.2.1 (Ko.set (Ko.set (Ko.set (Ko.set (Ko.set (Ko.set (Ko.set (Ko.set (Ko.set (Ko.refl _ _ _) rfl) rfl) rfl) rfl) rfl) rfl) rfl) rfl) rfl) h.n7)⟩
  · unfold WfN
    rw [v2_eq]; omega
  · intro k hk
    have hk' : k < (A 91 3).toNat + 1 := by
      unfold nN at hk
      rw [v2_eq] at hk; omega
    by_cases hkn : k = (A 91 3).toNat
    · subst hkn
      unfold WfK
      simp only [u2]
      simp
      unfold NkOk at hK
      omega
    · have g := hA.2.2.2.2 k (by unfold nN; omega)
      unfold WfK at g ⊢
      simp only [u2]
      simp [hkn]
      simpa using g
  · unfold WfB
    rcases hj7 with rfl | rfl | rfl | rfl | rfl | rfl | rfl <;> simp only [u2] <;> simp <;> simp [mxN] at hm <;> omega
  · unfold WfL at hL ⊢
    rw [v2_nk (by decide), v2_eq, show (A 91 3 + 1).toNat = (A 91 3).toNat + 1 by omega]
    show _ = ((unL _ (A 91 3).toNat + (if _ = (5000 : Int) then 0 else 1) : Nat) : Int)
    rw [if_pos (by simp [u2]), unL_eq (A := A) _ (fun k hk => by have hkn : ¬ k = (A 91 3).toNat := by omega
                                                                 simp [u2, hkn])]
    simp [u2]
    exact hL
end
