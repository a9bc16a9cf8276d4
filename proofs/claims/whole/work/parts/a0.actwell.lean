/-! act keeps it well, but for how long what is written grows -/
theorem ActX.ko {A A1 : aS} {ks rs : List Nat} (hx : ActX A A1) (h1 : ∀ k ∈ ks, k ≠ 65 ∧ k ≠ 66 ∧ k ≠ 67 ∧ k ≠ 71) (h2 : ∀ a ∈ rs, a ≠ 91 ∧ ¬ (137 ≤ a ∧ a ≤ 149)) : Ko ks rs A A1 := by
  intro a k hd
  unfold dp at hd
  split at hd
  · rename_i q
    have g := h1 k (List.contains_iff_mem.mp hd)
    exact hx a k (by omega) (by omega) (by omega) (by omega)
  · have g := h2 a (List.contains_iff_mem.mp hd)
    exact hx a k (by omega) (by omega) (by omega) (by omega)
theorem StmB.wf {A : aS} {s : Nat} {o : Stm} (h : StmB s A o) (hk : StmOk o) (h7 : A 91 66 ≤ 7200) : WfS A s := by
  obtain ⟨n, b, t⟩ := o
  obtain ⟨k1, k2⟩ := hk
  obtain ⟨h1, h2⟩ := h
  dsimp only at k1 k2 h1 h2
  unfold WfS
  by_cases q : b.1 = 0
  · rw [if_pos q] at h2
    exact ⟨by rw [h1]; exact k1, by rw [h2]; decide, fun z => absurd h2 z⟩
  · rw [if_neg q] at h2
    obtain ⟨⟨s1, s2, s3⟩, w⟩ := h2
    rcases k2 with k2 | ⟨⟨b1, b2, b3, b4, b5, b6, b7⟩, k3⟩
    · exact absurd k2 q
    refine ⟨by rw [h1]; exact k1, by rw [s1]; omega, fun _ => ⟨fun z => ?_, fun z => ?_, fun z => ?_, fun z => ?_, fun z => ?_, fun z => ?_, fun z => ?_, ?_⟩⟩
    · rw [s1] at z; rw [s2 z]; exact b2 z
    · rw [s1] at z; rw [s3 (by omega)]; exact b3 z
    · rw [s1] at z; rw [s3 (by omega)]; exact b4 z
    · rw [s1] at z; rw [s2 (by omega), s3 (by omega)]; exact b5 z
    · rw [s1] at z; rw [s2 (by omega), s3 (by omega)]; exact b6 z
    · rw [s1] at z; rw [s2 (by omega)]; exact b7 z
    · rw [s1] at z
      have e := k3 z
      rw [e] at w
      exact w
    · cases t with
      | none => exact Or.inl w
      | some t =>
        obtain ⟨k, e, w1, w2, w3⟩ := w
        refine Or.inr ⟨t, ?_⟩
        rw [w1]
        exact PAny_MAny ⟨w3, h7⟩ w2
theorem wfAct {F : Nat} {A A1 : aS} {n y ans : Int} (h : WF A) (hr : ActR F A n y ans A1) (hW : WfW A1) : WF A1 := by
  rcases hr with ⟨-, -, rfl⟩ | ⟨c, ⟨-, -, rfl⟩ | ⟨c8, hx, h67, hr⟩⟩
  · exact h
  · exact h
  have hC := h.2.2.2.2.2.2.2.2.2.2.1
  have hD := h.2.2.2.2.2.2.2.2.1
  have hF := h.2.2.2.2.2.2.2.1
  have hc1 := hC.1
  have hd1 := hD.1
  have hf1 := hF.1
  have hf2 := hF.2
  have ht : Int.tdiv (A 91 0) 100 = A 91 0 / 100 := Int.tdiv_eq_ediv_of_nonneg h.1.1.1
  have h00 := h.1.1.1
  have n66 : A 91 66 ≤ A1 91 66 ∧ A1 91 66 ≤ 7200 ∧ (0 ≤ A1 91 66 ∧ A1 91 66 ≤ 800 * A1 91 65) := by
    rcases hr with ⟨r, -, -, -, e66, e65⟩ | ⟨r, l, -, -, -, e65, -, -, -, -, g1, g2⟩ <;> omega
  have old : ∀ a : Nat, a < (A 91 65).toNat → (0 ≤ A1 137 a ∧ A1 137 a ≤ 40) ∧ (0 ≤ A1 138 a ∧ A1 138 a ≤ 7) ∧ ∀ j : Nat, j < (A1 137 a).toNat → WfS A1 (40 * a + j) := by
    intro a ha
    have g := hC.2 a ha
    rw [hx 137 a (by omega) (by omega) (by omega) (by omega), hx 138 a (by omega) (by omega) (by omega) (by omega)]
    refine ⟨g.1, g.2.1, fun j hj => (g.2.2 j hj).ext ⟨n66.1, n66.2.1, fun j hj => ⟨hx 144 j (by omega) (by omega) (by omega) (by omega), hx 145 j (by omega) (by omega) (by omega) (by omega), hx 146 j (by omega) (by omega) (by omega) (by omega), hx 147 j (by omega) (by omega) (by omega) (by omega), hx 148 j (by omega) (by omega) (by omega) (by omega), hx 149 j (by omega) (by omega) (by omega) (by omega)⟩⟩ ?_⟩
    have hj4 : 40 * a + j < 40 * (A 91 65).toNat := by have := g.1; omega
    exact ⟨hx 139 _ (by omega) (by omega) (by omega) (by omega), hx 140 _ (by omega) (by omega) (by omega) (by omega), hx 141 _ (by omega) (by omega) (by omega) (by omega), hx 142 _ (by omega) (by omega) (by omega) (by omega), hx 143 _ (by omega) (by omega) (by omega) (by omega)⟩
  refine ⟨(WfA.ko h.1 (hx.ko (by decide) (by decide))), (WfP.ko h.2.1 (hx.ko (by decide) (by decide))), (WfT.ko h.2.2.1 (hx.ko (by decide) (by decide))), (WfV.ko h.2.2.2.1 (hx.ko (by decide) (by decide))), (WfX.ko h.2.2.2.2.1 (hx.ko (by decide) (by decide))), (WfB.ko h.2.2.2.2.2.1 (hx.ko (by decide) (by decide))), (WfL.ko h.2.2.2.2.2.2.1 (hx.ko (by decide) (by decide))), ?_, ?_, (WfE.ko h.2.2.2.2.2.2.2.2.2.1 (hx.ko (by decide) (by decide))), ?_, hW⟩
  · unfold WfF; omega
  · exact ⟨n66.2.2, fun j hj => by rw [hx 152 j (by omega) (by omega) (by omega) (by omega)]; exact hD.2 j hj⟩
  · rcases hr with ⟨r, -, -, -, e66, e65⟩ | ⟨r, l, -, -, -, e65, e138, e137, hl, hs, g1, g2⟩
    · exact ⟨by rw [e65]; exact hc1, fun a ha => old a (by omega)⟩
    · refine ⟨by omega, fun a ha => ?_⟩
      by_cases q : a = (A 91 65).toNat
      · rw [q, e137, e138]
        refine ⟨by omega, by omega, fun j hj => ?_⟩
        obtain ⟨o, ho⟩ : ∃ o, l[j]? = some o := ⟨l[j]'(by omega), List.getElem?_eq_getElem (by omega)⟩
        have g := hs j o ho
        exact g.1.wf g.2 n66.2.1
      · exact old a (by omega)
