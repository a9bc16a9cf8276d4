section
variable {A A1 Ax : aS} {I I1 : mI} {R R1 : mR} {S S1 : mSh} {p s ac y Y N : Nat} {o : Stm} {l : List Stm}
/-- what an act taken says of the reference -/
def AcF (A A1 : aS) (l : List Stm) (y ac : Nat) : Prop := ActX A A1 ∧ A1 91 67 = 0 ∧ A1 91 71 = -1 ∧ A1 91 65 = (ac : Int) + 1 ∧ A1 138 ac = (y : Int) ∧ A1 137 ac = (l.length : Int) ∧ l.length ≤ 40 ∧ (∀ (i : Nat) (o : Stm), l[i]? = some o → StmB (40 * ac + i) A1 o ∧ StmOk o) ∧ A 91 66 ≤ A1 91 66 ∧ A1 91 66 ≤ 7200
theorem whT_new {t : Option (Any 10)} (h : WhB s A1 t) (h66 : A1 91 66 ≤ 7200) : whT A1 s = cTw t := by
  unfold whT
  cases t with
  | none => exact if_pos h
  | some t =>
    obtain ⟨k, e, h1, h2, h3⟩ := h
    have hm : MAny A1 10 (A1 143 s) t := by rw [h1]; exact PAny_MAny ⟨h3, h66⟩ h2
    rw [if_neg (by omega), wT_eq hm]; rfl
theorem clo_new (hB : StmB s A1 o) (hok : StmOk o) (h66 : A1 91 66 ≤ 7200) (hc : ClF R S I ((s / 40 : Nat) : Int) p o) (ht : ¬ o.2.1.1 = 0 → ∃ qs, R p 7 = some qs ∧ StrO R S I qs (rnd ([], false) (cT o)).1) : ClO R S I A1 p s := by
  obtain ⟨n, ⟨b, num, sec⟩, tr⟩ := o
  obtain ⟨h1, h2⟩ := hB
  obtain ⟨c1, c2, c3, c4, ⟨c5, c6, c7⟩, c8, c9⟩ := hc
  dsimp only at h1 h2 c2 c3 c5 c6 c7 c8 c9 ht
  by_cases h0 : b = 0
  · rw [if_pos h0] at h2
    refine ⟨c1, c2.trans h1.symm, ?_, c4, fun h => absurd h2 h⟩
    rw [c3, h2, h0]
  · rw [if_neg h0] at h2
    obtain ⟨⟨s1, s2, s3⟩, w⟩ := h2
    dsimp only at s1 s2 s3
    have hbo : BdOk (b, num, sec) := by
      rcases hok.2 with e | e
      · exact absurd e h0
      · exact e.1
    have hr := hbo.1
    dsimp only at hr
    refine ⟨c1, c2.trans h1.symm, by rw [c3, s1], c4, fun _ => ⟨?_, ?_, ?_, fun h => ?_, fun h => ?_, ?_⟩⟩
    · rw [c5, s1]
      unfold cOf
      by_cases z : b = 1 ∨ b = 2 ∨ b = 4 ∨ b = 13 ∨ b = 14
      · rw [if_pos z, if_pos z, s2 (by omega)]
      · rw [if_neg z, if_neg z]
        by_cases z6 : b = 6
        · rw [s3 (by omega)]
        · rw [if_neg (fun h => z6 h.1), if_neg (fun h => z6 h.1)]
    · rw [c6, s1]
      unfold cPer
      by_cases z6 : b = 6
      · rw [if_pos z6, if_pos z6, s3 (by omega)]
      · rw [if_neg z6, if_neg z6]
    · rw [c7, s1]
      unfold cVal
      by_cases z : b = 1 ∨ b = 2 ∨ b = 4 ∨ b = 13 ∨ b = 14
      · rw [if_pos z, if_pos z, s3 (by omega)]
      · rw [if_neg z, if_neg z]
        by_cases z9 : b = 9
        · rw [if_pos z9, if_pos z9]
        · rw [if_neg z9, if_neg z9, s2 z9]
    · cases tr with
      | none => exact c8 rfl
      | some t =>
        obtain ⟨k, e, w1, -⟩ := w
        omega
    · cases tr with
      | none => exact absurd w h
      | some t =>
        obtain ⟨k, e, w1, w2, w3⟩ := w
        obtain ⟨q2, d1, d2⟩ := c9 t rfl
        have hm : MAny A1 10 (A1 143 s) t := by rw [w1]; exact PAny_MAny ⟨w3, h66⟩ w2
        rw [wT_eq hm]
        exact ⟨q2, d1, d2⟩
    · obtain ⟨qs, d1, d2⟩ := ht h0
      refine ⟨qs, d1, ?_⟩
      have e : ccT A1 (A1 139 s) s = cT (n, (b, num, sec), tr) := by
        unfold ccT smT cT
        rw [whT_new w h66, h1, s1, bdR_congr (n := A1 141 s) (n' := num) (s := A1 142 s) (s' := sec) (fun h => s2 h) (fun h => s3 (by omega))]
      unfold stX
      rw [e]; exact d2
theorem clo_old (hW : WfS A s) (hN : NdAg A A1) (e : A1 139 s = A 139 s ∧ A1 140 s = A 140 s ∧ A1 141 s = A 141 s ∧ A1 142 s = A 142 s ∧ A1 143 s = A 143 s) (h : ClO R S I A p s) : ClO R S I A1 p s := by
  obtain ⟨e1, e2, e3, e4, e5⟩ := e
  obtain ⟨h1, h2, h3, h4, h5⟩ := h
  refine ⟨h1, h2.trans e1.symm, by rw [e2]; exact h3, h4, fun h0 => ?_⟩
  rw [e2] at h0
  obtain ⟨a1, a2, a3, a4, a5, q, a6, a7⟩ := h5 h0
  have hw : ¬ A 143 s = -1 → wT A1 s = wT A s := fun h9 => by
    have := MAny_ag hN (wT_spec hW h0 h9)
    rw [← e5] at this
    exact wT_eq this
  have ex : stX A1 s = stX A s := by
    unfold stX ccT smT whT
    rw [e1, e2, e3, e4, e5]
    by_cases c : A 143 s = -1
    · rw [if_pos c, if_pos c]
    · rw [if_neg c, if_neg c, hw c]
  rw [e2, e3, e4, e5, ex]
  refine ⟨a1, a2, a3, a4, fun h9 => ?_, q, a6, a7⟩
  rw [hw h9]; exact a5 h9
theorem AcF.nd (h : AcF A A1 l y ac) (h66 : 0 ≤ A 91 66) : NdAg A A1 := ⟨h.2.2.2.2.2.2.2.2.1, h.2.2.2.2.2.2.2.2.2, fun j hj => ⟨h.1 144 j (by omega) (by omega) (by omega) (by omega), h.1 145 j (by omega) (by omega) (by omega) (by omega), h.1 146 j (by omega) (by omega) (by omega) (by omega), h.1 147 j (by omega) (by omega) (by omega) (by omega), h.1 148 j (by omega) (by omega) (by omega) (by omega), h.1 149 j (by omega) (by omega) (by omega) (by omega)⟩⟩
theorem AcF.st (h : AcF A A1 l y ac) (h65 : A 91 65 = (ac : Int)) (hs : s < 40 * ac) : A1 139 s = A 139 s ∧ A1 140 s = A 140 s ∧ A1 141 s = A 141 s ∧ A1 142 s = A 142 s ∧ A1 143 s = A 143 s :=
  ⟨h.1 139 s (by omega) (by omega) (by omega) (by omega), h.1 140 s (by omega) (by omega) (by omega) (by omega), h.1 141 s (by omega) (by omega) (by omega) (by omega), h.1 142 s (by omega) (by omega) (by omega) (by omega), h.1 143 s (by omega) (by omega) (by omega) (by omega)⟩
theorem AcF.sa (h : AcF A A1 l y ac) (hW : WfC A) (h65 : A 91 65 = (ac : Int)) : StAg A A1 ac := fun a ha => by
  have g := hW.2 a (by omega)
  refine ⟨(h.1 137 a (by omega) (by omega) (by omega) (by omega)).symm, (h.1 138 a (by omega) (by omega) (by omega) (by omega)).symm, fun j hj => ?_⟩
  have e := h.st h65 (s := 40 * a + j) (by omega)
  exact ⟨e.1.symm, e.2.1.symm⟩
theorem StmB.k40 (hB : StmB s A1 o) : A1 139 s = o.1 ∧ A1 140 s = o.2.1.1 := by
  obtain ⟨h1, h2⟩ := hB
  refine ⟨h1, ?_⟩
  split at h2
  · rename_i c; rw [h2, c]
  · exact h2.1.1
theorem AcF.two (h : AcF A A1 l y ac) (h' : AcF A Ax l y ac) (hW : WfC A) (h65 : A 91 65 = (ac : Int)) : StAg A1 Ax (ac + 1) := fun a ha => by
  by_cases c : a = ac
  · subst c
    obtain ⟨-, -, -, -, a1, a2, a3, a4, -⟩ := h
    obtain ⟨-, -, -, -, b1, b2, b3, b4, -⟩ := h'
    refine ⟨a2.trans b2.symm, a1.trans b1.symm, fun j hj => ?_⟩
    rw [a2, Int.toNat_natCast] at hj
    obtain ⟨o, ho⟩ : ∃ o, l[j]? = some o := ⟨_, List.getElem?_eq_getElem hj⟩
    have e1 := (a4 j o ho).1.k40
    have e2 := (b4 j o ho).1.k40
    exact ⟨e1.1.trans e2.1.symm, e1.2.trans e2.2.symm⟩
  · have e1 := h.sa hW h65 a (by omega)
    have e2 := h'.sa hW h65 a (by omega)
    refine ⟨e1.1.symm.trans e2.1, e1.2.1.symm.trans e2.2.1, fun j hj => ?_⟩
    rw [← e1.1] at hj
    exact ⟨(e1.2.2 j hj).1.symm.trans (e2.2.2 j hj).1, (e1.2.2 j hj).2.symm.trans (e2.2.2 j hj).2⟩
theorem CdAg.of (hW : WfC A) (h65 : A 91 65 = Ax 91 65) (h : StAg A Ax (A 91 65).toNat) : CdAg A Ax Y := fun n => by
  refine ⟨cdS_ag h65 h, fun c => ?_⟩
  obtain ⟨s, e1, -, -, -, -, a, j, e6, e7, e8⟩ := cdS_wf hW c
  rw [e1, Int.toNat_natCast, e6]
  exact ((h a e7).2.2 j e8).2
theorem CdAg.more (hW : WfC A) (h65 : A 91 65 = (ac : Int)) (h : AcF A A1 l y ac) (hY : Y < y) : CdAg A A1 Y := fun n => by
  have hs := h.sa hW h65
  have e0 : cdS A Y n = cdS A1 Y n := by
    unfold cdS
    exact cdY_more (ac := ac) (yy := (y : Int)) (by omega) (by have := h.2.2.2.1; omega) hs h.2.2.2.2.1 _ (by omega)
  refine ⟨e0, fun c => ?_⟩
  obtain ⟨s, e1, -, -, -, -, a, j, e6, e7, e8⟩ := cdS_wf hW c
  rw [e1, Int.toNat_natCast, e6]
  exact ((hs a (by omega)).2.2 j e8).2
end
