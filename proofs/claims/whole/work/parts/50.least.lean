/-! the reference: clauses without an IF; room, steps, staff, rates, hours -/
noncomputable def lsS (A : aS) (y kind : Int) : Int := fsS A zE y kind (-1)
theorem fsC_env {A : aS} (hC : WfC A) {h h' : Nat → Int} {y kind key : Int} (hk : kind = 7 ∨ 10 ≤ kind ∧ kind ≤ 15) (n : Nat) : fsC A h y kind key n = fsC A h' y kind key n := by
  unfold fsC
  by_cases h1 : cdS A y n = -1
  · simp [h1]
  · obtain ⟨s, s1, s2, s3, s4, s5, -⟩ := cdS_wf hC h1
    have e : (cdS A y n).toNat = s := by omega
    rw [e]
    by_cases h2 : A 140 s = kind
    · have w := (s3.2.2 s5).2.2.2.2.2.2.1 (by omega)
      have q : ∀ g, hdB A g s = true := by intro g; unfold hdB; rw [w]; rfl
      rw [q, q]
    · have : (A 140 s == kind) = false := by simpa using h2
      rw [this]; simp
theorem fsF_env {A : aS} (hC : WfC A) {h h' : Nat → Int} {y kind key : Int} (hk : kind = 7 ∨ 10 ≤ kind ∧ kind ≤ 15) : ∀ f n : Nat, fsF A h y kind key f n = fsF A h' y kind key f n
  | 0, n => rfl
  | f + 1, n => by
    unfold fsF
    rw [fsC_env hC (h := h) (h' := h') hk n, fsF_env hC (h := h) (h' := h') hk f (n + 1)]
theorem fsS_env {A : aS} (hC : WfC A) {h h' : Nat → Int} {y kind key : Int} (hk : kind = 7 ∨ 10 ≤ kind ∧ kind ≤ 15) : fsS A h y kind key = fsS A h' y kind key := fsF_env hC hk 60 1
theorem lsS_prop {A : aS} (hC : WfC A) {y kind : Int} : lsS A y kind = -1 ∨ ∃ m s : Nat, lsS A y kind = m ∧ 1 ≤ m ∧ m < 61 ∧ cdS A y m = s ∧ s < 320 ∧ WfS A s ∧ ¬ A 140 s = 0 ∧ A 140 s = kind := by
  rcases fsS_prop hC (h := zE) (y := y) (kind := kind) (key := -1) with q | ⟨m, s, q1, q2, q3, q4, q5, q6, q7, q8, -⟩
  · exact Or.inl q
  · exact Or.inr ⟨m, s, q1, q2, q3, q4, q5, q6, q7, q8⟩
/-- the number that the least clause of a kind tells -/
noncomputable def lnS (A : aS) (y kind other : Int) : Int := if lsS A y kind = -1 then other else nuS A y (lsS A y kind)
noncomputable def hoS (A : aS) (school year : Int) : Int := if lnS A year 10 0 = 0 then -1 else Int.tdiv (A 100 school.toNat) (lnS A year 10 0)
set_option maxRecDepth 4000 in
theorem e219 {d L : Nat} {I : Nat → Nat → Int32} {R : Nat → Nat → Option Nat} {S : List (Nat × Nat)} {K : Int32 → mM → Prop} {A : aS} (hR : RM I A) {x1 : Int} {x2 : Int} (hE : WfC A ∧ ((0 ≤ x1 ∧ x1 ≤ 7) ∧ (inR x2 ∧ (∃ e4 : Nat → Int, EnvI I e4 ∧ (∀ (I6 : mI), (Fr [151] [(91, 87)] I I6) → (RM I6 A) → K (oI (fsS A e4 x1 x2 (-1))) (bd L I6 R S)))))) : CallI (d + 26) 219 [.ref 91, .int (oI x1), .int (oI x2)] (bd L I R S) K := by
  refine cI_of (ls := [.ref 91, .int (oI x1), .int (oI x2)]) rfl ?_
  refine xG gb219 ?_
  refine s6 (p := 91) rfl ?_
  refine s4 (x := x1) rfl ?_
  refine s4 (x := x2) rfl ?_
  refine s0 ?_
  obtain ⟨g1, hE⟩ := hE
  obtain ⟨g2, hE⟩ := hE
  obtain ⟨g3, hE⟩ := hE
  obtain ⟨e4, k5, hE⟩ := hE
  refine sI rc220 rfl (Nat.le_of_ble_eq_true rfl) ?_
  refine k220 k5 hR g1 g2 g3 (inRd rfl) (fun I6 q7 q8 => ?_)
  replace hE := hE I6 q7 q8
  refine s80 ?_
  exact rqI_of hE
section
variable {d L : Nat} {I I0 : mI} {R : Nat → Nat → Option Nat} {S : List (Nat × Nat)} {Q : Option Value → mM → Prop} {A : aS} {c day known kind half year subj code : Int}
theorem k219 {K : Int32 → mM → Prop} (hR : RM I A) (hC : WfC A) (hy : 0 ≤ code ∧ code ≤ 7) (hk : kind = 7 ∨ 10 ≤ kind ∧ kind ≤ 15) (hK : ∀ I1, Fr [151] [(91, 87)] I I1 → RM I1 A → K (oI (lsS A code kind)) (bd L I1 R S)) : CallI (d + 26) 219 [.ref 91, .int (oI code), .int (oI kind)] (bd L I R S) K := by
  refine e219 hR ⟨hC, hy, ⟨by omega, by omega⟩, ld I 150, fun _ _ => rfl, fun I1 h1 h2 => ?_⟩
  rw [fsS_env hC (h' := zE) hk]
  exact hK I1 h1 h2
end
set_option maxRecDepth 4000 in
theorem e218 {d L : Nat} {I : Nat → Nat → Int32} {R : Nat → Nat → Option Nat} {S : List (Nat × Nat)} {K : Int32 → mM → Prop} {A : aS} (hR : RM I A) {x1 : Int} {x2 : Int} (hE : WfC A ∧ ((0 ≤ x2 ∧ x2 ≤ 7) ∧ (∀ (I3 : mI), (Fr [151] [(91, 87)] I I3) → (RM I3 A) → inR (lsS A x2 10) ∧ (((lsS A x2 10 = (-1)) → K (oI (-1)) (bd L I3 R S)) ∧ (¬ (lsS A x2 10 = (-1)) → (0 ≤ lsS A x2 10 ∧ lsS A x2 10 ≤ 60) ∧ (∀ (I10 : mI), (Fr [151] [(91, 87)] I3 I10) → (RM I10 A) → (0 ≤ cdS A x2 (lsS A x2 10) ∧ cdS A x2 (lsS A x2 10) < 360) ∧ (((A 141 (cdS A x2 (lsS A x2 10)).toNat = 0) → K (oI (-1)) (bd L I10 R S)) ∧ (¬ (A 141 (cdS A x2 (lsS A x2 10)).toNat = 0) → (0 ≤ x1 ∧ x1 < 6) ∧ (0 < A 141 (cdS A x2 (lsS A x2 10)).toNat ∧ (K (oI (Int.tdiv (A 100 x1.toNat) (A 141 (cdS A x2 (lsS A x2 10)).toNat))) (bd L I10 R S))))))))))) : CallI (d + 27) 218 [.ref 91, .int (oI x1), .int (oI x2)] (bd L I R S) K := by
  refine cI_of (ls := [.ref 91, .int (oI x1), .int (oI x2), mUn, mUn]) rfl ?_
  refine xG gb218.1 ?_
  refine s6 (p := 91) rfl ?_
  refine s4 (x := x2) rfl ?_
  refine s0 ?_
  obtain ⟨g1, hE⟩ := hE
  obtain ⟨g2, hE⟩ := hE
  refine sI rc219 rfl (Nat.le_of_ble_eq_true rfl) ?_
  refine k219 hR g1 g2 (by decide) (fun I3 q4 q5 => ?_)
  replace hE := hE I3 q4 q5
  refine s7 (ls' := [.ref 91, .int (oI x1), .int (oI x2), .int (oI (lsS A x2 10)), mUn]) (Nat.le_of_ble_eq_true rfl) rfl ?_
  refine s4 (x := lsS A x2 10) rfl ?_
  refine s0 ?_
  obtain ⟨g6, hE⟩ := hE
  refine s62 g6 (inRd rfl) (fun c7 => ?_) (fun c7 => ?_)
  · replace hE := hE.1 c7
    refine s0 ?_
    refine s60 ?_
    refine xG gb218.2.2.1 ?_
    refine s7 (ls' := [.ref 91, .int (oI x1), .int (oI x2), .int (oI (lsS A x2 10)), .int (oI 0)]) (Nat.le_of_ble_eq_true rfl) rfl ?_
    refine s4 (x := 0) rfl ?_
    refine s68 (inRd rfl) (fun _ => ?_) (fun c8 => absurd (by decide) c8)
    refine s0 ?_
    refine s60 ?_
    refine xG gb218.2.2.2.2 ?_
    refine s80 ?_
    exact rqI_of hE
  · replace hE := hE.2 c7
    refine xG gb218.2.1 ?_
    refine s6 (p := 91) rfl ?_
    refine s51 sh91 (by decide) (by decide) rf91_76 ?_
    refine s6 (p := 91) rfl ?_
    refine s4 (x := x2) rfl ?_
    refine s4 (x := lsS A x2 10) rfl ?_
    obtain ⟨g9, hE⟩ := hE
    refine sI rc221 rfl (Nat.le_of_ble_eq_true rfl) ?_
    refine k221 (q5) g1 g2 g9 (fun I10 q11 q12 => ?_)
    replace hE := hE I10 q11 q12
    obtain ⟨g13, hE⟩ := hE
    refine s40 (v := A 141 (cdS A x2 (lsS A x2 10)).toNat) sh141 g13 rfl (rdM (q12).1 rfl) ?_
    refine s79 ?_
    refine xG gb218.2.2.1 ?_
    refine s7 (ls' := [.ref 91, .int (oI x1), .int (oI x2), .int (oI (lsS A x2 10)), .int (oI (A 141 (cdS A x2 (lsS A x2 10)).toNat))]) (Nat.le_of_ble_eq_true rfl) rfl ?_
    refine s4 (x := A 141 (cdS A x2 (lsS A x2 10)).toNat) rfl ?_
    refine s68 (inA (q12).1 (a := 141) (k := (cdS A x2 (lsS A x2 10)).toNat) rfl) (fun c14 => ?_) (fun c14 => ?_)
    · replace hE := hE.1 c14
      refine s0 ?_
      refine s60 ?_
      refine xG gb218.2.2.2.2 ?_
      refine s80 ?_
      exact rqI_of hE
    · replace hE := hE.2 c14
      refine xG gb218.2.2.2.1 ?_
      refine s6 (p := 91) rfl ?_
      refine s51 sh91 (by decide) (by decide) rf91_13 ?_
      refine s4 (x := x1) rfl ?_
      obtain ⟨g15, hE⟩ := hE
      refine s40 (v := A 100 x1.toNat) sh100 g15 rfl (rdM (q12).1 rfl) ?_
      refine s4 (x := A 141 (cdS A x2 (lsS A x2 10)).toNat) rfl ?_
      obtain ⟨g16, hE⟩ := hE
      refine s19 (inA (q12).1 (a := 100) (k := x1.toNat) rfl) ⟨(inA (q12).1 (a := 141) (k := (cdS A x2 (lsS A x2 10)).toNat) rfl), g16⟩ ?_
      refine s79 ?_
      refine xG gb218.2.2.2.2 ?_
      refine s80 ?_
      exact rqI_of hE
/-- pupil teachers, houses, schools -/
def WfT (A : aS) : Prop := (0 ≤ A 91 40 ∧ A 91 40 ≤ 20) ∧ (∀ t : Nat, t < (A 91 40).toNat → (0 ≤ A 121 t ∧ A 121 t < A 91 2) ∧ (0 ≤ A 122 t ∧ A 122 t ≤ 7) ∧ ∀ y : Nat, y < 8 → -1 ≤ A 123 (8 * t + y) ∧ A 123 (8 * t + y) ≤ 100) ∧ (0 ≤ A 91 63 ∧ A 91 63 ≤ 40) ∧ (∀ h : Nat, h < (A 91 63).toNat → 1 ≤ A 136 h ∧ A 136 h ≤ 500) ∧ ∀ s : Nat, s < (A 91 2).toNat → 0 ≤ A 100 s ∧ A 100 s ≤ 9999
section
variable {d L : Nat} {I I0 : mI} {R : Nat → Nat → Option Nat} {S : List (Nat × Nat)} {Q : Option Value → mM → Prop} {A : aS} {c day known kind half year subj code : Int}
theorem lnS_in (hC : WfC A) {y : Int} (hk : ¬ kind = 9) : (lsS A y kind = -1 ∧ lnS A y kind 0 = 0) ∨ (0 ≤ lnS A y kind 0 ∧ lnS A y kind 0 ≤ 9999) := by
  unfold lnS
  rcases lsS_prop hC (y := y) (kind := kind) with q | ⟨m, s, q1, q2, q3, q4, q5, q6, q7, q8⟩
  · exact Or.inl ⟨q, by rw [if_pos q]⟩
  · have w := (q6.2.2 q7).1 (by omega)
    refine Or.inr ?_
    rw [q1, if_neg (by omega)]
    unfold nuS
    rw [q4, Int.toNat_natCast]
    exact w
theorem k218 {K : Int32 → mM → Prop} {school : Int} (hR : RM I A) (hC : WfC A) (hs : 0 ≤ school ∧ school < 6) (hy : 0 ≤ year ∧ year ≤ 7) (hK : ∀ I1, Fr [151] [(91, 87)] I I1 → RM I1 A → K (oI (hoS A school year)) (bd L I1 R S)) : CallI (d + 27) 218 [.ref 91, .int (oI school), .int (oI year)] (bd L I R S) K := by
  refine e218 hR ⟨hC, hy, fun I1 hf1 hR1 => ?_⟩
  rcases lsS_prop hC (y := year) (kind := 10) with q | ⟨m, s, q1, q2, q3, q4, q5, q6, q7, q8⟩
  · have e : hoS A school year = -1 := by
      unfold hoS lnS
      rw [if_pos q, if_pos rfl]
    rw [e] at hK
    rw [q]
    exact ⟨inRd rfl, fun _ => hK I1 hf1 hR1, fun h => absurd rfl h⟩
  · have w := (q6.2.2 q7).1 (by omega)
    have en : lnS A year 10 0 = A 141 s := by
      unfold lnS nuS
      rw [q1, if_neg (by omega), q4, Int.toNat_natCast]
    unfold hoS at hK
    rw [en] at hK
    rw [q1, q4, Int.toNat_natCast]
    refine ⟨⟨by omega, by omega⟩, fun h => by exfalso; omega, fun _ => ⟨by omega, fun I2 hf2 hR2 => ⟨by omega, fun h0 => ?_, fun h0 => ⟨by omega, by omega, ?_⟩⟩⟩⟩
    · rw [if_pos h0] at hK; exact hK I2 (hf1.trans hf2) hR2
    · rw [if_neg h0] at hK; exact hK I2 (hf1.trans hf2) hR2
end
