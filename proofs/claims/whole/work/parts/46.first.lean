/-! the reference: the first clause that holds -/
noncomputable def wT (A : aS) (s : Nat) : Any 10 := Classical.epsilon (fun t : Any 10 => MAny A 10 (A 143 s) t)
noncomputable def hdB (A : aS) (h : Nat → Int) (s : Nat) : Bool := A 143 s == -1 || tvA h 10 (wT A s)
theorem wT_spec {A : aS} {s : Nat} (h : WfS A s) (h0 : ¬ A 140 s = 0) (h1 : ¬ A 143 s = -1) : MAny A 10 (A 143 s) (wT A s) := by
  rcases (h.2.2 h0).2.2.2.2.2.2 with h2 | h2
  · exact absurd h2 h1
  · exact Classical.epsilon_spec h2
noncomputable def fsC (A : aS) (h : Nat → Int) (y kind key : Int) (n : Nat) : Bool := !(cdS A y n == -1) && (A 140 (cdS A y n).toNat == kind && ((key == -1 || A 141 (cdS A y n).toNat == key) && hdB A h (cdS A y n).toNat))
noncomputable def fsF (A : aS) (h : Nat → Int) (y kind key : Int) : Nat → Nat → Int
  | 0, _ => -1
  | f + 1, n => cond (fsC A h y kind key n) (n : Int) (fsF A h y kind key f (n + 1))
/-- the first clause of a kind and a key whose IF holds -/
noncomputable def fsS (A : aS) (h : Nat → Int) (y kind key : Int) : Int := fsF A h y kind key 60 1
noncomputable def feC (A : aS) (h : Nat → Int) (y kinds : Int) (n : Nat) : Bool := !(cdS A y n == -1) && (A 140 (cdS A y n).toNat == 2 && (iAnd (iShr kinds (A 141 (cdS A y n).toNat)) 1 == 1 && hdB A h (cdS A y n).toNat))
noncomputable def feF (A : aS) (h : Nat → Int) (y kinds : Int) : Nat → Nat → Int
  | 0, _ => -1
  | f + 1, n => cond (feC A h y kinds n) (n : Int) (feF A h y kinds f (n + 1))
noncomputable def feS (A : aS) (h : Nat → Int) (y kinds : Int) : Int := feF A h y kinds 60 1
set_option maxRecDepth 4000 in
theorem e223 {d L : Nat} {I : Nat → Nat → Int32} {R : Nat → Nat → Option Nat} {S : List (Nat × Nat)} {K : Int32 → mM → Prop} {A : aS} (hR : RM I A) {x1 : Int} (hE : (0 ≤ x1 ∧ x1 < 360) ∧ (((A 143 x1.toNat = (-1)) → K (oI 1) (bd L I R S)) ∧ (¬ (A 143 x1.toNat = (-1)) → ∃ (b3 : Bool), R224 d L I R S (A 143 x1.toNat) b3 ∧ (inR (bI b3) ∧ (((bI b3 = 0) → K (oI 0) (bd L I R S)) ∧ (¬ (bI b3 = 0) → K (oI 1) (bd L I R S))))))) : CallI (d + 1) 223 [.ref 91, .int (oI x1)] (bd L I R S) K := by
  refine cI_of (ls := [.ref 91, .int (oI x1)]) rfl ?_
  refine xG gb223.1 ?_
  refine s6 (p := 91) rfl ?_
  refine s51 sh91 (by decide) (by decide) rf91_78 ?_
  refine s4 (x := x1) rfl ?_
  obtain ⟨g1, hE⟩ := hE
  refine s40 (v := A 143 x1.toNat) sh143 g1 rfl (rdM hR.1 rfl) ?_
  refine s0 ?_
  refine s61 (inA hR.1 (a := 143) (k := x1.toNat) rfl) (inRd rfl) (fun c2 => ?_) (fun c2 => ?_)
  · replace hE := hE.1 c2
    refine xG gb223.2.1 ?_
    refine s0 ?_
    refine s60 ?_
    refine xG gb223.2.2.2 ?_
    refine s84 (by decide) ?_
    exact rqI_of hE
  · replace hE := hE.2 c2
    refine s6 (p := 91) rfl ?_
    refine s6 (p := 91) rfl ?_
    refine s51 sh91 (by decide) (by decide) rf91_78 ?_
    refine s4 (x := x1) rfl ?_
    refine s40 (v := A 143 x1.toNat) sh143 g1 rfl (rdM hR.1 rfl) ?_
    obtain ⟨b3, r4, hE⟩ := hE
    refine sI rc224 rfl (Nat.le_of_ble_eq_true rfl) ?_
    refine r4 _ ?_
    obtain ⟨g5, hE⟩ := hE
    refine s67 g5 (fun c6 => ?_) (fun c6 => ?_)
    · replace hE := hE.1 c6
      refine xG gb223.2.2.1 ?_
      refine s0 ?_
      refine s79 ?_
      refine xG gb223.2.2.2 ?_
      refine s84 (by decide) ?_
      exact rqI_of hE
    · replace hE := hE.2 c6
      refine s79 ?_
      refine xG gb223.2.1 ?_
      refine s0 ?_
      refine s60 ?_
      refine xG gb223.2.2.2 ?_
      refine s84 (by decide) ?_
      exact rqI_of hE
section
variable {d L : Nat} {I I0 : mI} {R : Nat → Nat → Option Nat} {S : List (Nat × Nat)} {Q : Option Value → mM → Prop} {A : aS} {c day known kind half year subj code : Int}
theorem k223 {K : Int32 → mM → Prop} {s : Nat} (hM : RM I A) (hs : s < 320) (hS : WfS A s) (h0 : ¬ A 140 s = 0) (h1 : hdB A (ld I 150) s = true → K (oI 1) (bd L I R S)) (h2 : ¬ hdB A (ld I 150) s = true → K (oI 0) (bd L I R S)) : CallI (d + 24) 223 [.ref 91, .int (oI s)] (bd L I R S) K := by
  refine e223 hM ?_
  simp only [Int.toNat_natCast]
  refine ⟨by omega, fun h => h1 ?_, fun h => ⟨tvA (ld I 150) 10 (wT A s), r224A (d := d) hM.1 (wT_spec hS h0 h), bI_in _, fun q => h2 ?_, fun q => h1 ?_⟩⟩
  · unfold hdB; rw [h]; rfl
  · unfold hdB
    cases hv : tvA (ld I 150) 10 (wT A s)
    · simp [h]
    · rw [hv] at q; exact absurd q (by decide)
  · unfold hdB
    cases hv : tvA (ld I 150) 10 (wT A s)
    · rw [hv] at q; exact absurd rfl q
    · simp
end
