/-! the reference: the first clause that holds -/
noncomputable def wT (A : aS) (s : Nat) : Any 10 := Classical.epsilon (fun t : Any 10 => MAny A 10 (A 143 s) t)
noncomputable def hdB (A : aS) (h : Nat → Int) (s : Nat) : Bool := A 143 s == -1 || tvA h 10 (wT A s)
theorem wT_spec {A : aS} {s : Nat} (h : WfS A s) (h0 : ¬ A 140 s = 0) (h1 : ¬ A 143 s = -1) : MAny A 10 (A 143 s) (wT A s) := by
  rcases (h.2.2 h0).2.2.2.2.2.2.2 with h2 | h2
  · exact absurd h2 h1
  · exact Classical.epsilon_spec h2
noncomputable def fsC (A : aS) (h : Nat → Int) (y kind key : Int) (n : Nat) : Bool := !(cdS A y n == -1) && (A 140 (cdS A y n).toNat == kind && ((key == -1 || A 141 (cdS A y n).toNat == key) && hdB A h (cdS A y n).toNat))
noncomputable def fsF (A : aS) (h : Nat → Int) (y kind key : Int) : Nat → Nat → Int
  | 0, _ => -1
  | f + 1, n => cond (fsC A h y kind key n) (n : Int) (fsF A h y kind key f (n + 1))
/-- the first clause of a kind and a key whose IF holds -/
noncomputable def fsS (A : aS) (h : Nat → Int) (y kind key : Int) : Int := fsF A h y kind key 60 1
noncomputable def feC (A : aS) (h : Nat → Int) (y kinds : Int) (n : Nat) : Bool := !(cdS A y n == -1) && (A 140 (cdS A y n).toNat == 2 && (iAnd (iShr kinds (A 141 (cdS A y n).toNat)) 1 == 1 && hdB A h (cdS A y n).toNat))
noncomputable def feF (A : aS) (h : Nat → Int) (y kinds : Int) : Nat → Nat → Int
  | 0, _ => -1
  | f + 1, n => cond (feC A h y kinds n) (n : Int) (feF A h y kinds f (n + 1))
noncomputable def feS (A : aS) (h : Nat → Int) (y kinds : Int) : Int := feF A h y kinds 60 1
section
variable {d L : Nat} {I I0 : mI} {R : Nat → Nat → Option Nat} {S : List (Nat × Nat)} {Q : Option Value → mM → Prop} {A : aS} {c day known kind half year subj code : Int}
theorem k236R {K : mM → Prop} (hR : RM I A) (hK : ∀ I1, Fr [150] [] I I1 → (∀ j : Nat, j < 12 → ld I1 150 j = 0) → K (bd L I1 R S)) : CallV d 236 [.ref 91] (bd L I R S) K := k236 hR.1 hK
theorem k251R {K : mM → Prop} (hR : RM I A) (hW : WfA A) (hy : 0 ≤ year ∧ year ≤ 7) (hkn : inR known) (hK : ∀ I1, Fr [116] [] I I1 → PShut A year known I1 → K (bd L I1 R S)) : CallV (d + 1) 251 [.ref 91, .int (oI year), .int (oI known)] (bd L I R S) K := k251 hR.1 hW hy hkn hK
theorem k252R {K : mM → Prop} (hR : RM I A) (hW : WfA A) (hy : 0 ≤ year ∧ year ≤ 7) (hc : inR c) (hkn : inR known) (hK : ∀ I1, Fr [111, 112, 113, 114, 115] [] I I1 → Pnt A c year known I1 → K (bd L I1 R S)) : CallV (d + 2) 252 [.ref 91, .int (oI c), .int (oI year), .int (oI known)] (bd L I R S) K := k252 hR.1 hW hy hc hkn hK
end
set_option maxRecDepth 4000 in
theorem e223 {d L : Nat} {I : Nat → Nat → Int32} {R : Nat → Nat → Option Nat} {S : List (Nat × Nat)} {K : Int32 → mM → Prop} {A : aS} (hR : RM I A) {x1 : Int} (hE : (0 ≤ x1 ∧ x1 < 360) ∧ (((A 143 x1.toNat = (-1)) → K (oI 1) (bd L I R S)) ∧ (¬ (A 143 x1.toNat = (-1)) → ∃ (b3 : Bool), R224 d L I R S (A 143 x1.toNat) b3 ∧ (inR (bI b3) ∧ (((bI b3 = 0) → K (oI 0) (bd L I R S)) ∧ (¬ (bI b3 = 0) → K (oI 1) (bd L I R S))))))) : CallI (d + 1) 223 [.ref 91, .int (oI x1)] (bd L I R S) K := by
  refine cI_of (ls := [.ref 91, .int (oI x1)]) rfl ?_
  refine xG gb223.1 ?_
  refine s6 (p := 91) rfl ?_
  refine s51 sh91 (by decide) (by decide) rf91_78 ?_
  refine s4 (x := x1) rfl ?_
  obtain ⟨g1, hE⟩ := hE
  refine s40 (v := A 143 x1.toNat) sh143 g1 rfl (rdM hR.1 rfl) ?_
  refine s0 ?_
  refine s61 (inA hR.1 (a := 143) (k := x1.toNat) rfl) (inRd rfl) (fun c2 => ?_) (fun c2 => ?_)
  · replace hE := hE.1 c2
    refine xG gb223.2.1 ?_
    refine s0 ?_
    refine s60 ?_
    refine xG gb223.2.2.2 ?_
    refine s84 (by decide) ?_
    exact rqI_of hE
  · replace hE := hE.2 c2
    refine s6 (p := 91) rfl ?_
    refine s6 (p := 91) rfl ?_
    refine s51 sh91 (by decide) (by decide) rf91_78 ?_
    refine s4 (x := x1) rfl ?_
    refine s40 (v := A 143 x1.toNat) sh143 g1 rfl (rdM hR.1 rfl) ?_
    obtain ⟨b3, r4, hE⟩ := hE
    refine sI rc224 rfl (Nat.le_of_ble_eq_true rfl) ?_
    refine r4 _ ?_
    obtain ⟨g5, hE⟩ := hE
    refine s67 g5 (fun c6 => ?_) (fun c6 => ?_)
    · replace hE := hE.1 c6
      refine xG gb223.2.2.1 ?_
      refine s0 ?_
      refine s79 ?_
      refine xG gb223.2.2.2 ?_
      refine s84 (by decide) ?_
      exact rqI_of hE
    · replace hE := hE.2 c6
      refine s79 ?_
      refine xG gb223.2.1 ?_
      refine s0 ?_
      refine s60 ?_
      refine xG gb223.2.2.2 ?_
      refine s84 (by decide) ?_
      exact rqI_of hE
section
variable {d L : Nat} {I I0 : mI} {R : Nat → Nat → Option Nat} {S : List (Nat × Nat)} {Q : Option Value → mM → Prop} {A : aS} {c day known kind half year subj code : Int}
theorem k223 {K : Int32 → mM → Prop} {s : Nat} {e : Nat → Int} (he : EnvI I e) (hM : RM I A) (hs : s < 320) (hS : WfS A s) (h0 : ¬ A 140 s = 0) (h1 : hdB A e s = true → K (oI 1) (bd L I R S)) (h2 : ¬ hdB A e s = true → K (oI 0) (bd L I R S)) : CallI (d + 24) 223 [.ref 91, .int (oI s)] (bd L I R S) K := by
  refine e223 hM ?_
  simp only [Int.toNat_natCast]
  refine ⟨by omega, fun h => h1 ?_, fun h => ⟨tvA e 10 (wT A s), r224A (d := d) he hM.1 (wT_spec hS h0 h), bI_in _, fun q => h2 ?_, fun q => h1 ?_⟩⟩
  · unfold hdB; rw [h]; rfl
  · unfold hdB
    cases hv : tvA e 10 (wT A s)
    · simp [h]
    · rw [hv] at q; exact absurd q (by decide)
  · unfold hdB
    cases hv : tvA e 10 (wT A s)
    · rw [hv] at q; exact absurd rfl q
    · simp
end
section
variable {d L : Nat} {I I0 : mI} {R : Nat → Nat → Option Nat} {S : List (Nat × Nat)} {Q : Option Value → mM → Prop} {A : aS} {c day known kind half year subj code : Int}
theorem k223' {K : Int32 → mM → Prop} {x : Int} {e : Nat → Int} (he : EnvI I e) (hM : RM I A) (hx : 0 ≤ x ∧ x < 320) (hS : WfS A x.toNat) (h0 : ¬ A 140 x.toNat = 0) (h1 : hdB A e x.toNat = true → K (oI 1) (bd L I R S)) (h2 : ¬ hdB A e x.toNat = true → K (oI 0) (bd L I R S)) : CallI (d + 24) 223 [.ref 91, .int (oI x)] (bd L I R S) K := by
  have q := k223 (d := d) (L := L) (R := R) (S := S) (K := K) (s := x.toNat) he hM (by omega) hS h0 h1 h2
  rw [show ((x.toNat : Nat) : Int) = x by omega] at q
  exact q
end
def h220_1 (d L : Nat) (I : Nat → Nat → Int32) (R : Nat → Nat → Option Nat) (S : List (Nat × Nat)) (Q : Option Value → mM → Prop) (x1 : Int) (x2 : Int) (x3 : Int) (x4 : Int) (w5 : Value) : Prop := Wp d (gb 220 1) [.ref 91, .int (oI x1), .int (oI x2), .int (oI x3), .int (oI x4), w5] [] (bd L I R S) Q
set_option maxRecDepth 4000 in
theorem e220_1 {d L : Nat} {I : Nat → Nat → Int32} {R : Nat → Nat → Option Nat} {S : List (Nat × Nat)} {Q : Option Value → mM → Prop} {A : aS} (hR : RM I A) {x1 : Int} {x2 : Int} {x3 : Int} {x4 : Int} {w5 : Value} (hE : inR x4 ∧ (((60 < x4) → Q (some (.int (oI (-1)))) (bd L I R S)) ∧ (¬ (60 < x4) → WfC A ∧ ((0 ≤ x1 ∧ x1 ≤ 7) ∧ ((0 ≤ x4 ∧ x4 ≤ 60) ∧ (∀ (I6 : mI), (Fr [151] [(91, 87)] I I6) → (RM I6 A) → inR (cdS A x1 x4) ∧ (((cdS A x1 x4 = (-1)) → h220_1 (d + 25) L I6 R S Q x1 x2 x3 (x4 + 1) (.int (oI (cdS A x1 x4)))) ∧ (¬ (cdS A x1 x4 = (-1)) → (0 ≤ cdS A x1 x4 ∧ cdS A x1 x4 < 360) ∧ (inR x2 ∧ (((A 140 (cdS A x1 x4).toNat = x2) → inR x3 ∧ (((x3 = (-1)) → (0 ≤ cdS A x1 x4 ∧ cdS A x1 x4 < 320) ∧ (WfS A (cdS A x1 x4).toNat ∧ (¬ A 140 (cdS A x1 x4).toNat = 0 ∧ (∃ e16 : Nat → Int, EnvI I6 e16 ∧ (((hdB A e16 (cdS A x1 x4).toNat = true) → Q (some (.int (oI x4))) (bd L I6 R S)) ∧ (¬ (hdB A e16 (cdS A x1 x4).toNat = true) → h220_1 (d + 25) L I6 R S Q x1 x2 x3 (x4 + 1) (.int (oI (cdS A x1 x4))))))))) ∧ (¬ (x3 = (-1)) → ((A 141 (cdS A x1 x4).toNat = x3) → (0 ≤ cdS A x1 x4 ∧ cdS A x1 x4 < 320) ∧ (WfS A (cdS A x1 x4).toNat ∧ (¬ A 140 (cdS A x1 x4).toNat = 0 ∧ (∃ e25 : Nat → Int, EnvI I6 e25 ∧ (((hdB A e25 (cdS A x1 x4).toNat = true) → Q (some (.int (oI x4))) (bd L I6 R S)) ∧ (¬ (hdB A e25 (cdS A x1 x4).toNat = true) → h220_1 (d + 25) L I6 R S Q x1 x2 x3 (x4 + 1) (.int (oI (cdS A x1 x4))))))))) ∧ (¬ (A 141 (cdS A x1 x4).toNat = x3) → h220_1 (d + 25) L I6 R S Q x1 x2 x3 (x4 + 1) (.int (oI (cdS A x1 x4))))))) ∧ (¬ (A 140 (cdS A x1 x4).toNat = x2) → h220_1 (d + 25) L I6 R S Q x1 x2 x3 (x4 + 1) (.int (oI (cdS A x1 x4)))))))))))))) : h220_1 (d + 25) L I R S Q x1 x2 x3 x4 w5 := by
  unfold h220_1
  refine xG gb220.2.1 ?_
  refine s4 (x := x4) rfl ?_
  refine s0 ?_
  obtain ⟨g1, hE⟩ := hE
  refine s65 g1 (inRd rfl) (fun c2 => ?_) (fun c2 => ?_)
  · replace hE := hE.1 c2
    refine xG gb220.2.2.2.2 ?_
    refine s0 ?_
    refine s80 ?_
    exact hE
  · replace hE := hE.2 c2
    refine s6 (p := 91) rfl ?_
    refine s4 (x := x1) rfl ?_
    refine s4 (x := x4) rfl ?_
    obtain ⟨g3, hE⟩ := hE
    obtain ⟨g4, hE⟩ := hE
    obtain ⟨g5, hE⟩ := hE
    refine sI rc221 rfl (Nat.le_of_ble_eq_true rfl) ?_
    refine k221 hR g3 g4 g5 (fun I6 q7 q8 => ?_)
    replace hE := hE I6 q7 q8
    refine s7 (ls' := [.ref 91, .int (oI x1), .int (oI x2), .int (oI x3), .int (oI x4), .int (oI (cdS A x1 x4))]) (Nat.le_of_ble_eq_true rfl) rfl ?_
    refine s4 (x := cdS A x1 x4) rfl ?_
    refine s0 ?_
    obtain ⟨g9, hE⟩ := hE
    refine s61 g9 (inRd rfl) (fun c10 => ?_) (fun c10 => ?_)
    · replace hE := hE.1 c10
      refine xG gb220.2.2.2.1 ?_
      refine s10 (x := x4) (ls' := [.ref 91, .int (oI x1), .int (oI x2), .int (oI x3), .int (oI (x4 + 1)), .int (oI (cdS A x1 x4))]) rfl rfl ?_
      refine s60 ?_
      exact hE
    · replace hE := hE.2 c10
      refine s6 (p := 91) rfl ?_
      refine s51 sh91 (by decide) (by decide) rf91_75 ?_
      refine s4 (x := cdS A x1 x4) rfl ?_
      obtain ⟨g11, hE⟩ := hE
      refine s40 (v := A 140 (cdS A x1 x4).toNat) sh140 g11 rfl (rdM (q8).1 rfl) ?_
      refine s4 (x := x2) rfl ?_
      obtain ⟨g12, hE⟩ := hE
      refine s62 (inA (q8).1 (a := 140) (k := (cdS A x1 x4).toNat) rfl) g12 (fun c13 => ?_) (fun c13 => ?_)
      · replace hE := hE.1 c13
        refine s4 (x := x3) rfl ?_
        refine s0 ?_
        obtain ⟨g14, hE⟩ := hE
        refine s61 g14 (inRd rfl) (fun c15 => ?_) (fun c15 => ?_)
        · replace hE := hE.1 c15
          refine xG gb220.2.2.1 ?_
          refine s6 (p := 91) rfl ?_
          refine s4 (x := cdS A x1 x4) rfl ?_
          obtain ⟨g18, hE⟩ := hE
          obtain ⟨g19, hE⟩ := hE
          obtain ⟨g20, hE⟩ := hE
          obtain ⟨e16, k17, hE⟩ := hE
          refine sI rc223 rfl (Nat.le_of_ble_eq_true rfl) ?_
          refine k223' k17 (q8) g18 g19 g20 (fun c21 => ?_) (fun c21 => ?_)
          · replace hE := hE.1 c21
            refine s67 (inRd rfl) (fun c22 => absurd c22 (by decide)) (fun _ => ?_)
            refine s4 (x := x4) rfl ?_
            refine s80 ?_
            exact hE
          · replace hE := hE.2 c21
            refine s67 (inRd rfl) (fun _ => ?_) (fun c23 => absurd (by decide) c23)
            refine xG gb220.2.2.2.1 ?_
            refine s10 (x := x4) (ls' := [.ref 91, .int (oI x1), .int (oI x2), .int (oI x3), .int (oI (x4 + 1)), .int (oI (cdS A x1 x4))]) rfl rfl ?_
            refine s60 ?_
            exact hE
        · replace hE := hE.2 c15
          refine s6 (p := 91) rfl ?_
          refine s51 sh91 (by decide) (by decide) rf91_76 ?_
          refine s4 (x := cdS A x1 x4) rfl ?_
          refine s40 (v := A 141 (cdS A x1 x4).toNat) sh141 g11 rfl (rdM (q8).1 rfl) ?_
          refine s4 (x := x3) rfl ?_
          refine s62 (inA (q8).1 (a := 141) (k := (cdS A x1 x4).toNat) rfl) g14 (fun c24 => ?_) (fun c24 => ?_)
          · replace hE := hE.1 c24
            refine s79 ?_
            refine xG gb220.2.2.1 ?_
            refine s6 (p := 91) rfl ?_
            refine s4 (x := cdS A x1 x4) rfl ?_
            obtain ⟨g27, hE⟩ := hE
            obtain ⟨g28, hE⟩ := hE
            obtain ⟨g29, hE⟩ := hE
            obtain ⟨e25, k26, hE⟩ := hE
            refine sI rc223 rfl (Nat.le_of_ble_eq_true rfl) ?_
            refine k223' k26 (q8) g27 g28 g29 (fun c30 => ?_) (fun c30 => ?_)
            · replace hE := hE.1 c30
              refine s67 (inRd rfl) (fun c31 => absurd c31 (by decide)) (fun _ => ?_)
              refine s4 (x := x4) rfl ?_
              refine s80 ?_
              exact hE
            · replace hE := hE.2 c30
              refine s67 (inRd rfl) (fun _ => ?_) (fun c32 => absurd (by decide) c32)
              refine xG gb220.2.2.2.1 ?_
              refine s10 (x := x4) (ls' := [.ref 91, .int (oI x1), .int (oI x2), .int (oI x3), .int (oI (x4 + 1)), .int (oI (cdS A x1 x4))]) rfl rfl ?_
              refine s60 ?_
              exact hE
          · replace hE := hE.2 c24
            refine xG gb220.2.2.2.1 ?_
            refine s10 (x := x4) (ls' := [.ref 91, .int (oI x1), .int (oI x2), .int (oI x3), .int (oI (x4 + 1)), .int (oI (cdS A x1 x4))]) rfl rfl ?_
            refine s60 ?_
            exact hE
      · replace hE := hE.2 c13
        refine xG gb220.2.2.2.1 ?_
        refine s10 (x := x4) (ls' := [.ref 91, .int (oI x1), .int (oI x2), .int (oI x3), .int (oI (x4 + 1)), .int (oI (cdS A x1 x4))]) rfl rfl ?_
        refine s60 ?_
        exact hE
set_option maxRecDepth 4000 in
theorem e220 {d L : Nat} {I : Nat → Nat → Int32} {R : Nat → Nat → Option Nat} {S : List (Nat × Nat)} {K : Int32 → mM → Prop} {A : aS} (hR : RM I A) {x1 : Int} {x2 : Int} {x3 : Int} (hE : h220_1 d L I R S (rqI K) x1 x2 x3 1 mUn) : CallI d 220 [.ref 91, .int (oI x1), .int (oI x2), .int (oI x3)] (bd L I R S) K := by
  refine cI_of (ls := [.ref 91, .int (oI x1), .int (oI x2), .int (oI x3), mUn, mUn]) rfl ?_
  refine xG gb220.1 ?_
  refine s0 ?_
  refine s7 (ls' := [.ref 91, .int (oI x1), .int (oI x2), .int (oI x3), .int (oI 1), mUn]) (Nat.le_of_ble_eq_true rfl) rfl ?_
  refine s79 ?_
  exact hE
def h254_1 (d L : Nat) (I : Nat → Nat → Int32) (R : Nat → Nat → Option Nat) (S : List (Nat × Nat)) (Q : Option Value → mM → Prop) (x1 : Int) (x2 : Int) (x3 : Int) (w4 : Value) : Prop := Wp d (gb 254 1) [.ref 91, .int (oI x1), .int (oI x2), .int (oI x3), w4] [] (bd L I R S) Q
set_option maxRecDepth 4000 in
theorem e254_1 {d L : Nat} {I : Nat → Nat → Int32} {R : Nat → Nat → Option Nat} {S : List (Nat × Nat)} {Q : Option Value → mM → Prop} {A : aS} (hR : RM I A) {x1 : Int} {x2 : Int} {x3 : Int} {w4 : Value} (hE : inR x3 ∧ (((60 < x3) → Q (some (.int (oI (-1)))) (bd L I R S)) ∧ (¬ (60 < x3) → WfC A ∧ ((0 ≤ x1 ∧ x1 ≤ 7) ∧ ((0 ≤ x3 ∧ x3 ≤ 60) ∧ (∀ (I6 : mI), (Fr [151] [(91, 87)] I I6) → (RM I6 A) → inR (cdS A x1 x3) ∧ (((cdS A x1 x3 = (-1)) → h254_1 (d + 25) L I6 R S Q x1 x2 (x3 + 1) (.int (oI (cdS A x1 x3)))) ∧ (¬ (cdS A x1 x3 = (-1)) → (0 ≤ cdS A x1 x3 ∧ cdS A x1 x3 < 360) ∧ (((A 140 (cdS A x1 x3).toNat = 2) → inR (iAnd (iShr x2 (A 141 (cdS A x1 x3).toNat)) 1) ∧ (((iAnd (iShr x2 (A 141 (cdS A x1 x3).toNat)) 1 = 1) → (0 ≤ cdS A x1 x3 ∧ cdS A x1 x3 < 320) ∧ (WfS A (cdS A x1 x3).toNat ∧ (¬ A 140 (cdS A x1 x3).toNat = 0 ∧ (∃ e15 : Nat → Int, EnvI I6 e15 ∧ (((hdB A e15 (cdS A x1 x3).toNat = true) → Q (some (.int (oI x3))) (bd L I6 R S)) ∧ (¬ (hdB A e15 (cdS A x1 x3).toNat = true) → h254_1 (d + 25) L I6 R S Q x1 x2 (x3 + 1) (.int (oI (cdS A x1 x3))))))))) ∧ (¬ (iAnd (iShr x2 (A 141 (cdS A x1 x3).toNat)) 1 = 1) → h254_1 (d + 25) L I6 R S Q x1 x2 (x3 + 1) (.int (oI (cdS A x1 x3)))))) ∧ (¬ (A 140 (cdS A x1 x3).toNat = 2) → h254_1 (d + 25) L I6 R S Q x1 x2 (x3 + 1) (.int (oI (cdS A x1 x3))))))))))))) : h254_1 (d + 25) L I R S Q x1 x2 x3 w4 := by
  unfold h254_1
  refine xG gb254.2.1 ?_
  refine s4 (x := x3) rfl ?_
  refine s0 ?_
  obtain ⟨g1, hE⟩ := hE
  refine s65 g1 (inRd rfl) (fun c2 => ?_) (fun c2 => ?_)
  · replace hE := hE.1 c2
    refine xG gb254.2.2.2 ?_
    refine s0 ?_
    refine s80 ?_
    exact hE
  · replace hE := hE.2 c2
    refine s6 (p := 91) rfl ?_
    refine s4 (x := x1) rfl ?_
    refine s4 (x := x3) rfl ?_
    obtain ⟨g3, hE⟩ := hE
    obtain ⟨g4, hE⟩ := hE
    obtain ⟨g5, hE⟩ := hE
    refine sI rc221 rfl (Nat.le_of_ble_eq_true rfl) ?_
    refine k221 hR g3 g4 g5 (fun I6 q7 q8 => ?_)
    replace hE := hE I6 q7 q8
    refine s7 (ls' := [.ref 91, .int (oI x1), .int (oI x2), .int (oI x3), .int (oI (cdS A x1 x3))]) (Nat.le_of_ble_eq_true rfl) rfl ?_
    refine s4 (x := cdS A x1 x3) rfl ?_
    refine s0 ?_
    obtain ⟨g9, hE⟩ := hE
    refine s61 g9 (inRd rfl) (fun c10 => ?_) (fun c10 => ?_)
    · replace hE := hE.1 c10
      refine xG gb254.2.2.1 ?_
      refine s10 (x := x3) (ls' := [.ref 91, .int (oI x1), .int (oI x2), .int (oI (x3 + 1)), .int (oI (cdS A x1 x3))]) rfl rfl ?_
      refine s60 ?_
      exact hE
    · replace hE := hE.2 c10
      refine s6 (p := 91) rfl ?_
      refine s51 sh91 (by decide) (by decide) rf91_75 ?_
      refine s4 (x := cdS A x1 x3) rfl ?_
      obtain ⟨g11, hE⟩ := hE
      refine s40 (v := A 140 (cdS A x1 x3).toNat) sh140 g11 rfl (rdM (q8).1 rfl) ?_
      refine s0 ?_
      refine s62 (inA (q8).1 (a := 140) (k := (cdS A x1 x3).toNat) rfl) (inRd rfl) (fun c12 => ?_) (fun c12 => ?_)
      · replace hE := hE.1 c12
        refine s4 (x := x2) rfl ?_
        refine s6 (p := 91) rfl ?_
        refine s51 sh91 (by decide) (by decide) rf91_76 ?_
        refine s4 (x := cdS A x1 x3) rfl ?_
        refine s40 (v := A 141 (cdS A x1 x3).toNat) sh141 g11 rfl (rdM (q8).1 rfl) ?_
        refine s23 ?_
        refine s0 ?_
        refine s25 ?_
        refine s0 ?_
        obtain ⟨g13, hE⟩ := hE
        refine s62 g13 (inRd rfl) (fun c14 => ?_) (fun c14 => ?_)
        · replace hE := hE.1 c14
          refine s6 (p := 91) rfl ?_
          refine s4 (x := cdS A x1 x3) rfl ?_
          obtain ⟨g17, hE⟩ := hE
          obtain ⟨g18, hE⟩ := hE
          obtain ⟨g19, hE⟩ := hE
          obtain ⟨e15, k16, hE⟩ := hE
          refine sI rc223 rfl (Nat.le_of_ble_eq_true rfl) ?_
          refine k223' k16 (q8) g17 g18 g19 (fun c20 => ?_) (fun c20 => ?_)
          · replace hE := hE.1 c20
            refine s67 (inRd rfl) (fun c21 => absurd c21 (by decide)) (fun _ => ?_)
            refine s4 (x := x3) rfl ?_
            refine s80 ?_
            exact hE
          · replace hE := hE.2 c20
            refine s67 (inRd rfl) (fun _ => ?_) (fun c22 => absurd (by decide) c22)
            refine xG gb254.2.2.1 ?_
            refine s10 (x := x3) (ls' := [.ref 91, .int (oI x1), .int (oI x2), .int (oI (x3 + 1)), .int (oI (cdS A x1 x3))]) rfl rfl ?_
            refine s60 ?_
            exact hE
        · replace hE := hE.2 c14
          refine xG gb254.2.2.1 ?_
          refine s10 (x := x3) (ls' := [.ref 91, .int (oI x1), .int (oI x2), .int (oI (x3 + 1)), .int (oI (cdS A x1 x3))]) rfl rfl ?_
          refine s60 ?_
          exact hE
      · replace hE := hE.2 c12
        refine xG gb254.2.2.1 ?_
        refine s10 (x := x3) (ls' := [.ref 91, .int (oI x1), .int (oI x2), .int (oI (x3 + 1)), .int (oI (cdS A x1 x3))]) rfl rfl ?_
        refine s60 ?_
        exact hE
set_option maxRecDepth 4000 in
theorem e254 {d L : Nat} {I : Nat → Nat → Int32} {R : Nat → Nat → Option Nat} {S : List (Nat × Nat)} {K : Int32 → mM → Prop} {A : aS} (hR : RM I A) {x1 : Int} {x2 : Int} (hE : h254_1 d L I R S (rqI K) x1 x2 1 mUn) : CallI d 254 [.ref 91, .int (oI x1), .int (oI x2)] (bd L I R S) K := by
  refine cI_of (ls := [.ref 91, .int (oI x1), .int (oI x2), mUn, mUn]) rfl ?_
  refine xG gb254.1 ?_
  refine s0 ?_
  refine s7 (ls' := [.ref 91, .int (oI x1), .int (oI x2), .int (oI 1), mUn]) (Nat.le_of_ble_eq_true rfl) rfl ?_
  refine s79 ?_
  exact hE
section
variable {d L : Nat} {I I0 : mI} {R : Nat → Nat → Option Nat} {S : List (Nat × Nat)} {Q : Option Value → mM → Prop} {A : aS} {c day known kind half year subj code : Int}
theorem l220 {h : Nat → Int} {key : Int} (hC : WfC A) (hy : 0 ≤ code ∧ code ≤ 7) (hkd : inR kind) (hky : inR key) (hK : ∀ I1, Fr [151] [(91, 87)] I0 I1 → RM I1 A → Q (some (.int (oI (fsS A h code kind key)))) (bd L I1 R S)) : ∀ (f n : Nat) (I : mI) (w : Value), 1 ≤ n → n + f = 61 → RM I A → Fr [151] [(91, 87)] I0 I → EnvI I h → fsF A h code kind key f n = fsS A h code kind key → h220_1 (d + 25) L I R S Q code kind key n w := by
  intro f
  induction f with
  | zero =>
    intro n I w hn1 hn hM hf hh hs
    refine e220_1 hM ⟨⟨by omega, by omega⟩, fun _ => ?_, fun h => by exfalso; omega⟩
    rw [show (-1 : Int) = fsS A h code kind key from hs]
    exact hK I hf hM
  | succ f ih =>
    intro n I w hn1 hn hM hf hh hs
    refine e220_1 hM ⟨⟨by omega, by omega⟩, fun h => by exfalso; omega, fun _ => ⟨hC, hy, by omega, fun I1 hf1 hM1 => ?_⟩⟩
    have hh1 : EnvI I1 h := hh.fr hf1 (fun _ => rfl)
    have st : ∀ b, fsC A h code kind key n = b → cond b (n : Int) (fsF A h code kind key f (n + 1)) = fsS A h code kind key := fun b hb => by
      rw [← hs, ← hb]; rfl
    have nx : ∀ w', fsC A h code kind key n = false → h220_1 (d + 25) L I1 R S Q code kind key (n + 1) w' := fun w' hb => ih (n + 1) I1 w' (by omega) (by omega) hM1 (hf.trans hf1) hh1 (st false hb)
    have ci := cdS_in hC (y := code) (n := n)
    refine ⟨⟨by omega, by omega⟩, fun h1 => nx _ ?_, fun h1 => ?_⟩
    · unfold fsC; simp [h1]
    · obtain ⟨s, s1, s2, s3, s4, s5, -⟩ := cdS_wf hC h1
      have e : (cdS A code n).toNat = s := by omega
      have fc : fsC A h code kind key n = (A 140 s == kind && ((key == -1 || A 141 s == key) && hdB A h s)) := by
        unfold fsC; rw [e]; simp [h1]
      rw [e]
      have go : ((hdB A h s = true) → Q (some (.int (oI (n : Int)))) (bd L I1 R S)) → True := fun _ => trivial
      refine ⟨by omega, hkd, fun h2 => ⟨hky, fun h3 => ⟨by omega, s3, s5, h, hh1, fun h4 => ?_, fun h4 => nx _ ?_⟩, fun h3 => ⟨fun h5 => ⟨by omega, s3, s5, h, hh1, fun h4 => ?_, fun h4 => nx _ ?_⟩, fun h5 => nx _ ?_⟩⟩, fun h2 => nx _ ?_⟩
      · have hb : fsC A h code kind key n = true := by rw [fc]; simp [h2, h3, h4]
        have := st true hb
        rw [show (n : Int) = fsS A h code kind key from this]
        exact hK I1 (hf.trans hf1) hM1
      · rw [fc]; simp [h4]
      · have hb : fsC A h code kind key n = true := by rw [fc]; simp [h2, h5, h4]
        have := st true hb
        rw [show (n : Int) = fsS A h code kind key from this]
        exact hK I1 (hf.trans hf1) hM1
      · rw [fc]; simp [h4]
      · rw [fc]; simp [h3, h5]
      · rw [fc]; simp [h2]
theorem k220 {K : Int32 → mM → Prop} {key : Int} {h : Nat → Int} (hh : EnvI I h) (hM : RM I A) (hC : WfC A) (hy : 0 ≤ code ∧ code ≤ 7) (hkd : inR kind) (hky : inR key) (hK : ∀ I1, Fr [151] [(91, 87)] I I1 → RM I1 A → K (oI (fsS A h code kind key)) (bd L I1 R S)) : CallI (d + 25) 220 [.ref 91, .int (oI code), .int (oI kind), .int (oI key)] (bd L I R S) K :=
  e220 hM (l220 hC hy hkd hky (fun I1 h1 h2 => rqI_of (hK I1 h1 h2)) 60 1 I mUn (by omega) rfl hM (Fr.refl _ _ _) hh rfl)
theorem l254 {h : Nat → Int} {kinds : Int} (hC : WfC A) (hy : 0 ≤ code ∧ code ≤ 7) (hkd : inR kinds) (hK : ∀ I1, Fr [151] [(91, 87)] I0 I1 → RM I1 A → Q (some (.int (oI (feS A h code kinds)))) (bd L I1 R S)) : ∀ (f n : Nat) (I : mI) (w : Value), 1 ≤ n → n + f = 61 → RM I A → Fr [151] [(91, 87)] I0 I → EnvI I h → feF A h code kinds f n = feS A h code kinds → h254_1 (d + 25) L I R S Q code kinds n w := by
  intro f
  induction f with
  | zero =>
    intro n I w hn1 hn hM hf hh hs
    refine e254_1 hM ⟨⟨by omega, by omega⟩, fun _ => ?_, fun h => by exfalso; omega⟩
    rw [show (-1 : Int) = feS A h code kinds from hs]
    exact hK I hf hM
  | succ f ih =>
    intro n I w hn1 hn hM hf hh hs
    refine e254_1 hM ⟨⟨by omega, by omega⟩, fun h => by exfalso; omega, fun _ => ⟨hC, hy, by omega, fun I1 hf1 hM1 => ?_⟩⟩
    have hh1 : EnvI I1 h := hh.fr hf1 (fun _ => rfl)
    have st : ∀ b, feC A h code kinds n = b → cond b (n : Int) (feF A h code kinds f (n + 1)) = feS A h code kinds := fun b hb => by
      rw [← hs, ← hb]; rfl
    have nx : ∀ w', feC A h code kinds n = false → h254_1 (d + 25) L I1 R S Q code kinds (n + 1) w' := fun w' hb => ih (n + 1) I1 w' (by omega) (by omega) hM1 (hf.trans hf1) hh1 (st false hb)
    have ci := cdS_in hC (y := code) (n := n)
    refine ⟨⟨by omega, by omega⟩, fun h1 => nx _ ?_, fun h1 => ?_⟩
    · unfold feC; simp [h1]
    · obtain ⟨s, s1, s2, s3, s4, s5, -⟩ := cdS_wf hC h1
      have e : (cdS A code n).toNat = s := by omega
      have fc : feC A h code kinds n = (A 140 s == 2 && (iAnd (iShr kinds (A 141 s)) 1 == 1 && hdB A h s)) := by
        unfold feC; rw [e]; simp [h1]
      rw [e]
      refine ⟨by omega, fun h2 => ⟨inR_toInt _, fun h3 => ⟨by omega, s3, s5, h, hh1, fun h4 => ?_, fun h4 => nx _ ?_⟩, fun h3 => nx _ ?_⟩, fun h2 => nx _ ?_⟩
      · have hb : feC A h code kinds n = true := by rw [fc]; simp [h2, h3, h4]
        have := st true hb
        rw [show (n : Int) = feS A h code kinds from this]
        exact hK I1 (hf.trans hf1) hM1
      · rw [fc]; simp [h4]
      · rw [fc]; simp [h3]
      · rw [fc]; simp [h2]
theorem k254 {K : Int32 → mM → Prop} {kinds : Int} {h : Nat → Int} (hh : EnvI I h) (hM : RM I A) (hC : WfC A) (hy : 0 ≤ code ∧ code ≤ 7) (hkd : inR kinds) (hK : ∀ I1, Fr [151] [(91, 87)] I I1 → RM I1 A → K (oI (feS A h code kinds)) (bd L I1 R S)) : CallI (d + 25) 254 [.ref 91, .int (oI code), .int (oI kinds)] (bd L I R S) K :=
  e254 hM (l254 hC hy hkd (fun I1 h1 h2 => rqI_of (hK I1 h1 h2)) 60 1 I mUn (by omega) rfl hM (Fr.refl _ _ _) hh rfl)
end
