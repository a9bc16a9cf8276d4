/-! the reference: painting a year -/
def WfK (A : aS) (k : Nat) : Prop := (0 ≤ A 103 k ∧ A 103 k ≤ 6) ∧ (A 103 k = 1 → 0 ≤ A 104 k ∧ A 104 k < A 91 2) ∧ (¬ A 103 k = 1 → 0 ≤ A 104 k ∧ A 104 k < A 91 1) ∧
  (A 103 k = 0 → (-1 ≤ A 105 k ∧ A 105 k < A 91 2) ∧ (0 ≤ A 106 k ∧ A 106 k ≤ A 91 0)) ∧ (A 103 k = 1 ∨ (3 ≤ A 103 k ∧ A 103 k ≤ 5) → 0 ≤ A 105 k ∧ A 105 k ≤ A 106 k ∧ A 106 k ≤ 799) ∧
  (A 103 k = 2 → 0 ≤ A 105 k ∧ A 105 k ≤ A 106 k ∧ A 106 k ≤ 1599 ∧ 0 ≤ A 107 k ∧ A 107 k ≤ 3) ∧ (A 103 k = 3 → 0 ≤ A 107 k ∧ A 107 k ≤ 5) ∧
  (A 103 k = 6 → (0 ≤ A 105 k ∧ A 105 k ≤ 7) ∧ (0 ≤ A 106 k ∧ A 106 k ≤ 5) ∧ (0 ≤ A 107 k ∧ A 107 k ≤ 100)) ∧ (0 ≤ A 108 k ∧ A 108 k ≤ A 91 0) ∧ (A 109 k = 5000 ∨ (0 ≤ A 109 k ∧ A 109 k ≤ A 91 0))
/-- scalars and notes -/
def WfA (A : aS) : Prop := (0 ≤ A 91 0 ∧ A 91 0 ≤ 799) ∧ (0 ≤ A 91 1 ∧ A 91 1 ≤ 40) ∧ (0 ≤ A 91 2 ∧ A 91 2 ≤ 6) ∧ WfN A ∧ (∀ k, k < nN A → WfK A k)
theorem spB_succ {A : aS} {kind c day known : Int} {k : Nat} : spB A kind c day known (k + 1) = (spB A kind c day known k || decide (A 103 k = kind ∧ A 104 k = c ∧ (A 105 k ≤ day ∧ day ≤ A 106 k) ∧ A 108 k ≤ known ∧ known < A 109 k)) := rfl
theorem WfK.hol {A : aS} {k : Nat} (h : WfK A k) (h1 : A 103 k = 1) : (0 ≤ A 104 k ∧ A 104 k < A 91 2) ∧ 0 ≤ A 105 k ∧ A 105 k ≤ A 106 k ∧ A 106 k ≤ 799 := ⟨h.2.1 h1, h.2.2.2.2.1 (Or.inl h1)⟩
theorem WfK.span {A : aS} {k : Nat} (h : WfK A k) (h1 : 3 ≤ A 103 k ∧ A 103 k ≤ 5) : 0 ≤ A 105 k ∧ A 105 k ≤ A 106 k ∧ A 106 k ≤ 799 := h.2.2.2.2.1 (Or.inr h1)
theorem WfK.entry {A : aS} {k : Nat} (h : WfK A k) (h1 : A 103 k = 0) : (-1 ≤ A 105 k ∧ A 105 k < A 91 2) ∧ (0 ≤ A 106 k ∧ A 106 k ≤ A 91 0) := h.2.2.2.1 h1
theorem WfK.mark {A : aS} {k : Nat} (h : WfK A k) (h1 : A 103 k = 2) : 0 ≤ A 105 k ∧ A 105 k ≤ A 106 k ∧ A 106 k ≤ 1599 ∧ 0 ≤ A 107 k ∧ A 107 k ≤ 3 := h.2.2.2.2.2.1 h1
theorem WfK.exc {A : aS} {k : Nat} (h : WfK A k) (h1 : A 103 k = 3) : 0 ≤ A 107 k ∧ A 107 k ≤ 5 := h.2.2.2.2.2.2.1 h1
theorem WfK.res {A : aS} {k : Nat} (h : WfK A k) (h1 : A 103 k = 6) : (0 ≤ A 105 k ∧ A 105 k ≤ 7) ∧ (0 ≤ A 106 k ∧ A 106 k ≤ 5) ∧ (0 ≤ A 107 k ∧ A 107 k ≤ 100) := h.2.2.2.2.2.2.2.1 h1
theorem WfK.who {A : aS} {k : Nat} (h : WfK A k) (h1 : ¬ A 103 k = 1) : 0 ≤ A 104 k ∧ A 104 k < A 91 1 := h.2.2.1 h1
theorem WfK.kd {A : aS} {k : Nat} (h : WfK A k) : 0 ≤ A 103 k ∧ A 103 k ≤ 6 := h.1
theorem WfK.told {A : aS} {k : Nat} (h : WfK A k) : (0 ≤ A 108 k ∧ A 108 k ≤ A 91 0) ∧ (A 109 k = 5000 ∨ (0 ≤ A 109 k ∧ A 109 k ≤ A 91 0)) := h.2.2.2.2.2.2.2.2
theorem ld_w {I : mI} {a k k' : Nat} {v : Int} (hv : inR v) : ld (u2 I a k (oI v)) a k' = if k' = k then v else ld I a k' := by
  rw [ld_u2]
  by_cases h : k' = k
  · rw [if_pos ⟨rfl, h⟩, if_pos h, toInt_oI hv]
  · rw [if_neg (fun q => h q.2), if_neg h]
theorem ld_o {I : mI} {a b k k' : Nat} {x : Int32} (h : b ≠ a) : ld (u2 I a k x) b k' = ld I b k' := by
  rw [ld_u2x, if_neg (fun q => h q.1)]
theorem Fr.ld {ws : List Nat} {os : List (Nat × Nat)} {I I' : mI} {a k : Nat} (h : Fr ws os I I') (hp : (ws.contains a || os.contains (a, k)) = false) : ld I' a k = ld I a k := by
  show (I' a k).toInt = (I a k).toInt
  rw [h a k hp]
theorem RelM.fr {ws : List Nat} {os : List (Nat × Nat)} {I I' : mI} {A : aS} (h : RelM I A) (hf : Fr ws os I I') (hw : (ws.all (fun a => !pmA.contains a && a != 91) && os.all (fun q => !pm q.1 q.2)) = true) : RelM I' A := by
  refine h.kept fun a k hp => hf a k ?_
  simp only [Bool.and_eq_true, List.all_eq_true, Bool.not_eq_true', bne_iff_ne] at hw
  obtain ⟨h1, h2⟩ := hw
  cases hc : ws.contains a with
  | true =>
    obtain ⟨q1, q2⟩ := h1 a (List.contains_iff_mem.mp hc)
    unfold pm at hp
    rw [if_neg q2, q1] at hp
    cases hp
  | false =>
    cases hc2 : os.contains (a, k) with
    | false => rfl
    | true =>
      have q := h2 (a, k) (List.contains_iff_mem.mp hc2)
      rw [hp] at q
      cases q
/-- the shut days of a year, as painted -/
def PShut (A : aS) (year known : Int) (I : mI) : Prop := ∀ s d : Nat, s < 6 → d < 100 → ld I 116 (100 * s + d) = bI (spS A 1 s (100 * year + d) known)
def h251_1 (d L : Nat) (I : Nat → Nat → Int32) (R : Nat → Nat → Option Nat) (S : List (Nat × Nat)) (Q : Option Value → mM → Prop) (x1 : Int) (x2 : Int) (x3 : Int) (w4 : Value) : Prop := Wp d (gb 251 1) [.ref 91, .int (oI x1), .int (oI x2), .int (oI x3), w4] [] (bd L I R S) Q
def h251_3 (d L : Nat) (I : Nat → Nat → Int32) (R : Nat → Nat → Option Nat) (S : List (Nat × Nat)) (Q : Option Value → mM → Prop) (x1 : Int) (x2 : Int) (x3 : Int) (w4 : Value) : Prop := Wp d (gb 251 3) [.ref 91, .int (oI x1), .int (oI x2), .int (oI x3), w4] [] (bd L I R S) Q
def h251_5 (d L : Nat) (I : Nat → Nat → Int32) (R : Nat → Nat → Option Nat) (S : List (Nat × Nat)) (Q : Option Value → mM → Prop) (x1 : Int) (x2 : Int) (x3 : Int) (x4 : Int) : Prop := Wp d (gb 251 5) [.ref 91, .int (oI x1), .int (oI x2), .int (oI x3), .int (oI x4)] [] (bd L I R S) Q
set_option maxRecDepth 4000 in
theorem e251_1 {d L : Nat} {I : Nat → Nat → Int32} {R : Nat → Nat → Option Nat} {S : List (Nat × Nat)} {Q : Option Value → mM → Prop} {A : aS} (hM : RelM I A) {x1 : Int} {x2 : Int} {x3 : Int} {w4 : Value} (hE : inR x3 ∧ (((x3 < 600) → (0 ≤ x3 ∧ x3 < 600) ∧ (h251_1 d L (u2 I 116 x3.toNat (oI 0)) R S Q x1 x2 (x3 + 1) w4)) ∧ (¬ (x3 < 600) → h251_3 d L I R S Q x1 x2 0 w4))) : h251_1 d L I R S Q x1 x2 x3 w4 := by
  unfold h251_1
  refine xG gb251.2.1 ?_
  refine s4 (x := x3) rfl ?_
  refine s0 ?_
  obtain ⟨g1, hE⟩ := hE
  refine s64 g1 (inRd rfl) (fun c2 => ?_) (fun c2 => ?_)
  · replace hE := hE.1 c2
    refine s6 (p := 91) rfl ?_
    refine s51 sh91 (by decide) (by decide) rf91_29 ?_
    refine s4 (x := x3) rfl ?_
    refine s0 ?_
    obtain ⟨g3, hE⟩ := hE
    refine s46 sh116 (by decide) g3 rfl (by decide) ?_
    refine s10 (x := x3) (ls' := [.ref 91, .int (oI x1), .int (oI x2), .int (oI (x3 + 1)), w4]) rfl rfl ?_
    refine s60 ?_
    exact hE
  · replace hE := hE.2 c2
    refine xG gb251.2.2.1 ?_
    refine s0 ?_
    refine s7 (ls' := [.ref 91, .int (oI x1), .int (oI x2), .int (oI 0), w4]) (Nat.le_of_ble_eq_true rfl) rfl ?_
    refine s79 ?_
    exact hE
set_option maxRecDepth 4000 in
theorem e251_3 {d L : Nat} {I : Nat → Nat → Int32} {R : Nat → Nat → Option Nat} {S : List (Nat × Nat)} {Q : Option Value → mM → Prop} {A : aS} (hM : RelM I A) {x1 : Int} {x2 : Int} {x3 : Int} {w4 : Value} (hE : inR x3 ∧ (((x3 < A 91 3) → (0 ≤ x3 ∧ x3 < 850) ∧ (((A 103 x3.toNat = 1) → inR x2 ∧ (((x2 < A 108 x3.toNat) → h251_3 (d + 1) L I R S Q x1 x2 (x3 + 1) w4) ∧ (¬ (x2 < A 108 x3.toNat) → ((x2 < A 109 x3.toNat) → inR (100 * x1) ∧ (h251_5 (d + 1) L I R S Q x1 x2 x3 (max (A 105 x3.toNat) (100 * x1)))) ∧ (¬ (x2 < A 109 x3.toNat) → h251_3 (d + 1) L I R S Q x1 x2 (x3 + 1) w4)))) ∧ (¬ (A 103 x3.toNat = 1) → h251_3 (d + 1) L I R S Q x1 x2 (x3 + 1) w4))) ∧ (¬ (x3 < A 91 3) → Q none (bd L I R S)))) : h251_3 (d + 1) L I R S Q x1 x2 x3 w4 := by
  unfold h251_3
  refine xG gb251.2.2.2.1 ?_
  refine s4 (x := x3) rfl ?_
  refine s6 (p := 91) rfl ?_
  refine s50 (v := A 91 3) sh91 (by decide) (by decide) (rdM hM rfl) ?_
  obtain ⟨g1, hE⟩ := hE
  refine s64 g1 (inA hM (a := 91) (k := 3) rfl) (fun c2 => ?_) (fun c2 => ?_)
  · replace hE := hE.1 c2
    refine s6 (p := 91) rfl ?_
    refine s51 sh91 (by decide) (by decide) rf91_16 ?_
    refine s4 (x := x3) rfl ?_
    obtain ⟨g3, hE⟩ := hE
    refine s40 (v := A 103 x3.toNat) sh103 g3 rfl (rdM hM rfl) ?_
    refine s0 ?_
    refine s62 (inA hM (a := 103) (k := x3.toNat) rfl) (inRd rfl) (fun c4 => ?_) (fun c4 => ?_)
    · replace hE := hE.1 c4
      refine s6 (p := 91) rfl ?_
      refine s4 (x := x3) rfl ?_
      refine s4 (x := x2) rfl ?_
      refine sI rc226 rfl (Nat.le_of_ble_eq_true rfl) ?_
      refine cI_of (ls := [.ref 91, .int (oI x3), .int (oI x2)]) rfl ?_
      refine xG gb226.1 ?_
      refine s6 (p := 91) rfl ?_
      refine s51 sh91 (by decide) (by decide) rf91_21 ?_
      refine s4 (x := x3) rfl ?_
      refine s40 (v := A 108 x3.toNat) sh108 g3 rfl (rdM hM rfl) ?_
      refine s4 (x := x2) rfl ?_
      obtain ⟨g5, hE⟩ := hE
      refine s65 (inA hM (a := 108) (k := x3.toNat) rfl) g5 (fun c6 => ?_) (fun c6 => ?_)
      · replace hE := hE.1 c6
        refine xG gb226.2.1 ?_
        refine s0 ?_
        refine s79 ?_
        refine xG gb226.2.2 ?_
        refine s84 (by decide) ?_
        refine rqI_of ?_
        refine s68 (inRd rfl) (fun _ => ?_) (fun c7 => absurd (by decide) c7)
        refine s60 ?_
        refine xG gb251.2.2.2.2.2.2.1 ?_
        refine s10 (x := x3) (ls' := [.ref 91, .int (oI x1), .int (oI x2), .int (oI (x3 + 1)), w4]) rfl rfl ?_
        refine s60 ?_
        exact hE
      · replace hE := hE.2 c6
        refine s6 (p := 91) rfl ?_
        refine s51 sh91 (by decide) (by decide) rf91_22 ?_
        refine s4 (x := x3) rfl ?_
        refine s40 (v := A 109 x3.toNat) sh109 g3 rfl (rdM hM rfl) ?_
        refine s4 (x := x2) rfl ?_
        refine s66 (inA hM (a := 109) (k := x3.toNat) rfl) g5 (fun c8 => ?_) (fun c8 => ?_)
        · replace hE := hE.1 c8
          refine s0 ?_
          refine s60 ?_
          refine xG gb226.2.2 ?_
          refine s84 (by decide) ?_
          refine rqI_of ?_
          refine s68 (inRd rfl) (fun c9 => absurd c9 (by decide)) (fun _ => ?_)
          refine xG gb251.2.2.2.2.1 ?_
          refine s6 (p := 91) rfl ?_
          refine s51 sh91 (by decide) (by decide) rf91_18 ?_
          refine s4 (x := x3) rfl ?_
          refine s40 (v := A 105 x3.toNat) sh105 g3 rfl (rdM hM rfl) ?_
          refine s0 ?_
          refine s4 (x := x1) rfl ?_
          refine s18 ?_
          obtain ⟨g10, hE⟩ := hE
          refine sI rc346 rfl (Nat.le_of_ble_eq_true rfl) ?_
          refine k346 (inA hM (a := 105) (k := x3.toNat) rfl) g10 ?_
          refine s7 (ls' := [.ref 91, .int (oI x1), .int (oI x2), .int (oI x3), .int (oI (max (A 105 x3.toNat) (100 * x1)))]) (Nat.le_of_ble_eq_true rfl) rfl ?_
          refine s79 ?_
          exact hE
        · replace hE := hE.2 c8
          refine xG gb226.2.1 ?_
          refine s0 ?_
          refine s79 ?_
          refine xG gb226.2.2 ?_
          refine s84 (by decide) ?_
          refine rqI_of ?_
          refine s68 (inRd rfl) (fun _ => ?_) (fun c11 => absurd (by decide) c11)
          refine s60 ?_
          refine xG gb251.2.2.2.2.2.2.1 ?_
          refine s10 (x := x3) (ls' := [.ref 91, .int (oI x1), .int (oI x2), .int (oI (x3 + 1)), w4]) rfl rfl ?_
          refine s60 ?_
          exact hE
    · replace hE := hE.2 c4
      refine xG gb251.2.2.2.2.2.2.1 ?_
      refine s10 (x := x3) (ls' := [.ref 91, .int (oI x1), .int (oI x2), .int (oI (x3 + 1)), w4]) rfl rfl ?_
      refine s60 ?_
      exact hE
  · replace hE := hE.2 c2
    refine xG gb251.2.2.2.2.2.2.2 ?_
    refine s83 ?_
    exact hE
set_option maxRecDepth 4000 in
theorem e251_5 {d L : Nat} {I : Nat → Nat → Int32} {R : Nat → Nat → Option Nat} {S : List (Nat × Nat)} {Q : Option Value → mM → Prop} {A : aS} (hM : RelM I A) {x1 : Int} {x2 : Int} {x3 : Int} {x4 : Int} (hE : (0 ≤ x3 ∧ x3 < 850) ∧ (inR ((100 * x1) + 99) ∧ (inR x4 ∧ (inR (min (A 106 x3.toNat) ((100 * x1) + 99)) ∧ (((min (A 106 x3.toNat) ((100 * x1) + 99) < x4) → h251_3 (d + 1) L I R S Q x1 x2 (x3 + 1) (.int (oI x4))) ∧ (¬ (min (A 106 x3.toNat) ((100 * x1) + 99) < x4) → (0 ≤ ((100 * (A 104 x3.toNat)) + x4) - (100 * x1) ∧ ((100 * (A 104 x3.toNat)) + x4) - (100 * x1) < 600) ∧ (h251_5 (d + 1) L (u2 I 116 (((100 * (A 104 x3.toNat)) + x4) - (100 * x1)).toNat (oI 1)) R S Q x1 x2 x3 (x4 + 1)))))))) : h251_5 (d + 1) L I R S Q x1 x2 x3 x4 := by
  unfold h251_5
  refine xG gb251.2.2.2.2.2.1 ?_
  refine s4 (x := x4) rfl ?_
  refine s6 (p := 91) rfl ?_
  refine s51 sh91 (by decide) (by decide) rf91_19 ?_
  refine s4 (x := x3) rfl ?_
  obtain ⟨g1, hE⟩ := hE
  refine s40 (v := A 106 x3.toNat) sh106 g1 rfl (rdM hM rfl) ?_
  refine s0 ?_
  refine s4 (x := x1) rfl ?_
  refine s18 ?_
  refine s0 ?_
  refine s16 ?_
  obtain ⟨g2, hE⟩ := hE
  refine sI rc345 rfl (Nat.le_of_ble_eq_true rfl) ?_
  refine k345 (inA hM (a := 106) (k := x3.toNat) rfl) g2 ?_
  obtain ⟨g3, hE⟩ := hE
  obtain ⟨g4, hE⟩ := hE
  refine s65 g3 g4 (fun c5 => ?_) (fun c5 => ?_)
  · replace hE := hE.1 c5
    refine xG gb251.2.2.2.2.2.2.1 ?_
    refine s10 (x := x3) (ls' := [.ref 91, .int (oI x1), .int (oI x2), .int (oI (x3 + 1)), .int (oI x4)]) rfl rfl ?_
    refine s60 ?_
    exact hE
  · replace hE := hE.2 c5
    refine s6 (p := 91) rfl ?_
    refine s51 sh91 (by decide) (by decide) rf91_29 ?_
    refine s0 ?_
    refine s6 (p := 91) rfl ?_
    refine s51 sh91 (by decide) (by decide) rf91_17 ?_
    refine s4 (x := x3) rfl ?_
    refine s40 (v := A 104 x3.toNat) sh104 g1 rfl (rdM hM rfl) ?_
    refine s18 ?_
    refine s4 (x := x4) rfl ?_
    refine s16 ?_
    refine s0 ?_
    refine s4 (x := x1) rfl ?_
    refine s18 ?_
    refine s17 ?_
    refine s0 ?_
    obtain ⟨g6, hE⟩ := hE
    refine s46 sh116 (by decide) g6 rfl (by decide) ?_
    refine s10 (x := x4) (ls' := [.ref 91, .int (oI x1), .int (oI x2), .int (oI x3), .int (oI (x4 + 1))]) rfl rfl ?_
    refine s60 ?_
    exact hE
set_option maxRecDepth 4000 in
theorem e251 {d L : Nat} {I : Nat → Nat → Int32} {R : Nat → Nat → Option Nat} {S : List (Nat × Nat)} {K : mM → Prop} {A : aS} (hM : RelM I A) {x1 : Int} {x2 : Int} (hE : h251_1 d L I R S (rqV K) x1 x2 0 mUn) : CallV d 251 [.ref 91, .int (oI x1), .int (oI x2)] (bd L I R S) K := by
  refine cV_of (ls := [.ref 91, .int (oI x1), .int (oI x2), mUn, mUn]) rfl ?_
  refine xG gb251.1 ?_
  refine s0 ?_
  refine s7 (ls' := [.ref 91, .int (oI x1), .int (oI x2), .int (oI 0), mUn]) (Nat.le_of_ble_eq_true rfl) rfl ?_
  refine s79 ?_
  exact hE
section
variable {d L : Nat} {I I0 : mI} {R : Nat → Nat → Option Nat} {S : List (Nat × Nat)} {Q : Option Value → mM → Prop} {A : aS} {c day known kind half year subj code : Int}
theorem l251_5 (hW : WfA A) (hy : 0 ≤ year ∧ year ≤ 7) {k : Nat} (hk : k < nN A) (h1 : A 103 k = 1) : ∀ (n : Nat) (x : Int) (I : mI), RelM I A → max (A 105 k) (100 * year) ≤ x ∧ x ≤ 900 → (min (A 106 k) (100 * year + 99) + 1 - x).toNat = n →
    (∀ I1 w, Fr [116] [] I I1 → (∀ s d : Nat, s < 6 → d < 100 → ld I1 116 (100 * s + d) = if (s : Int) = A 104 k ∧ x ≤ 100 * year + d ∧ 100 * year + d ≤ A 106 k then 1 else ld I 116 (100 * s + d)) → h251_3 (d + 1) L I1 R S Q year known (k + 1 : Nat) w) → h251_5 (d + 1) L I R S Q year known k x := by
  obtain ⟨w1, w2, w3, w4, w5⟩ := hW
  have wk := (w5 k hk).hol h1
  unfold WfN at w4
  have hk2 : (k : Int) < A 91 3 := by unfold nN at hk; omega
  intro n
  induction n with
  | zero =>
    intro x I hM hx hn hK
    refine e251_5 hM ?_
    simp only [Int.toNat_natCast]
    have ih := hK I (.int (oI x)) (Fr.refl _ _ _) (fun s d hs hd => by rw [if_neg (by omega)])
    repeat' first | exact ih | with_reducible assumption | refine And.intro ?_ ?_ | intro _ | omega | exact absurd trivial ‹¬ True› | (exfalso; omega)
  | succ n ih =>
    intro x I hM hx hn hK
    refine e251_5 hM ?_
    simp only [Int.toNat_natCast]
    have ih := ih (x + 1) (u2 I 116 (((100 * (A 104 k)) + x) - (100 * year)).toNat (oI 1)) (hM.scr rfl) (by omega) (by omega) (by
      intro I1 w hf hv
      refine hK I1 w ((Fr.refl _ _ _).wr rfl |>.trans hf) fun s d hs hd => ?_
      rw [hv s d hs hd, ld_w (inRd rfl)]
      by_cases hc : (s : Int) = A 104 k ∧ x ≤ 100 * year + d ∧ 100 * year + d ≤ A 106 k
      · rw [if_pos hc]
        by_cases hx2 : x + 1 ≤ 100 * year + d
        · rw [if_pos (by omega)]
        · rw [if_neg (by omega), if_pos (by omega)]
      · rw [if_neg hc, if_neg (by omega), if_neg (by omega)])
    repeat' first | exact ih | with_reducible assumption | refine And.intro ?_ ?_ | intro _ | omega | exact absurd trivial ‹¬ True› | (exfalso; omega)
theorem l251_3 (hW : WfA A) (hy : 0 ≤ year ∧ year ≤ 7) (hkn : inR known) (hK : ∀ I1, Fr [116] [] I0 I1 → PShut A year known I1 → Q none (bd L I1 R S)) : ∀ (n k : Nat) (I : mI) (w : Value), k + n = nN A → RelM I A → Fr [116] [] I0 I → (∀ s d : Nat, s < 6 → d < 100 → ld I 116 (100 * s + d) = bI (spB A 1 s (100 * year + d) known k)) → h251_3 (d + 1) L I R S Q year known k w := by
  have hW' := hW
  obtain ⟨w1, w2, w3, w4, w5⟩ := hW
  unfold WfN at w4
  have hN2 : (nN A : Int) = A 91 3 := by unfold nN; omega
  intro n
  induction n with
  | zero =>
    intro k I w hk hM hf hp
    refine e251_3 hM ⟨?_, fun h => ?_, fun h => ?_⟩
    · refine And.intro ?_ ?_ <;> omega
    · exfalso; omega
    · refine hK I hf ?_
      rw [show k = nN A by omega] at hp
      exact hp
  | succ n ih =>
    intro k I w hk hM hf hp
    have hk2 : k < nN A := by omega
    refine e251_3 hM ?_
    simp only [Int.toNat_natCast]
    by_cases hc : A 103 k = 1 ∧ A 108 k ≤ known ∧ known < A 109 k
    · have ih : h251_5 (d + 1) L I R S Q year known k (max (A 105 k) (100 * year)) := by
        refine l251_5 hW' hy hk2 hc.1 _ _ I hM ⟨Int.le_refl _, by have := (w5 k hk2).hol hc.1; omega⟩ rfl fun I1 w1 hf1 hv => ih (k + 1) I1 w1 (by omega) (hM.fr hf1 rfl) (hf.trans hf1) fun s d hs hd => ?_
        rw [hv s d hs hd, hp s d hs hd]
        rw [spB_succ]
        by_cases hs2 : A 103 k = 1 ∧ A 104 k = s ∧ (A 105 k ≤ 100 * year + d ∧ 100 * year + d ≤ A 106 k) ∧ A 108 k ≤ known ∧ known < A 109 k
        · rw [if_pos (by omega), decide_eq_true hs2, Bool.or_true]; rfl
        · rw [if_neg (by omega), decide_eq_false hs2, Bool.or_false]
      repeat' first | exact ih | with_reducible assumption | refine And.intro ?_ ?_ | intro _ | omega | exact absurd trivial ‹¬ True› | (exfalso; omega)
    · have ih := ih (k + 1) I w (by omega) hM hf (fun s d hs hd => by
        rw [hp s d hs hd]
        rw [spB_succ]
        rw [decide_eq_false (by omega), Bool.or_false])
      repeat' first | exact ih | with_reducible assumption | refine And.intro ?_ ?_ | intro _ | omega | exact absurd trivial ‹¬ True› | (exfalso; omega)
theorem l251_1 (hW : WfA A) (hy : 0 ≤ year ∧ year ≤ 7) (hkn : inR known) (hK : ∀ I1, Fr [116] [] I0 I1 → PShut A year known I1 → Q none (bd L I1 R S)) : ∀ (n k : Nat) (I : mI) (w : Value), k + n = 600 → RelM I A → Fr [116] [] I0 I → (∀ j : Nat, j < k → ld I 116 j = 0) → h251_1 (d + 1) L I R S Q year known k w := by
  intro n
  induction n with
  | zero =>
    intro k I w hk hM hf hp
    refine e251_1 hM ⟨?_, fun h => ?_, fun h => ?_⟩
    · refine And.intro ?_ ?_ <;> omega
    · exfalso; omega
    · exact l251_3 hW hy hkn hK (nN A) 0 I w (by omega) hM hf (fun s d hs hd => hp _ (by omega))
  | succ n ih =>
    intro k I w hk hM hf hp
    have ih := ih (k + 1) (u2 I 116 k (oI 0)) w (by omega) (hM.scr rfl) (hf.wr rfl) (fun j hj => by
      rw [ld_w (inRd rfl)]
      split
      · rfl
      · exact hp j (by omega))
    refine e251_1 hM ?_
    simp only [Int.toNat_natCast]
    repeat' first | exact ih | with_reducible assumption | refine And.intro ?_ ?_ | intro _ | omega | exact absurd trivial ‹¬ True› | (exfalso; omega)
theorem k251 {K : mM → Prop} (hM : RelM I A) (hW : WfA A) (hy : 0 ≤ year ∧ year ≤ 7) (hkn : inR known) (hK : ∀ I1, Fr [116] [] I I1 → PShut A year known I1 → K (bd L I1 R S)) : CallV (d + 1) 251 [.ref 91, .int (oI year), .int (oI known)] (bd L I R S) K :=
  e251 hM (l251_1 hW hy hkn (fun I1 h1 h2 => rqV_of (hK I1 h1 h2)) 600 0 I mUn rfl hM (Fr.refl _ _ _) (fun j hj => by omega))
end
/-! a child's year -/
def entL (A : aS) (c day known : Int) : Nat → Int
  | 0 => -1
  | k + 1 => if A 103 k = 0 ∧ A 104 k = c ∧ A 106 k = day ∧ A 108 k ≤ known ∧ known < A 109 k then -2 - (k : Int) else entL A c day known k
def kdL (A : aS) (c day known : Int) : Nat → Int
  | 0 => 0
  | k + 1 => if A 103 k = 3 ∧ A 104 k = c ∧ (A 105 k ≤ day ∧ day ≤ A 106 k) ∧ A 108 k ≤ known ∧ known < A 109 k then iOr (kdL A c day known k) (iShl 1 (A 107 k)) else kdL A c day known k
def kdS (A : aS) (c day known : Int) : Int := kdL A c day known (nN A)
theorem onL_succ {A : aS} {c day known : Int} {k : Nat} : onL A c day known (k + 1) = if A 103 k = 0 ∧ A 104 k = c ∧ A 106 k ≤ day ∧ (onL A c day known k).2 ≤ A 106 k ∧ A 108 k ≤ known ∧ known < A 109 k then (A 105 k, A 106 k) else onL A c day known k := rfl
theorem entL_succ {A : aS} {c day known : Int} {k : Nat} : entL A c day known (k + 1) = if A 103 k = 0 ∧ A 104 k = c ∧ A 106 k = day ∧ A 108 k ≤ known ∧ known < A 109 k then -2 - (k : Int) else entL A c day known k := rfl
theorem kdL_succ {A : aS} {c day known : Int} {k : Nat} : kdL A c day known (k + 1) = if A 103 k = 3 ∧ A 104 k = c ∧ (A 105 k ≤ day ∧ day ≤ A 106 k) ∧ A 108 k ≤ known ∧ known < A 109 k then iOr (kdL A c day known k) (iShl 1 (A 107 k)) else kdL A c day known k := rfl
theorem mkL_succ {A : aS} {c half known : Int} {k : Nat} : mkL' A c half known (k + 1) = if A 103 k = 2 ∧ A 104 k = c ∧ (A 105 k ≤ half ∧ half ≤ A 106 k) ∧ A 108 k ≤ known ∧ known < A 109 k then A 107 k else mkL' A c half known k := rfl
theorem onL_best {A : aS} {c day known : Int} : ∀ k, (onL A c day known k).2 ≤ max day (-1)
  | 0 => by unfold onL; omega
  | k + 1 => by
    rw [onL_succ]
    split
    · rename_i h; dsimp only; omega
    · exact onL_best k
theorem on_ent {A : aS} {c day known : Int} (hd : 0 ≤ day) : ∀ k, (entL A c day known k = -1 ∧ onL A c day known k = onL A c (day - 1) known k) ∨ ∃ j : Nat, j < k ∧ entL A c day known k = -2 - (j : Int) ∧ onL A c day known k = (A 105 j, day)
  | 0 => Or.inl ⟨rfl, rfl⟩
  | k + 1 => by
    have ih := on_ent (A := A) (c := c) (known := known) hd k
    have hb := onL_best (A := A) (c := c) (day := day) (known := known) k
    have hb1 := onL_best (A := A) (c := c) (day := day - 1) (known := known) k
    rw [entL_succ, onL_succ, onL_succ]
    by_cases h : A 103 k = 0 ∧ A 104 k = c ∧ A 106 k = day ∧ A 108 k ≤ known ∧ known < A 109 k
    · rw [if_pos h, if_pos (by omega)]
      exact Or.inr ⟨k, by omega, rfl, by rw [h.2.2.1]⟩
    · rw [if_neg h]
      rcases ih with ⟨h1, h2⟩ | ⟨j, h1, h2, h3⟩
      · refine Or.inl ⟨h1, ?_⟩
        rw [h2]
        by_cases h4 : A 103 k = 0 ∧ A 104 k = c ∧ A 106 k ≤ day ∧ (onL A c (day - 1) known k).2 ≤ A 106 k ∧ A 108 k ≤ known ∧ known < A 109 k
        · rw [if_pos h4, if_pos (by omega)]
        · rw [if_neg h4, if_neg (by omega)]
      · refine Or.inr ⟨j, by omega, h2, ?_⟩
        rw [if_neg ?_, h3]
        rw [h3]
        dsimp only
        omega
/-- a child's year, as painted -/
def Pnt (A : aS) (c year known : Int) (I : mI) : Prop := (∀ d : Nat, d < 100 → ld I 111 d = onS A c (100 * year + d) known ∧ ld I 113 d = kdS A c (100 * year + d) known ∧ ld I 114 d = bI (spS A 4 c (100 * year + d) known) ∧ ld I 115 d = bI (spS A 5 c (100 * year + d) known)) ∧ ∀ h : Nat, h < 200 → ld I 112 h = mkS A c (200 * year + h) known
def PntK (A : aS) (c year known : Int) (k : Nat) (I : mI) : Prop := (∀ d : Nat, d < 100 → ld I 111 d = entL A c (100 * year + d) known k ∧ ld I 113 d = kdL A c (100 * year + d) known k ∧ ld I 114 d = bI (spB A 4 c (100 * year + d) known k) ∧ ld I 115 d = bI (spB A 5 c (100 * year + d) known k)) ∧ ∀ h : Nat, h < 200 → ld I 112 h = mkL' A c (200 * year + h) known k
def h252_1 (d L : Nat) (I : Nat → Nat → Int32) (R : Nat → Nat → Option Nat) (S : List (Nat × Nat)) (Q : Option Value → mM → Prop) (x1 : Int) (x2 : Int) (x3 : Int) (x4 : Int) (x5 : Int) (x6 : Int) (w7 : Value) : Prop := Wp d (gb 252 1) [.ref 91, .int (oI x1), .int (oI x2), .int (oI x3), .int (oI x4), .int (oI x5), .int (oI x6), w7] [] (bd L I R S) Q
def h252_3 (d L : Nat) (I : Nat → Nat → Int32) (R : Nat → Nat → Option Nat) (S : List (Nat × Nat)) (Q : Option Value → mM → Prop) (x1 : Int) (x2 : Int) (x3 : Int) (x4 : Int) (x5 : Int) (x6 : Int) (w7 : Value) : Prop := Wp d (gb 252 3) [.ref 91, .int (oI x1), .int (oI x2), .int (oI x3), .int (oI x4), .int (oI x5), .int (oI x6), w7] [] (bd L I R S) Q
def h252_6 (d L : Nat) (I : Nat → Nat → Int32) (R : Nat → Nat → Option Nat) (S : List (Nat × Nat)) (Q : Option Value → mM → Prop) (x1 : Int) (x2 : Int) (x3 : Int) (x4 : Int) (x5 : Int) (x6 : Int) (x7 : Int) : Prop := Wp d (gb 252 6) [.ref 91, .int (oI x1), .int (oI x2), .int (oI x3), .int (oI x4), .int (oI x5), .int (oI x6), .int (oI x7)] [] (bd L I R S) Q
def h252_8 (d L : Nat) (I : Nat → Nat → Int32) (R : Nat → Nat → Option Nat) (S : List (Nat × Nat)) (Q : Option Value → mM → Prop) (x1 : Int) (x2 : Int) (x3 : Int) (x4 : Int) (x5 : Int) (x6 : Int) (x7 : Int) : Prop := Wp d (gb 252 8) [.ref 91, .int (oI x1), .int (oI x2), .int (oI x3), .int (oI x4), .int (oI x5), .int (oI x6), .int (oI x7)] [] (bd L I R S) Q
def h252_14 (d L : Nat) (I : Nat → Nat → Int32) (R : Nat → Nat → Option Nat) (S : List (Nat × Nat)) (Q : Option Value → mM → Prop) (w1 : Value) (w2 : Value) (w3 : Value) (w4 : Value) (x5 : Int) (x6 : Int) (w7 : Value) : Prop := Wp d (gb 252 14) [.ref 91, w1, w2, w3, w4, .int (oI x5), .int (oI x6), w7] [] (bd L I R S) Q
set_option maxRecDepth 4000 in
theorem e252_1 {d L : Nat} {I : Nat → Nat → Int32} {R : Nat → Nat → Option Nat} {S : List (Nat × Nat)} {Q : Option Value → mM → Prop} {A : aS} (hM : RelM I A) {x1 : Int} {x2 : Int} {x3 : Int} {x4 : Int} {x5 : Int} {x6 : Int} {w7 : Value} (hE : inR x6 ∧ (((x6 < 100) → (0 ≤ x6 ∧ x6 < 100) ∧ ((0 ≤ 2 * x6 ∧ 2 * x6 < 200) ∧ ((0 ≤ (2 * x6) + 1 ∧ (2 * x6) + 1 < 200) ∧ (h252_1 d L (u2 (u2 (u2 (u2 (u2 (u2 I 111 x6.toNat (oI (-1))) 113 x6.toNat (oI 0)) 114 x6.toNat (oI 0)) 115 x6.toNat (oI 0)) 112 (2 * x6).toNat (oI 0)) 112 ((2 * x6) + 1).toNat (oI 0)) R S Q x1 x2 x3 x4 x5 (x6 + 1) w7)))) ∧ (¬ (x6 < 100) → h252_3 d L I R S Q x1 x2 x3 x4 x5 0 w7))) : h252_1 d L I R S Q x1 x2 x3 x4 x5 x6 w7 := by
  unfold h252_1
  refine xG gb252.2.1 ?_
  refine s4 (x := x6) rfl ?_
  refine s0 ?_
  obtain ⟨g1, hE⟩ := hE
  refine s64 g1 (inRd rfl) (fun c2 => ?_) (fun c2 => ?_)
  · replace hE := hE.1 c2
    refine s6 (p := 91) rfl ?_
    refine s51 sh91 (by decide) (by decide) rf91_24 ?_
    refine s4 (x := x6) rfl ?_
    refine s0 ?_
    obtain ⟨g3, hE⟩ := hE
    refine s44 sh111 (by decide) g3 rfl ?_
    refine s6 (p := 91) rfl ?_
    refine s51 sh91 (by decide) (by decide) rf91_26 ?_
    refine s4 (x := x6) rfl ?_
    refine s0 ?_
    refine s44 sh113 (by decide) g3 rfl ?_
    refine s6 (p := 91) rfl ?_
    refine s51 sh91 (by decide) (by decide) rf91_27 ?_
    refine s4 (x := x6) rfl ?_
    refine s0 ?_
    refine s46 sh114 (by decide) g3 rfl (by decide) ?_
    refine s6 (p := 91) rfl ?_
    refine s51 sh91 (by decide) (by decide) rf91_28 ?_
    refine s4 (x := x6) rfl ?_
    refine s0 ?_
    refine s46 sh115 (by decide) g3 rfl (by decide) ?_
    refine s6 (p := 91) rfl ?_
    refine s51 sh91 (by decide) (by decide) rf91_25 ?_
    refine s0 ?_
    refine s4 (x := x6) rfl ?_
    refine s18 ?_
    refine s0 ?_
    obtain ⟨g4, hE⟩ := hE
    refine s44 sh112 (by decide) g4 rfl ?_
    refine s6 (p := 91) rfl ?_
    refine s51 sh91 (by decide) (by decide) rf91_25 ?_
    refine s0 ?_
    refine s4 (x := x6) rfl ?_
    refine s18 ?_
    refine s0 ?_
    refine s16 ?_
    refine s0 ?_
    obtain ⟨g5, hE⟩ := hE
    refine s44 sh112 (by decide) g5 rfl ?_
    refine s10 (x := x6) (ls' := [.ref 91, .int (oI x1), .int (oI x2), .int (oI x3), .int (oI x4), .int (oI x5), .int (oI (x6 + 1)), w7]) rfl rfl ?_
    refine s60 ?_
    exact hE
  · replace hE := hE.2 c2
    refine xG gb252.2.2.1 ?_
    refine s0 ?_
    refine s7 (ls' := [.ref 91, .int (oI x1), .int (oI x2), .int (oI x3), .int (oI x4), .int (oI x5), .int (oI 0), w7]) (Nat.le_of_ble_eq_true rfl) rfl ?_
    refine s79 ?_
    exact hE
set_option maxRecDepth 4000 in
theorem e252_3 {d L : Nat} {I : Nat → Nat → Int32} {R : Nat → Nat → Option Nat} {S : List (Nat × Nat)} {Q : Option Value → mM → Prop} {A : aS} (hM : RelM I A) {x1 : Int} {x2 : Int} {x3 : Int} {x4 : Int} {x5 : Int} {x6 : Int} {w7 : Value} (hE : inR x6 ∧ (((x6 < A 91 3) → (0 ≤ x6 ∧ x6 < 850) ∧ (inR x1 ∧ (((A 104 x6.toNat = x1) → ((A 103 x6.toNat = 1) → h252_3 (d + 1) L I R S Q x1 x2 x3 x4 x5 (x6 + 1) w7) ∧ (¬ (A 103 x6.toNat = 1) → inR x3 ∧ (((x3 < A 108 x6.toNat) → h252_3 (d + 1) L I R S Q x1 x2 x3 x4 x5 (x6 + 1) w7) ∧ (¬ (x3 < A 108 x6.toNat) → ((x3 < A 109 x6.toNat) → ((A 103 x6.toNat = 0) → inR (Int.tdiv (A 106 x6.toNat) 100) ∧ (inR x2 ∧ (((Int.tdiv (A 106 x6.toNat) 100 = x2) → (0 ≤ A 106 x6.toNat - x4 ∧ A 106 x6.toNat - x4 < 100) ∧ (((A 103 x6.toNat = 2) → inR (2 * x4) ∧ (h252_6 (d + 1) L (u2 I 111 (A 106 x6.toNat - x4).toNat (oI ((-2) - x6))) R S Q x1 x2 x3 x4 x5 x6 (max (A 105 x6.toNat) (2 * x4)))) ∧ (¬ (A 103 x6.toNat = 2) → inR x4 ∧ (h252_8 (d + 1) L (u2 I 111 (A 106 x6.toNat - x4).toNat (oI ((-2) - x6))) R S Q x1 x2 x3 x4 x5 x6 (max (A 105 x6.toNat) x4))))) ∧ (¬ (Int.tdiv (A 106 x6.toNat) 100 = x2) → ((A 103 x6.toNat = 2) → inR (2 * x4) ∧ (h252_6 (d + 1) L I R S Q x1 x2 x3 x4 x5 x6 (max (A 105 x6.toNat) (2 * x4)))) ∧ (¬ (A 103 x6.toNat = 2) → inR x4 ∧ (h252_8 (d + 1) L I R S Q x1 x2 x3 x4 x5 x6 (max (A 105 x6.toNat) x4))))))) ∧ (¬ (A 103 x6.toNat = 0) → ((A 103 x6.toNat = 2) → inR (2 * x4) ∧ (h252_6 (d + 1) L I R S Q x1 x2 x3 x4 x5 x6 (max (A 105 x6.toNat) (2 * x4)))) ∧ (¬ (A 103 x6.toNat = 2) → inR x4 ∧ (h252_8 (d + 1) L I R S Q x1 x2 x3 x4 x5 x6 (max (A 105 x6.toNat) x4))))) ∧ (¬ (x3 < A 109 x6.toNat) → h252_3 (d + 1) L I R S Q x1 x2 x3 x4 x5 (x6 + 1) w7))))) ∧ (¬ (A 104 x6.toNat = x1) → h252_3 (d + 1) L I R S Q x1 x2 x3 x4 x5 (x6 + 1) w7)))) ∧ (¬ (x6 < A 91 3) → h252_14 (d + 1) L I R S Q (.int (oI x1)) (.int (oI x2)) (.int (oI x3)) (.int (oI x4)) x5 0 w7))) : h252_3 (d + 1) L I R S Q x1 x2 x3 x4 x5 x6 w7 := by
  unfold h252_3
  refine xG gb252.2.2.2.1 ?_
  refine s4 (x := x6) rfl ?_
  refine s6 (p := 91) rfl ?_
  refine s50 (v := A 91 3) sh91 (by decide) (by decide) (rdM hM rfl) ?_
  obtain ⟨g1, hE⟩ := hE
  refine s64 g1 (inA hM (a := 91) (k := 3) rfl) (fun c2 => ?_) (fun c2 => ?_)
  · replace hE := hE.1 c2
    refine s6 (p := 91) rfl ?_
    refine s51 sh91 (by decide) (by decide) rf91_17 ?_
    refine s4 (x := x6) rfl ?_
    obtain ⟨g3, hE⟩ := hE
    refine s40 (v := A 104 x6.toNat) sh104 g3 rfl (rdM hM rfl) ?_
    refine s4 (x := x1) rfl ?_
    obtain ⟨g4, hE⟩ := hE
    refine s62 (inA hM (a := 104) (k := x6.toNat) rfl) g4 (fun c5 => ?_) (fun c5 => ?_)
    · replace hE := hE.1 c5
      refine s6 (p := 91) rfl ?_
      refine s51 sh91 (by decide) (by decide) rf91_16 ?_
      refine s4 (x := x6) rfl ?_
      refine s40 (v := A 103 x6.toNat) sh103 g3 rfl (rdM hM rfl) ?_
      refine s0 ?_
      refine s61 (inA hM (a := 103) (k := x6.toNat) rfl) (inRd rfl) (fun c6 => ?_) (fun c6 => ?_)
      · replace hE := hE.1 c6
        refine xG gb252.2.2.2.2.2.2.2.2.2.2.2.2.1 ?_
        refine s10 (x := x6) (ls' := [.ref 91, .int (oI x1), .int (oI x2), .int (oI x3), .int (oI x4), .int (oI x5), .int (oI (x6 + 1)), w7]) rfl rfl ?_
        refine s60 ?_
        exact hE
      · replace hE := hE.2 c6
        refine s6 (p := 91) rfl ?_
        refine s4 (x := x6) rfl ?_
        refine s4 (x := x3) rfl ?_
        refine sI rc226 rfl (Nat.le_of_ble_eq_true rfl) ?_
        refine cI_of (ls := [.ref 91, .int (oI x6), .int (oI x3)]) rfl ?_
        refine xG gb226.1 ?_
        refine s6 (p := 91) rfl ?_
        refine s51 sh91 (by decide) (by decide) rf91_21 ?_
        refine s4 (x := x6) rfl ?_
        refine s40 (v := A 108 x6.toNat) sh108 g3 rfl (rdM hM rfl) ?_
        refine s4 (x := x3) rfl ?_
        obtain ⟨g7, hE⟩ := hE
        refine s65 (inA hM (a := 108) (k := x6.toNat) rfl) g7 (fun c8 => ?_) (fun c8 => ?_)
        · replace hE := hE.1 c8
          refine xG gb226.2.1 ?_
          refine s0 ?_
          refine s79 ?_
          refine xG gb226.2.2 ?_
          refine s84 (by decide) ?_
          refine rqI_of ?_
          refine s68 (inRd rfl) (fun _ => ?_) (fun c9 => absurd (by decide) c9)
          refine s60 ?_
          refine xG gb252.2.2.2.2.2.2.2.2.2.2.2.2.1 ?_
          refine s10 (x := x6) (ls' := [.ref 91, .int (oI x1), .int (oI x2), .int (oI x3), .int (oI x4), .int (oI x5), .int (oI (x6 + 1)), w7]) rfl rfl ?_
          refine s60 ?_
          exact hE
        · replace hE := hE.2 c8
          refine s6 (p := 91) rfl ?_
          refine s51 sh91 (by decide) (by decide) rf91_22 ?_
          refine s4 (x := x6) rfl ?_
          refine s40 (v := A 109 x6.toNat) sh109 g3 rfl (rdM hM rfl) ?_
          refine s4 (x := x3) rfl ?_
          refine s66 (inA hM (a := 109) (k := x6.toNat) rfl) g7 (fun c10 => ?_) (fun c10 => ?_)
          · replace hE := hE.1 c10
            refine s0 ?_
            refine s60 ?_
            refine xG gb226.2.2 ?_
            refine s84 (by decide) ?_
            refine rqI_of ?_
            refine s68 (inRd rfl) (fun c11 => absurd c11 (by decide)) (fun _ => ?_)
            refine xG gb252.2.2.2.2.1 ?_
            refine s6 (p := 91) rfl ?_
            refine s51 sh91 (by decide) (by decide) rf91_16 ?_
            refine s4 (x := x6) rfl ?_
            refine s40 (v := A 103 x6.toNat) sh103 g3 rfl (rdM hM rfl) ?_
            refine s68 (inA hM (a := 103) (k := x6.toNat) rfl) (fun c12 => ?_) (fun c12 => ?_)
            · replace hE := hE.1 c12
              refine s6 (p := 91) rfl ?_
              refine s51 sh91 (by decide) (by decide) rf91_19 ?_
              refine s4 (x := x6) rfl ?_
              refine s40 (v := A 106 x6.toNat) sh106 g3 rfl (rdM hM rfl) ?_
              refine s0 ?_
              refine s19 (inA hM (a := 106) (k := x6.toNat) rfl) ⟨(inRd rfl), by decide⟩ ?_
              refine s4 (x := x2) rfl ?_
              obtain ⟨g13, hE⟩ := hE
              obtain ⟨g14, hE⟩ := hE
              refine s62 g13 g14 (fun c15 => ?_) (fun c15 => ?_)
              · replace hE := hE.1 c15
                refine s6 (p := 91) rfl ?_
                refine s51 sh91 (by decide) (by decide) rf91_24 ?_
                refine s6 (p := 91) rfl ?_
                refine s51 sh91 (by decide) (by decide) rf91_19 ?_
                refine s4 (x := x6) rfl ?_
                refine s40 (v := A 106 x6.toNat) sh106 g3 rfl (rdM hM rfl) ?_
                refine s4 (x := x4) rfl ?_
                refine s17 ?_
                refine s0 ?_
                refine s4 (x := x6) rfl ?_
                refine s17 ?_
                obtain ⟨g16, hE⟩ := hE
                refine s44 sh111 (by decide) g16 rfl ?_
                refine s79 ?_
                refine xG gb252.2.2.2.2.2.1 ?_
                refine s6 (p := 91) rfl ?_
                refine s51 sh91 (by decide) (by decide) rf91_16 ?_
                refine s4 (x := x6) rfl ?_
                refine s40 (v := A 103 x6.toNat) sh103 g3 rfl ((v2_ne (by decide)).trans (rdM hM rfl)) ?_
                refine s0 ?_
                refine s62 (inA hM (a := 103) (k := x6.toNat) rfl) (inRd rfl) (fun c17 => ?_) (fun c17 => ?_)
                · replace hE := hE.1 c17
                  refine s6 (p := 91) rfl ?_
                  refine s51 sh91 (by decide) (by decide) rf91_18 ?_
                  refine s4 (x := x6) rfl ?_
                  refine s40 (v := A 105 x6.toNat) sh105 g3 rfl ((v2_ne (by decide)).trans (rdM hM rfl)) ?_
                  refine s0 ?_
                  refine s4 (x := x4) rfl ?_
                  refine s18 ?_
                  obtain ⟨g18, hE⟩ := hE
                  refine sI rc346 rfl (Nat.le_of_ble_eq_true rfl) ?_
                  refine k346 (inA hM (a := 105) (k := x6.toNat) rfl) g18 ?_
                  refine s7 (ls' := [.ref 91, .int (oI x1), .int (oI x2), .int (oI x3), .int (oI x4), .int (oI x5), .int (oI x6), .int (oI (max (A 105 x6.toNat) (2 * x4)))]) (Nat.le_of_ble_eq_true rfl) rfl ?_
                  refine s79 ?_
                  exact hE
                · replace hE := hE.2 c17
                  refine xG gb252.2.2.2.2.2.2.2.1 ?_
                  refine s6 (p := 91) rfl ?_
                  refine s51 sh91 (by decide) (by decide) rf91_18 ?_
                  refine s4 (x := x6) rfl ?_
                  refine s40 (v := A 105 x6.toNat) sh105 g3 rfl ((v2_ne (by decide)).trans (rdM hM rfl)) ?_
                  refine s4 (x := x4) rfl ?_
                  obtain ⟨g19, hE⟩ := hE
                  refine sI rc346 rfl (Nat.le_of_ble_eq_true rfl) ?_
                  refine k346 (inA hM (a := 105) (k := x6.toNat) rfl) g19 ?_
                  refine s7 (ls' := [.ref 91, .int (oI x1), .int (oI x2), .int (oI x3), .int (oI x4), .int (oI x5), .int (oI x6), .int (oI (max (A 105 x6.toNat) x4))]) (Nat.le_of_ble_eq_true rfl) rfl ?_
                  refine s79 ?_
                  exact hE
              · replace hE := hE.2 c15
                refine xG gb252.2.2.2.2.2.1 ?_
                refine s6 (p := 91) rfl ?_
                refine s51 sh91 (by decide) (by decide) rf91_16 ?_
                refine s4 (x := x6) rfl ?_
                refine s40 (v := A 103 x6.toNat) sh103 g3 rfl (rdM hM rfl) ?_
                refine s0 ?_
                refine s62 (inA hM (a := 103) (k := x6.toNat) rfl) (inRd rfl) (fun c20 => ?_) (fun c20 => ?_)
                · replace hE := hE.1 c20
                  refine s6 (p := 91) rfl ?_
                  refine s51 sh91 (by decide) (by decide) rf91_18 ?_
                  refine s4 (x := x6) rfl ?_
                  refine s40 (v := A 105 x6.toNat) sh105 g3 rfl (rdM hM rfl) ?_
                  refine s0 ?_
                  refine s4 (x := x4) rfl ?_
                  refine s18 ?_
                  obtain ⟨g21, hE⟩ := hE
                  refine sI rc346 rfl (Nat.le_of_ble_eq_true rfl) ?_
                  refine k346 (inA hM (a := 105) (k := x6.toNat) rfl) g21 ?_
                  refine s7 (ls' := [.ref 91, .int (oI x1), .int (oI x2), .int (oI x3), .int (oI x4), .int (oI x5), .int (oI x6), .int (oI (max (A 105 x6.toNat) (2 * x4)))]) (Nat.le_of_ble_eq_true rfl) rfl ?_
                  refine s79 ?_
                  exact hE
                · replace hE := hE.2 c20
                  refine xG gb252.2.2.2.2.2.2.2.1 ?_
                  refine s6 (p := 91) rfl ?_
                  refine s51 sh91 (by decide) (by decide) rf91_18 ?_
                  refine s4 (x := x6) rfl ?_
                  refine s40 (v := A 105 x6.toNat) sh105 g3 rfl (rdM hM rfl) ?_
                  refine s4 (x := x4) rfl ?_
                  obtain ⟨g22, hE⟩ := hE
                  refine sI rc346 rfl (Nat.le_of_ble_eq_true rfl) ?_
                  refine k346 (inA hM (a := 105) (k := x6.toNat) rfl) g22 ?_
                  refine s7 (ls' := [.ref 91, .int (oI x1), .int (oI x2), .int (oI x3), .int (oI x4), .int (oI x5), .int (oI x6), .int (oI (max (A 105 x6.toNat) x4))]) (Nat.le_of_ble_eq_true rfl) rfl ?_
                  refine s79 ?_
                  exact hE
            · replace hE := hE.2 c12
              refine xG gb252.2.2.2.2.2.1 ?_
              refine s6 (p := 91) rfl ?_
              refine s51 sh91 (by decide) (by decide) rf91_16 ?_
              refine s4 (x := x6) rfl ?_
              refine s40 (v := A 103 x6.toNat) sh103 g3 rfl (rdM hM rfl) ?_
              refine s0 ?_
              refine s62 (inA hM (a := 103) (k := x6.toNat) rfl) (inRd rfl) (fun c23 => ?_) (fun c23 => ?_)
              · replace hE := hE.1 c23
                refine s6 (p := 91) rfl ?_
                refine s51 sh91 (by decide) (by decide) rf91_18 ?_
                refine s4 (x := x6) rfl ?_
                refine s40 (v := A 105 x6.toNat) sh105 g3 rfl (rdM hM rfl) ?_
                refine s0 ?_
                refine s4 (x := x4) rfl ?_
                refine s18 ?_
                obtain ⟨g24, hE⟩ := hE
                refine sI rc346 rfl (Nat.le_of_ble_eq_true rfl) ?_
                refine k346 (inA hM (a := 105) (k := x6.toNat) rfl) g24 ?_
                refine s7 (ls' := [.ref 91, .int (oI x1), .int (oI x2), .int (oI x3), .int (oI x4), .int (oI x5), .int (oI x6), .int (oI (max (A 105 x6.toNat) (2 * x4)))]) (Nat.le_of_ble_eq_true rfl) rfl ?_
                refine s79 ?_
                exact hE
              · replace hE := hE.2 c23
                refine xG gb252.2.2.2.2.2.2.2.1 ?_
                refine s6 (p := 91) rfl ?_
                refine s51 sh91 (by decide) (by decide) rf91_18 ?_
                refine s4 (x := x6) rfl ?_
                refine s40 (v := A 105 x6.toNat) sh105 g3 rfl (rdM hM rfl) ?_
                refine s4 (x := x4) rfl ?_
                obtain ⟨g25, hE⟩ := hE
                refine sI rc346 rfl (Nat.le_of_ble_eq_true rfl) ?_
                refine k346 (inA hM (a := 105) (k := x6.toNat) rfl) g25 ?_
                refine s7 (ls' := [.ref 91, .int (oI x1), .int (oI x2), .int (oI x3), .int (oI x4), .int (oI x5), .int (oI x6), .int (oI (max (A 105 x6.toNat) x4))]) (Nat.le_of_ble_eq_true rfl) rfl ?_
                refine s79 ?_
                exact hE
          · replace hE := hE.2 c10
            refine xG gb226.2.1 ?_
            refine s0 ?_
            refine s79 ?_
            refine xG gb226.2.2 ?_
            refine s84 (by decide) ?_
            refine rqI_of ?_
            refine s68 (inRd rfl) (fun _ => ?_) (fun c26 => absurd (by decide) c26)
            refine s60 ?_
            refine xG gb252.2.2.2.2.2.2.2.2.2.2.2.2.1 ?_
            refine s10 (x := x6) (ls' := [.ref 91, .int (oI x1), .int (oI x2), .int (oI x3), .int (oI x4), .int (oI x5), .int (oI (x6 + 1)), w7]) rfl rfl ?_
            refine s60 ?_
            exact hE
    · replace hE := hE.2 c5
      refine xG gb252.2.2.2.2.2.2.2.2.2.2.2.2.1 ?_
      refine s10 (x := x6) (ls' := [.ref 91, .int (oI x1), .int (oI x2), .int (oI x3), .int (oI x4), .int (oI x5), .int (oI (x6 + 1)), w7]) rfl rfl ?_
      refine s60 ?_
      exact hE
  · replace hE := hE.2 c2
    refine xG gb252.2.2.2.2.2.2.2.2.2.2.2.2.2.1 ?_
    refine s0 ?_
    refine s7 (ls' := [.ref 91, .int (oI x1), .int (oI x2), .int (oI x3), .int (oI x4), .int (oI x5), .int (oI 0), w7]) (Nat.le_of_ble_eq_true rfl) rfl ?_
    refine s79 ?_
    exact hE
set_option maxRecDepth 4000 in
theorem e252_6 {d L : Nat} {I : Nat → Nat → Int32} {R : Nat → Nat → Option Nat} {S : List (Nat × Nat)} {Q : Option Value → mM → Prop} {A : aS} (hM : RelM I A) {x1 : Int} {x2 : Int} {x3 : Int} {x4 : Int} {x5 : Int} {x6 : Int} {x7 : Int} (hE : (0 ≤ x6 ∧ x6 < 850) ∧ (inR ((2 * x4) + 199) ∧ (inR x7 ∧ (inR (min (A 106 x6.toNat) ((2 * x4) + 199)) ∧ (((min (A 106 x6.toNat) ((2 * x4) + 199) < x7) → inR x4 ∧ (h252_8 (d + 1) L I R S Q x1 x2 x3 x4 x5 x6 (max (A 105 x6.toNat) x4))) ∧ (¬ (min (A 106 x6.toNat) ((2 * x4) + 199) < x7) → (0 ≤ x7 - (2 * x4) ∧ x7 - (2 * x4) < 200) ∧ (h252_6 (d + 1) L (u2 I 112 (x7 - (2 * x4)).toNat (oI (A 107 x6.toNat))) R S Q x1 x2 x3 x4 x5 x6 (x7 + 1)))))))) : h252_6 (d + 1) L I R S Q x1 x2 x3 x4 x5 x6 x7 := by
  unfold h252_6
  refine xG gb252.2.2.2.2.2.2.1 ?_
  refine s4 (x := x7) rfl ?_
  refine s6 (p := 91) rfl ?_
  refine s51 sh91 (by decide) (by decide) rf91_19 ?_
  refine s4 (x := x6) rfl ?_
  obtain ⟨g1, hE⟩ := hE
  refine s40 (v := A 106 x6.toNat) sh106 g1 rfl (rdM hM rfl) ?_
  refine s0 ?_
  refine s4 (x := x4) rfl ?_
  refine s18 ?_
  refine s0 ?_
  refine s16 ?_
  obtain ⟨g2, hE⟩ := hE
  refine sI rc345 rfl (Nat.le_of_ble_eq_true rfl) ?_
  refine k345 (inA hM (a := 106) (k := x6.toNat) rfl) g2 ?_
  obtain ⟨g3, hE⟩ := hE
  obtain ⟨g4, hE⟩ := hE
  refine s65 g3 g4 (fun c5 => ?_) (fun c5 => ?_)
  · replace hE := hE.1 c5
    refine xG gb252.2.2.2.2.2.2.2.1 ?_
    refine s6 (p := 91) rfl ?_
    refine s51 sh91 (by decide) (by decide) rf91_18 ?_
    refine s4 (x := x6) rfl ?_
    refine s40 (v := A 105 x6.toNat) sh105 g1 rfl (rdM hM rfl) ?_
    refine s4 (x := x4) rfl ?_
    obtain ⟨g6, hE⟩ := hE
    refine sI rc346 rfl (Nat.le_of_ble_eq_true rfl) ?_
    refine k346 (inA hM (a := 105) (k := x6.toNat) rfl) g6 ?_
    refine s7 (ls' := [.ref 91, .int (oI x1), .int (oI x2), .int (oI x3), .int (oI x4), .int (oI x5), .int (oI x6), .int (oI (max (A 105 x6.toNat) x4))]) (Nat.le_of_ble_eq_true rfl) rfl ?_
    refine s79 ?_
    exact hE
  · replace hE := hE.2 c5
    refine s6 (p := 91) rfl ?_
    refine s51 sh91 (by decide) (by decide) rf91_25 ?_
    refine s4 (x := x7) rfl ?_
    refine s0 ?_
    refine s4 (x := x4) rfl ?_
    refine s18 ?_
    refine s17 ?_
    refine s6 (p := 91) rfl ?_
    refine s51 sh91 (by decide) (by decide) rf91_20 ?_
    refine s4 (x := x6) rfl ?_
    refine s40 (v := A 107 x6.toNat) sh107 g1 rfl (rdM hM rfl) ?_
    obtain ⟨g7, hE⟩ := hE
    refine s44 sh112 (by decide) g7 rfl ?_
    refine s10 (x := x7) (ls' := [.ref 91, .int (oI x1), .int (oI x2), .int (oI x3), .int (oI x4), .int (oI x5), .int (oI x6), .int (oI (x7 + 1))]) rfl rfl ?_
    refine s60 ?_
    exact hE
set_option maxRecDepth 4000 in
theorem e252_8 {d L : Nat} {I : Nat → Nat → Int32} {R : Nat → Nat → Option Nat} {S : List (Nat × Nat)} {Q : Option Value → mM → Prop} {A : aS} (hM : RelM I A) {x1 : Int} {x2 : Int} {x3 : Int} {x4 : Int} {x5 : Int} {x6 : Int} {x7 : Int} (hE : (0 ≤ x6 ∧ x6 < 850) ∧ (((3 ≤ A 103 x6.toNat ∧ A 103 x6.toNat ≤ 5) → inR (x4 + 99) ∧ (inR x7 ∧ (inR (min (A 106 x6.toNat) (x4 + 99)) ∧ (((min (A 106 x6.toNat) (x4 + 99) < x7) → h252_3 (d + 1) L I R S Q x1 x2 x3 x4 x5 (x6 + 1) (.int (oI x7))) ∧ (¬ (min (A 106 x6.toNat) (x4 + 99) < x7) → ((A 103 x6.toNat = 3) → (0 ≤ x7 - x4 ∧ x7 - x4 < 100) ∧ (((A 103 x6.toNat = 4) → ((A 103 x6.toNat = 5) → h252_8 (d + 1) L (u2 (u2 (u2 I 113 (x7 - x4).toNat (oI (iOr (ld I 113 (x7 - x4).toNat) (iShl 1 (A 107 x6.toNat))))) 114 (x7 - x4).toNat (oI 1)) 115 (x7 - x4).toNat (oI 1)) R S Q x1 x2 x3 x4 x5 x6 (x7 + 1)) ∧ (¬ (A 103 x6.toNat = 5) → h252_8 (d + 1) L (u2 (u2 I 113 (x7 - x4).toNat (oI (iOr (ld I 113 (x7 - x4).toNat) (iShl 1 (A 107 x6.toNat))))) 114 (x7 - x4).toNat (oI 1)) R S Q x1 x2 x3 x4 x5 x6 (x7 + 1))) ∧ (¬ (A 103 x6.toNat = 4) → ((A 103 x6.toNat = 5) → h252_8 (d + 1) L (u2 (u2 I 113 (x7 - x4).toNat (oI (iOr (ld I 113 (x7 - x4).toNat) (iShl 1 (A 107 x6.toNat))))) 115 (x7 - x4).toNat (oI 1)) R S Q x1 x2 x3 x4 x5 x6 (x7 + 1)) ∧ (¬ (A 103 x6.toNat = 5) → h252_8 (d + 1) L (u2 I 113 (x7 - x4).toNat (oI (iOr (ld I 113 (x7 - x4).toNat) (iShl 1 (A 107 x6.toNat))))) R S Q x1 x2 x3 x4 x5 x6 (x7 + 1))))) ∧ (¬ (A 103 x6.toNat = 3) → ((A 103 x6.toNat = 4) → (0 ≤ x7 - x4 ∧ x7 - x4 < 100) ∧ (((A 103 x6.toNat = 5) → h252_8 (d + 1) L (u2 (u2 I 114 (x7 - x4).toNat (oI 1)) 115 (x7 - x4).toNat (oI 1)) R S Q x1 x2 x3 x4 x5 x6 (x7 + 1)) ∧ (¬ (A 103 x6.toNat = 5) → h252_8 (d + 1) L (u2 I 114 (x7 - x4).toNat (oI 1)) R S Q x1 x2 x3 x4 x5 x6 (x7 + 1)))) ∧ (¬ (A 103 x6.toNat = 4) → ((A 103 x6.toNat = 5) → (0 ≤ x7 - x4 ∧ x7 - x4 < 100) ∧ (h252_8 (d + 1) L (u2 I 115 (x7 - x4).toNat (oI 1)) R S Q x1 x2 x3 x4 x5 x6 (x7 + 1))) ∧ (¬ (A 103 x6.toNat = 5) → h252_8 (d + 1) L I R S Q x1 x2 x3 x4 x5 x6 (x7 + 1))))))))) ∧ (¬ (3 ≤ A 103 x6.toNat ∧ A 103 x6.toNat ≤ 5) → h252_3 (d + 1) L I R S Q x1 x2 x3 x4 x5 (x6 + 1) (.int (oI x7))))) : h252_8 (d + 1) L I R S Q x1 x2 x3 x4 x5 x6 x7 := by
  unfold h252_8
  refine xG gb252.2.2.2.2.2.2.2.2.1 ?_
  refine s6 (p := 91) rfl ?_
  refine s51 sh91 (by decide) (by decide) rf91_16 ?_
  refine s4 (x := x6) rfl ?_
  obtain ⟨g1, hE⟩ := hE
  refine s40 (v := A 103 x6.toNat) sh103 g1 rfl (rdM hM rfl) ?_
  refine s0 ?_
  refine s0 ?_
  refine sI rc210 rfl (Nat.le_of_ble_eq_true rfl) ?_
  refine k210 (inA hM (a := 103) (k := x6.toNat) rfl) (inRd rfl) (inRd rfl) (fun c2 => ?_) (fun c2 => ?_)
  · replace hE := hE.1 c2
    refine s67 (inRd rfl) (fun c3 => absurd c3 (by decide)) (fun _ => ?_)
    refine s4 (x := x7) rfl ?_
    refine s6 (p := 91) rfl ?_
    refine s51 sh91 (by decide) (by decide) rf91_19 ?_
    refine s4 (x := x6) rfl ?_
    refine s40 (v := A 106 x6.toNat) sh106 g1 rfl (rdM hM rfl) ?_
    refine s4 (x := x4) rfl ?_
    refine s0 ?_
    refine s16 ?_
    obtain ⟨g4, hE⟩ := hE
    refine sI rc345 rfl (Nat.le_of_ble_eq_true rfl) ?_
    refine k345 (inA hM (a := 106) (k := x6.toNat) rfl) g4 ?_
    obtain ⟨g5, hE⟩ := hE
    obtain ⟨g6, hE⟩ := hE
    refine s65 g5 g6 (fun c7 => ?_) (fun c7 => ?_)
    · replace hE := hE.1 c7
      refine xG gb252.2.2.2.2.2.2.2.2.2.2.2.2.1 ?_
      refine s10 (x := x6) (ls' := [.ref 91, .int (oI x1), .int (oI x2), .int (oI x3), .int (oI x4), .int (oI x5), .int (oI (x6 + 1)), .int (oI x7)]) rfl rfl ?_
      refine s60 ?_
      exact hE
    · replace hE := hE.2 c7
      refine s6 (p := 91) rfl ?_
      refine s51 sh91 (by decide) (by decide) rf91_16 ?_
      refine s4 (x := x6) rfl ?_
      refine s40 (v := A 103 x6.toNat) sh103 g1 rfl (rdM hM rfl) ?_
      refine s0 ?_
      refine s62 (inA hM (a := 103) (k := x6.toNat) rfl) (inRd rfl) (fun c8 => ?_) (fun c8 => ?_)
      · replace hE := hE.1 c8
        refine s6 (p := 91) rfl ?_
        refine s51 sh91 (by decide) (by decide) rf91_26 ?_
        refine s4 (x := x7) rfl ?_
        refine s4 (x := x4) rfl ?_
        refine s17 ?_
        refine s14 ?_
        obtain ⟨g9, hE⟩ := hE
        refine s40 (v := ld I 113 (x7 - x4).toNat) sh113 g9 rfl (oI_ld _ _ _) ?_
        refine s0 ?_
        refine s6 (p := 91) rfl ?_
        refine s51 sh91 (by decide) (by decide) rf91_20 ?_
        refine s4 (x := x6) rfl ?_
        refine s40 (v := A 107 x6.toNat) sh107 g1 rfl (rdM hM rfl) ?_
        refine s22 ?_
        refine s26 ?_
        refine s44 sh113 (by decide) g9 rfl ?_
        refine s79 ?_
        refine xG gb252.2.2.2.2.2.2.2.2.2.1 ?_
        refine s6 (p := 91) rfl ?_
        refine s51 sh91 (by decide) (by decide) rf91_16 ?_
        refine s4 (x := x6) rfl ?_
        refine s40 (v := A 103 x6.toNat) sh103 g1 rfl ((v2_ne (by decide)).trans (rdM hM rfl)) ?_
        refine s0 ?_
        refine s62 (inA hM (a := 103) (k := x6.toNat) rfl) (inRd rfl) (fun c10 => ?_) (fun c10 => ?_)
        · replace hE := hE.1 c10
          refine s6 (p := 91) rfl ?_
          refine s51 sh91 (by decide) (by decide) rf91_27 ?_
          refine s4 (x := x7) rfl ?_
          refine s4 (x := x4) rfl ?_
          refine s17 ?_
          refine s0 ?_
          refine s46 sh114 (by decide) g9 rfl (by decide) ?_
          refine s79 ?_
          refine xG gb252.2.2.2.2.2.2.2.2.2.2.1 ?_
          refine s6 (p := 91) rfl ?_
          refine s51 sh91 (by decide) (by decide) rf91_16 ?_
          refine s4 (x := x6) rfl ?_
          refine s40 (v := A 103 x6.toNat) sh103 g1 rfl ((v2_ne (by decide)).trans ((v2_ne (by decide)).trans (rdM hM rfl))) ?_
          refine s0 ?_
          refine s62 (inA hM (a := 103) (k := x6.toNat) rfl) (inRd rfl) (fun c11 => ?_) (fun c11 => ?_)
          · replace hE := hE.1 c11
            refine s6 (p := 91) rfl ?_
            refine s51 sh91 (by decide) (by decide) rf91_28 ?_
            refine s4 (x := x7) rfl ?_
            refine s4 (x := x4) rfl ?_
            refine s17 ?_
            refine s0 ?_
            refine s46 sh115 (by decide) g9 rfl (by decide) ?_
            refine s79 ?_
            refine xG gb252.2.2.2.2.2.2.2.2.2.2.2.1 ?_
            refine s10 (x := x7) (ls' := [.ref 91, .int (oI x1), .int (oI x2), .int (oI x3), .int (oI x4), .int (oI x5), .int (oI x6), .int (oI (x7 + 1))]) rfl rfl ?_
            refine s60 ?_
            exact hE
          · replace hE := hE.2 c11
            refine xG gb252.2.2.2.2.2.2.2.2.2.2.2.1 ?_
            refine s10 (x := x7) (ls' := [.ref 91, .int (oI x1), .int (oI x2), .int (oI x3), .int (oI x4), .int (oI x5), .int (oI x6), .int (oI (x7 + 1))]) rfl rfl ?_
            refine s60 ?_
            exact hE
        · replace hE := hE.2 c10
          refine xG gb252.2.2.2.2.2.2.2.2.2.2.1 ?_
          refine s6 (p := 91) rfl ?_
          refine s51 sh91 (by decide) (by decide) rf91_16 ?_
          refine s4 (x := x6) rfl ?_
          refine s40 (v := A 103 x6.toNat) sh103 g1 rfl ((v2_ne (by decide)).trans (rdM hM rfl)) ?_
          refine s0 ?_
          refine s62 (inA hM (a := 103) (k := x6.toNat) rfl) (inRd rfl) (fun c12 => ?_) (fun c12 => ?_)
          · replace hE := hE.1 c12
            refine s6 (p := 91) rfl ?_
            refine s51 sh91 (by decide) (by decide) rf91_28 ?_
            refine s4 (x := x7) rfl ?_
            refine s4 (x := x4) rfl ?_
            refine s17 ?_
            refine s0 ?_
            refine s46 sh115 (by decide) g9 rfl (by decide) ?_
            refine s79 ?_
            refine xG gb252.2.2.2.2.2.2.2.2.2.2.2.1 ?_
            refine s10 (x := x7) (ls' := [.ref 91, .int (oI x1), .int (oI x2), .int (oI x3), .int (oI x4), .int (oI x5), .int (oI x6), .int (oI (x7 + 1))]) rfl rfl ?_
            refine s60 ?_
            exact hE
          · replace hE := hE.2 c12
            refine xG gb252.2.2.2.2.2.2.2.2.2.2.2.1 ?_
            refine s10 (x := x7) (ls' := [.ref 91, .int (oI x1), .int (oI x2), .int (oI x3), .int (oI x4), .int (oI x5), .int (oI x6), .int (oI (x7 + 1))]) rfl rfl ?_
            refine s60 ?_
            exact hE
      · replace hE := hE.2 c8
        refine xG gb252.2.2.2.2.2.2.2.2.2.1 ?_
        refine s6 (p := 91) rfl ?_
        refine s51 sh91 (by decide) (by decide) rf91_16 ?_
        refine s4 (x := x6) rfl ?_
        refine s40 (v := A 103 x6.toNat) sh103 g1 rfl (rdM hM rfl) ?_
        refine s0 ?_
        refine s62 (inA hM (a := 103) (k := x6.toNat) rfl) (inRd rfl) (fun c13 => ?_) (fun c13 => ?_)
        · replace hE := hE.1 c13
          refine s6 (p := 91) rfl ?_
          refine s51 sh91 (by decide) (by decide) rf91_27 ?_
          refine s4 (x := x7) rfl ?_
          refine s4 (x := x4) rfl ?_
          refine s17 ?_
          refine s0 ?_
          obtain ⟨g14, hE⟩ := hE
          refine s46 sh114 (by decide) g14 rfl (by decide) ?_
          refine s79 ?_
          refine xG gb252.2.2.2.2.2.2.2.2.2.2.1 ?_
          refine s6 (p := 91) rfl ?_
          refine s51 sh91 (by decide) (by decide) rf91_16 ?_
          refine s4 (x := x6) rfl ?_
          refine s40 (v := A 103 x6.toNat) sh103 g1 rfl ((v2_ne (by decide)).trans (rdM hM rfl)) ?_
          refine s0 ?_
          refine s62 (inA hM (a := 103) (k := x6.toNat) rfl) (inRd rfl) (fun c15 => ?_) (fun c15 => ?_)
          · replace hE := hE.1 c15
            refine s6 (p := 91) rfl ?_
            refine s51 sh91 (by decide) (by decide) rf91_28 ?_
            refine s4 (x := x7) rfl ?_
            refine s4 (x := x4) rfl ?_
            refine s17 ?_
            refine s0 ?_
            refine s46 sh115 (by decide) g14 rfl (by decide) ?_
            refine s79 ?_
            refine xG gb252.2.2.2.2.2.2.2.2.2.2.2.1 ?_
            refine s10 (x := x7) (ls' := [.ref 91, .int (oI x1), .int (oI x2), .int (oI x3), .int (oI x4), .int (oI x5), .int (oI x6), .int (oI (x7 + 1))]) rfl rfl ?_
            refine s60 ?_
            exact hE
          · replace hE := hE.2 c15
            refine xG gb252.2.2.2.2.2.2.2.2.2.2.2.1 ?_
            refine s10 (x := x7) (ls' := [.ref 91, .int (oI x1), .int (oI x2), .int (oI x3), .int (oI x4), .int (oI x5), .int (oI x6), .int (oI (x7 + 1))]) rfl rfl ?_
            refine s60 ?_
            exact hE
        · replace hE := hE.2 c13
          refine xG gb252.2.2.2.2.2.2.2.2.2.2.1 ?_
          refine s6 (p := 91) rfl ?_
          refine s51 sh91 (by decide) (by decide) rf91_16 ?_
          refine s4 (x := x6) rfl ?_
          refine s40 (v := A 103 x6.toNat) sh103 g1 rfl (rdM hM rfl) ?_
          refine s0 ?_
          refine s62 (inA hM (a := 103) (k := x6.toNat) rfl) (inRd rfl) (fun c16 => ?_) (fun c16 => ?_)
          · replace hE := hE.1 c16
            refine s6 (p := 91) rfl ?_
            refine s51 sh91 (by decide) (by decide) rf91_28 ?_
            refine s4 (x := x7) rfl ?_
            refine s4 (x := x4) rfl ?_
            refine s17 ?_
            refine s0 ?_
            obtain ⟨g17, hE⟩ := hE
            refine s46 sh115 (by decide) g17 rfl (by decide) ?_
            refine s79 ?_
            refine xG gb252.2.2.2.2.2.2.2.2.2.2.2.1 ?_
            refine s10 (x := x7) (ls' := [.ref 91, .int (oI x1), .int (oI x2), .int (oI x3), .int (oI x4), .int (oI x5), .int (oI x6), .int (oI (x7 + 1))]) rfl rfl ?_
            refine s60 ?_
            exact hE
          · replace hE := hE.2 c16
            refine xG gb252.2.2.2.2.2.2.2.2.2.2.2.1 ?_
            refine s10 (x := x7) (ls' := [.ref 91, .int (oI x1), .int (oI x2), .int (oI x3), .int (oI x4), .int (oI x5), .int (oI x6), .int (oI (x7 + 1))]) rfl rfl ?_
            refine s60 ?_
            exact hE
  · replace hE := hE.2 c2
    refine s67 (inRd rfl) (fun _ => ?_) (fun c18 => absurd (by decide) c18)
    refine xG gb252.2.2.2.2.2.2.2.2.2.2.2.2.1 ?_
    refine s10 (x := x6) (ls' := [.ref 91, .int (oI x1), .int (oI x2), .int (oI x3), .int (oI x4), .int (oI x5), .int (oI (x6 + 1)), .int (oI x7)]) rfl rfl ?_
    refine s60 ?_
    exact hE
set_option maxRecDepth 4000 in
theorem e252_14 {d L : Nat} {I : Nat → Nat → Int32} {R : Nat → Nat → Option Nat} {S : List (Nat × Nat)} {Q : Option Value → mM → Prop} {A : aS} (hM : RelM I A) {w1 : Value} {w2 : Value} {w3 : Value} {w4 : Value} {x5 : Int} {x6 : Int} {w7 : Value} (hE : inR x6 ∧ (((x6 < 100) → (0 ≤ x6 ∧ x6 < 100) ∧ (((ld I 111 x6.toNat = (-1)) → h252_14 d L (u2 I 111 x6.toNat (oI x5)) R S Q w1 w2 w3 w4 x5 (x6 + 1) w7) ∧ (¬ (ld I 111 x6.toNat = (-1)) → (0 ≤ (-2) - (ld I 111 x6.toNat) ∧ (-2) - (ld I 111 x6.toNat) < 850) ∧ (h252_14 d L (u2 I 111 x6.toNat (oI (A 105 ((-2) - (ld I 111 x6.toNat)).toNat))) R S Q w1 w2 w3 (mNl w4) (A 105 ((-2) - (ld I 111 x6.toNat)).toNat) (x6 + 1) w7)))) ∧ (¬ (x6 < 100) → Q none (bd L I R S)))) : h252_14 d L I R S Q w1 w2 w3 w4 x5 x6 w7 := by
  unfold h252_14
  refine xG gb252.2.2.2.2.2.2.2.2.2.2.2.2.2.2.1 ?_
  refine s4 (x := x6) rfl ?_
  refine s0 ?_
  obtain ⟨g1, hE⟩ := hE
  refine s64 g1 (inRd rfl) (fun c2 => ?_) (fun c2 => ?_)
  · replace hE := hE.1 c2
    refine s6 (p := 91) rfl ?_
    refine s51 sh91 (by decide) (by decide) rf91_24 ?_
    refine s4 (x := x6) rfl ?_
    obtain ⟨g3, hE⟩ := hE
    refine s40 (v := ld I 111 x6.toNat) sh111 g3 rfl (oI_ld _ _ _) ?_
    refine s0 ?_
    refine s61 (ld_inR _ _ _) (inRd rfl) (fun c4 => ?_) (fun c4 => ?_)
    · replace hE := hE.1 c4
      refine xG gb252.2.2.2.2.2.2.2.2.2.2.2.2.2.2.2.1 ?_
      refine s6 (p := 91) rfl ?_
      refine s51 sh91 (by decide) (by decide) rf91_24 ?_
      refine s4 (x := x6) rfl ?_
      refine s4 (x := x5) rfl ?_
      refine s44 sh111 (by decide) g3 rfl ?_
      refine s10 (x := x6) (ls' := [.ref 91, w1, w2, w3, w4, .int (oI x5), .int (oI (x6 + 1)), w7]) rfl rfl ?_
      refine s60 ?_
      exact hE
    · replace hE := hE.2 c4
      refine s6 (p := 91) rfl ?_
      refine s51 sh91 (by decide) (by decide) rf91_18 ?_
      refine s0 ?_
      refine s6 (p := 91) rfl ?_
      refine s51 sh91 (by decide) (by decide) rf91_24 ?_
      refine s4 (x := x6) rfl ?_
      refine s40 (v := ld I 111 x6.toNat) sh111 g3 rfl (oI_ld _ _ _) ?_
      refine s17 ?_
      obtain ⟨g5, hE⟩ := hE
      refine s40 (v := A 105 ((-2) - (ld I 111 x6.toNat)).toNat) sh105 g5 rfl (rdM hM rfl) ?_
      refine s7 (ls' := [.ref 91, w1, w2, w3, mNl w4, .int (oI (A 105 ((-2) - (ld I 111 x6.toNat)).toNat)), .int (oI x6), w7]) (Nat.le_of_ble_eq_true rfl) rfl ?_
      refine s79 ?_
      refine xG gb252.2.2.2.2.2.2.2.2.2.2.2.2.2.2.2.1 ?_
      refine s6 (p := 91) rfl ?_
      refine s51 sh91 (by decide) (by decide) rf91_24 ?_
      refine s4 (x := x6) rfl ?_
      refine s4 (x := A 105 ((-2) - (ld I 111 x6.toNat)).toNat) rfl ?_
      refine s44 sh111 (by decide) g3 rfl ?_
      refine s10 (x := x6) (ls' := [.ref 91, w1, w2, w3, mNl w4, .int (oI (A 105 ((-2) - (ld I 111 x6.toNat)).toNat)), .int (oI (x6 + 1)), w7]) rfl rfl ?_
      refine s60 ?_
      exact hE
  · replace hE := hE.2 c2
    refine xG gb252.2.2.2.2.2.2.2.2.2.2.2.2.2.2.2.2 ?_
    refine s83 ?_
    exact hE
set_option maxRecDepth 4000 in
theorem e252 {d L : Nat} {I : Nat → Nat → Int32} {R : Nat → Nat → Option Nat} {S : List (Nat × Nat)} {K : mM → Prop} {A : aS} (hM : RelM I A) {x1 : Int} {x2 : Int} {x3 : Int} (hE : WfN A ∧ (inR x1 ∧ (inR ((100 * x2) - 1) ∧ (inR x3 ∧ (h252_1 (d + 2) L I R S (rqV K) x1 x2 x3 (100 * x2) (onS A x1 ((100 * x2) - 1) x3) 0 mUn))))) : CallV (d + 2) 252 [.ref 91, .int (oI x1), .int (oI x2), .int (oI x3)] (bd L I R S) K := by
  refine cV_of (ls := [.ref 91, .int (oI x1), .int (oI x2), .int (oI x3), mUn, mUn, mUn, mUn]) rfl ?_
  refine xG gb252.1 ?_
  refine s0 ?_
  refine s4 (x := x2) rfl ?_
  refine s18 ?_
  refine s7 (ls' := [.ref 91, .int (oI x1), .int (oI x2), .int (oI x3), .int (oI (100 * x2)), mUn, mUn, mUn]) (Nat.le_of_ble_eq_true rfl) rfl ?_
  refine s6 (p := 91) rfl ?_
  refine s4 (x := x1) rfl ?_
  refine s4 (x := 100 * x2) rfl ?_
  refine s0 ?_
  refine s17 ?_
  refine s4 (x := x3) rfl ?_
  obtain ⟨g1, hE⟩ := hE
  obtain ⟨g2, hE⟩ := hE
  obtain ⟨g3, hE⟩ := hE
  obtain ⟨g4, hE⟩ := hE
  refine sI rc225 rfl (Nat.le_of_ble_eq_true rfl) ?_
  refine k225 hM g1 g2 g3 g4 ?_
  refine s7 (ls' := [.ref 91, .int (oI x1), .int (oI x2), .int (oI x3), .int (oI (100 * x2)), .int (oI (onS A x1 ((100 * x2) - 1) x3)), mUn, mUn]) (Nat.le_of_ble_eq_true rfl) rfl ?_
  refine s0 ?_
  refine s7 (ls' := [.ref 91, .int (oI x1), .int (oI x2), .int (oI x3), .int (oI (100 * x2)), .int (oI (onS A x1 ((100 * x2) - 1) x3)), .int (oI 0), mUn]) (Nat.le_of_ble_eq_true rfl) rfl ?_
  refine s79 ?_
  exact hE
section
variable {d L : Nat} {I I0 : mI} {R : Nat → Nat → Option Nat} {S : List (Nat × Nat)} {Q : Option Value → mM → Prop} {A : aS} {c day known kind half year subj code : Int}
theorem l252_14 (hW : WfA A) (hy : 0 ≤ year ∧ year ≤ 7) (hK : ∀ I1, Fr [111] [] I0 I1 → (∀ d : Nat, d < 100 → ld I1 111 d = onS A c (100 * year + d) known) → Q none (bd L I1 R S)) : ∀ (n k : Nat) (I : mI) (w1 w2 w3 w4 w7 : Value), k + n = 100 → RelM I A → Fr [111] [] I0 I →
    (∀ j : Nat, j < k → ld I 111 j = onS A c (100 * year + j) known) → (∀ j : Nat, k ≤ j → j < 100 → ld I 111 j = entL A c (100 * year + j) known (nN A)) → h252_14 d L I R S Q w1 w2 w3 w4 (onS A c (100 * year + k - 1) known) k w7 := by
  obtain ⟨-, -, -, w4, w5⟩ := hW
  unfold WfN at w4
  intro n
  induction n with
  | zero =>
    intro k I w1 w2 w3 w4 w7 hk hM hf h1 h2
    refine e252_14 hM ⟨?_, fun h => ?_, fun h => ?_⟩
    · refine And.intro ?_ ?_ <;> omega
    · exfalso; omega
    · exact hK I hf (fun d hd => h1 d (by omega))
  | succ n ih =>
    intro k I w1 w2 w3 w4 w7 hk hM hf h1 h2
    have hon := on_ent (A := A) (c := c) (day := 100 * year + k) (known := known) (by omega) (nN A)
    have he := h2 k (by omega) (by omega)
    have key : ∀ (v : Int) (w4' : Value), inR v → v = onS A c (100 * year + k) known → h252_14 d L (u2 I 111 k (oI v)) R S Q w1 w2 w3 w4' v (k + 1) w7 := by
      intro v w4' hv hv2
      have h9 := ih (k + 1) (u2 I 111 k (oI v)) w1 w2 w3 w4' w7 (by omega) (hM.scr rfl) (hf.wr rfl) (fun j hj => by
        rw [ld_w hv]
        split
        · rename_i h; rw [h, hv2]
        · exact h1 j (by omega)) (fun j hj hj2 => by
        rw [ld_w hv, if_neg (by omega)]
        exact h2 j (by omega) hj2)
      rw [show (100 * year + ((k + 1 : Nat) : Int) - 1) = 100 * year + k by omega, ← hv2] at h9
      exact h9
    refine e252_14 hM ?_
    simp only [Int.toNat_natCast, he]
    rcases hon with ⟨q1, q2⟩ | ⟨j, q1, q2, q3⟩
    · rw [q1]
      have hv : inR (onS A c (100 * year + k - 1) known) := by
        unfold onS
        generalize nN A = m
        induction m with
        | zero => exact inRd rfl
        | succ m ihm => rw [onL_succ]; split; exact inA hM rfl; exact ihm
      have ih := key _ w4 hv (by unfold onS; rw [q2])
      refine ⟨?_, fun h => ⟨⟨by omega, by omega⟩, fun _ => ih, fun h2 => absurd rfl h2⟩, fun h => by exfalso; omega⟩
      refine And.intro ?_ ?_ <;> omega
    · rw [q2]
      have e1 : -2 - (-2 - (j : Int)) = j := by omega
      simp only [e1, Int.toNat_natCast]
      have ih := key (A 105 j) (mNl w4) (inA hM rfl) (by unfold onS; rw [q3])
      refine ⟨?_, fun h => ⟨⟨by omega, by omega⟩, fun h3 => by exfalso; omega, fun _ => ⟨?_, ih⟩⟩, fun h => by exfalso; omega⟩
      · refine And.intro ?_ ?_ <;> omega
      · unfold nN at q1; omega
theorem l252_8 (hW : WfA A) (hy : 0 ≤ year ∧ year ≤ 7) {at' : Int} {k : Nat} (hk : k < nN A) : ∀ (n : Nat) (x : Int) (I : mI), RelM I A → max (A 105 k) (100 * year) ≤ x ∧ inR x → (min (A 106 k) (100 * year + 99) + 1 - x).toNat = n →
    (∀ I1 w, Fr [113, 114, 115] [] I I1 → (∀ d : Nat, d < 100 → (ld I1 113 d = if A 103 k = 3 ∧ x ≤ 100 * year + d ∧ 100 * year + d ≤ A 106 k then iOr (ld I 113 d) (iShl 1 (A 107 k)) else ld I 113 d) ∧ (ld I1 114 d = if A 103 k = 4 ∧ x ≤ 100 * year + d ∧ 100 * year + d ≤ A 106 k then 1 else ld I 114 d) ∧ (ld I1 115 d = if A 103 k = 5 ∧ x ≤ 100 * year + d ∧ 100 * year + d ≤ A 106 k then 1 else ld I 115 d)) → h252_3 (d + 1) L I1 R S Q c year known (100 * year) at' (k + 1 : Nat) w) → h252_8 (d + 1) L I R S Q c year known (100 * year) at' k x := by
  obtain ⟨-, -, -, w4, w5⟩ := hW
  unfold WfN at w4
  have wk := w5 k hk
  have hk2 : (k : Int) < A 91 3 := by unfold nN at hk; omega
  intro n
  induction n with
  | zero =>
    intro x I hM hx hn hK
    have ih := hK I (.int (oI x)) (Fr.refl _ _ _) (fun d hd => ⟨by rw [if_neg (by omega)], by rw [if_neg (by omega)], by rw [if_neg (by omega)]⟩)
    obtain ⟨hx, hx2⟩ := hx
    refine e252_8 hM ?_
    simp only [Int.toNat_natCast]
    refine ⟨⟨by omega, by omega⟩, fun h => ?_, fun _ => ih⟩
    have wk := wk.span h
    refine ⟨⟨by omega, by omega⟩, hx2, ⟨by omega, by omega⟩, fun _ => ih, fun h => by exfalso; omega⟩
  | succ n ih =>
    intro x I hM hx hn hK
    obtain ⟨hx, hx2⟩ := hx
    by_cases h35 : 3 ≤ A 103 k ∧ A 103 k ≤ 5
    · have wk := wk.span h35
      refine e252_8 hM ?_
      simp only [Int.toNat_natCast]
      refine ⟨⟨by omega, by omega⟩, fun h => ?_, fun h => absurd h35 h⟩
      refine ⟨⟨by omega, by omega⟩, hx2, ⟨by omega, by omega⟩, fun h => by exfalso; omega, fun h => ?_⟩
      have hix : 0 ≤ x - 100 * year ∧ x - 100 * year < 100 := by omega
      have hi1 : inR (iOr (ld I 113 (x - 100 * year).toNat) (iShl 1 (A 107 k))) := inR_toInt _
      refine ⟨fun h3 => ⟨hix, fun h4 => by exfalso; omega, fun h4 => ⟨fun h5 => by exfalso; omega, fun h5 => ?_⟩⟩, fun h3 => ⟨fun h4 => ⟨hix, fun h5 => by exfalso; omega, fun h5 => ?_⟩, fun h4 => ⟨fun h5 => ⟨hix, ?_⟩, fun h5 => by exfalso; omega⟩⟩⟩
      · refine ih (x + 1) _ (hM.scr rfl) ⟨by omega, ⟨by omega, by omega⟩⟩ (by omega) fun I1 w hf hv => hK I1 w (((Fr.refl _ _ _).wr rfl).trans hf) fun d hd => ?_
        obtain ⟨v1, v2, v3⟩ := hv d hd
        rw [v1, v2, v3, ld_w hi1, ld_o (by decide), ld_o (by decide)]
        refine ⟨?_, by rw [if_neg (by omega), if_neg (by omega)], by rw [if_neg (by omega), if_neg (by omega)]⟩
        by_cases hd2 : d = (x - 100 * year).toNat
        · rw [if_neg (by omega), if_pos hd2, if_pos (by omega), hd2]
        · rw [if_neg hd2]
          by_cases hd3 : A 103 k = 3 ∧ x + 1 ≤ 100 * year + d ∧ 100 * year + d ≤ A 106 k
          · rw [if_pos hd3, if_pos (by omega)]
          · rw [if_neg hd3, if_neg (by omega)]
      · refine ih (x + 1) _ (hM.scr rfl) ⟨by omega, ⟨by omega, by omega⟩⟩ (by omega) fun I1 w hf hv => hK I1 w (((Fr.refl _ _ _).wr rfl).trans hf) fun d hd => ?_
        obtain ⟨v1, v2, v3⟩ := hv d hd
        rw [v1, v2, v3, ld_w (inRd rfl), ld_o (by decide), ld_o (by decide)]
        refine ⟨by rw [if_neg (by omega), if_neg (by omega)], ?_, by rw [if_neg (by omega), if_neg (by omega)]⟩
        by_cases hd2 : d = (x - 100 * year).toNat
        · rw [if_neg (by omega), if_pos hd2, if_pos (by omega)]
        · rw [if_neg hd2]
          by_cases hd3 : A 103 k = 4 ∧ x + 1 ≤ 100 * year + d ∧ 100 * year + d ≤ A 106 k
          · rw [if_pos hd3, if_pos (by omega)]
          · rw [if_neg hd3, if_neg (by omega)]
      · refine ih (x + 1) _ (hM.scr rfl) ⟨by omega, ⟨by omega, by omega⟩⟩ (by omega) fun I1 w hf hv => hK I1 w (((Fr.refl _ _ _).wr rfl).trans hf) fun d hd => ?_
        obtain ⟨v1, v2, v3⟩ := hv d hd
        rw [v1, v2, v3, ld_w (inRd rfl), ld_o (by decide), ld_o (by decide)]
        refine ⟨by rw [if_neg (by omega), if_neg (by omega)], by rw [if_neg (by omega), if_neg (by omega)], ?_⟩
        by_cases hd2 : d = (x - 100 * year).toNat
        · rw [if_neg (by omega), if_pos hd2, if_pos (by omega)]
        · rw [if_neg hd2]
          by_cases hd3 : A 103 k = 5 ∧ x + 1 ≤ 100 * year + d ∧ 100 * year + d ≤ A 106 k
          · rw [if_pos hd3, if_pos (by omega)]
          · rw [if_neg hd3, if_neg (by omega)]
    · have ih := hK I (.int (oI x)) (Fr.refl _ _ _) (fun d hd => ⟨by rw [if_neg (by omega)], by rw [if_neg (by omega)], by rw [if_neg (by omega)]⟩)
      refine e252_8 hM ?_
      simp only [Int.toNat_natCast]
      exact ⟨⟨by omega, by omega⟩, fun h => absurd h h35, fun _ => ih⟩
theorem l252_6 (hW : WfA A) (hy : 0 ≤ year ∧ year ≤ 7) {at' : Int} {k : Nat} (hk : k < nN A) (h2 : A 103 k = 2) : ∀ (n : Nat) (x : Int) (I : mI), RelM I A → max (A 105 k) (200 * year) ≤ x ∧ inR x → (min (A 106 k) (200 * year + 199) + 1 - x).toNat = n →
    (∀ I1, Fr [112] [] I I1 → (∀ h : Nat, h < 200 → ld I1 112 h = if x ≤ 200 * year + h ∧ 200 * year + h ≤ A 106 k then A 107 k else ld I 112 h) → h252_8 (d + 1) L I1 R S Q c year known (100 * year) at' k (max (A 105 k) (100 * year))) → h252_6 (d + 1) L I R S Q c year known (100 * year) at' k x := by
  obtain ⟨-, -, -, w4, w5⟩ := hW
  unfold WfN at w4
  have wk := (w5 k hk).mark h2
  have hk2 : (k : Int) < A 91 3 := by unfold nN at hk; omega
  intro n
  induction n with
  | zero =>
    intro x I hM hx hn hK
    obtain ⟨hx, hx2⟩ := hx
    have ih := hK I (Fr.refl _ _ _) (fun d hd => by rw [if_neg (by omega)])
    refine e252_6 hM ?_
    simp only [Int.toNat_natCast]
    refine ⟨⟨by omega, by omega⟩, ⟨by omega, by omega⟩, hx2, ⟨by omega, by omega⟩, fun _ => ⟨⟨by omega, by omega⟩, ih⟩, fun h => by exfalso; omega⟩
  | succ n ih =>
    intro x I hM hx hn hK
    obtain ⟨hx, hx2⟩ := hx
    refine e252_6 hM ?_
    simp only [Int.toNat_natCast]
    refine ⟨⟨by omega, by omega⟩, ⟨by omega, by omega⟩, hx2, ⟨by omega, by omega⟩, fun h => by exfalso; omega, fun h => ⟨⟨by omega, by omega⟩, ?_⟩⟩
    refine ih (x + 1) _ (hM.scr rfl) ⟨by omega, ⟨by omega, by omega⟩⟩ (by omega) fun I1 hf hv => hK I1 (((Fr.refl _ _ _).wr rfl).trans hf) fun d hd => ?_
    rw [hv d hd, ld_w (inA hM rfl)]
    by_cases hd2 : d = (x - 2 * (100 * year)).toNat
    · rw [if_neg (by omega), if_pos hd2, if_pos (by omega)]
    · rw [if_neg hd2]
      by_cases hd3 : x + 1 ≤ 200 * year + d ∧ 200 * year + d ≤ A 106 k
      · rw [if_pos hd3, if_pos (by omega)]
      · rw [if_neg hd3, if_neg (by omega)]
theorem l252_3 (hW : WfA A) (hy : 0 ≤ year ∧ year ≤ 7) (hc : inR c) (hkn : inR known) {at' : Int} (hat : at' = onS A c (100 * year - 1) known) (hK : ∀ I1, Fr [111, 112, 113, 114, 115] [] I0 I1 → Pnt A c year known I1 → Q none (bd L I1 R S)) : ∀ (n k : Nat) (I : mI) (w : Value), k + n = nN A → RelM I A → Fr [111, 112, 113, 114, 115] [] I0 I → PntK A c year known k I → h252_3 (d + 1) L I R S Q c year known (100 * year) at' k w := by
  have hW' := hW
  obtain ⟨w1, w2, w3, w4, w5⟩ := hW
  unfold WfN at w4
  have hN2 : (nN A : Int) = A 91 3 := by unfold nN; omega
  intro n
  induction n with
  | zero =>
    intro k I w hk hM hf hp
    refine e252_3 hM ⟨?_, fun h => ?_, fun h => ?_⟩
    · refine And.intro ?_ ?_ <;> omega
    · exfalso; omega
    · rw [show k = nN A by omega] at hp
      have h9 := l252_14 (d := d + 1) (L := L) (R := R) (S := S) (Q := Q) (I0 := I) (c := c) (known := known) hW' hy (fun I1 hf1 h1 => hK I1 (hf.trans (hf1.sub rfl rfl)) ⟨fun e he => ?_, fun e he => ?_⟩) 100 0 I (.int (oI c)) (.int (oI year)) (.int (oI known)) (.int (oI (100 * year))) w rfl hM (Fr.refl _ _ _) (fun j hj => by omega) (fun j _ hj => (hp.1 j hj).1)
      · rw [show (100 * year + ((0 : Nat) : Int) - 1) = 100 * year - 1 by omega, ← hat] at h9
        exact h9
      · obtain ⟨p1, p2, p3, p4⟩ := hp.1 e he
        exact ⟨h1 e he, (hf1.ld rfl).trans p2, (hf1.ld rfl).trans p3, (hf1.ld rfl).trans p4⟩
      · exact (hf1.ld rfl).trans (hp.2 e he)
  | succ n ih =>
    intro k I w hk hM hf hp
    have hk2 : k < nN A := by omega
    have wk := w5 k hk2
    refine e252_3 hM ?_
    simp only [Int.toNat_natCast]
    by_cases hcc : A 104 k = c ∧ ¬ A 103 k = 1 ∧ A 108 k ≤ known ∧ known < A 109 k
    · obtain ⟨c1, c2, c3, c4⟩ := hcc
      have kd := wk.kd
      -- the spans' loop, from any memory with what ahead of it was done
      have key : ∀ (I2 : mI), RelM I2 A → Fr [111, 112, 113, 114, 115] [] I I2 → (∀ d : Nat, d < 100 → ld I2 111 d = entL A c (100 * year + d) known (k + 1) ∧ ld I2 113 d = ld I 113 d ∧ ld I2 114 d = ld I 114 d ∧ ld I2 115 d = ld I 115 d) → (∀ h : Nat, h < 200 → ld I2 112 h = mkL' A c (200 * year + h) known (k + 1)) → h252_8 (d + 1) L I2 R S Q c year known (100 * year) at' k (max (A 105 k) (100 * year)) := by
        intro I2 hM2 hf2 h1 h2
        refine l252_8 hW' hy hk2 _ _ I2 hM2 ⟨Int.le_refl _, ?_⟩ rfl fun I1 w1 hf1 hv => ih (k + 1) I1 w1 (by omega) (hM2.fr hf1 rfl) (hf.trans (hf2.trans (hf1.sub rfl rfl))) ⟨fun e he => ?_, fun e he => ?_⟩
        · have := inA hM (a := 105) (k := k) rfl
          unfold inR at this ⊢
          omega
        · obtain ⟨p1, p2, p3, p4⟩ := hp.1 e he
          obtain ⟨q1, q2, q3, q4⟩ := h1 e he
          obtain ⟨r1, r2, r3⟩ := hv e he
          refine ⟨(hf1.ld rfl).trans q1, ?_, ?_, ?_⟩
          · rw [r1, q2, p2, kdL_succ]
            by_cases hz : A 103 k = 3 ∧ A 104 k = c ∧ (A 105 k ≤ 100 * year + e ∧ 100 * year + e ≤ A 106 k) ∧ A 108 k ≤ known ∧ known < A 109 k
            · rw [if_pos hz, if_pos (by omega)]
            · rw [if_neg hz, if_neg (by omega)]
          · rw [r2, q3, p3, spB_succ]
            by_cases hz : A 103 k = 4 ∧ A 104 k = c ∧ (A 105 k ≤ 100 * year + e ∧ 100 * year + e ≤ A 106 k) ∧ A 108 k ≤ known ∧ known < A 109 k
            · rw [decide_eq_true hz, if_pos (by omega), Bool.or_true]; rfl
            · rw [decide_eq_false hz, if_neg (by omega), Bool.or_false]
          · rw [r3, q4, p4, spB_succ]
            by_cases hz : A 103 k = 5 ∧ A 104 k = c ∧ (A 105 k ≤ 100 * year + e ∧ 100 * year + e ≤ A 106 k) ∧ A 108 k ≤ known ∧ known < A 109 k
            · rw [decide_eq_true hz, if_pos (by omega), Bool.or_true]; rfl
            · rw [decide_eq_false hz, if_neg (by omega), Bool.or_false]
        · exact (hf1.ld rfl).trans (h2 e he)
      have t0 : ¬ A 103 k = 0 → ∀ d : Nat, d < 100 → ld I 111 d = entL A c (100 * year + d) known (k + 1) := fun h0 e he => by
        rw [entL_succ, if_neg (by omega)]; exact (hp.1 e he).1
      have t2 : ¬ A 103 k = 2 → ∀ h : Nat, h < 200 → ld I 112 h = mkL' A c (200 * year + h) known (k + 1) := fun h0 e he => by
        rw [mkL_succ, if_neg (by omega)]; exact hp.2 e he
      have r1 : inR (2 * (100 * year)) := ⟨by omega, by omega⟩
      have r2 : inR (100 * year) := ⟨by omega, by omega⟩
      have r3 : inR year := ⟨by omega, by omega⟩
      have i2 : A 103 k = 2 → h252_6 (d + 1) L I R S Q c year known (100 * year) at' k (max (A 105 k) (2 * (100 * year))) := fun h2 => by
        rw [show 2 * (100 * year) = 200 * year by omega]
        refine l252_6 hW' hy hk2 h2 _ _ I hM ⟨Int.le_refl _, ?_⟩ rfl fun I1 hf1 hv => key I1 (hM.fr hf1 rfl) (hf1.sub rfl rfl) (fun e he => ⟨(hf1.ld rfl).trans (t0 (by omega) e he), hf1.ld rfl, hf1.ld rfl, hf1.ld rfl⟩) (fun e he => ?_)
        · have := inA hM (a := 105) (k := k) rfl
          unfold inR at this ⊢
          omega
        · rw [hv e he, hp.2 e he, mkL_succ]
          by_cases hz : A 103 k = 2 ∧ A 104 k = c ∧ (A 105 k ≤ 200 * year + e ∧ 200 * year + e ≤ A 106 k) ∧ A 108 k ≤ known ∧ known < A 109 k
          · rw [if_pos hz, if_pos (by omega)]
          · rw [if_neg hz, if_neg (by omega)]
      have i3 : ¬ A 103 k = 0 → ¬ A 103 k = 2 → h252_8 (d + 1) L I R S Q c year known (100 * year) at' k (max (A 105 k) (100 * year)) := fun h0 h2 => key I hM (Fr.refl _ _ _) (fun e he => ⟨t0 h0 e he, rfl, rfl, rfl⟩) (t2 h2)
      refine ⟨⟨by omega, by omega⟩, fun h => ⟨⟨by omega, by omega⟩, hc, fun _ => ⟨fun h1 => absurd h1 c2, fun _ => ⟨hkn, fun h3 => by exfalso; omega, fun _ => ⟨fun _ => ⟨fun h0 => ?_, fun h0 => ⟨fun h2 => ⟨r1, i2 h2⟩, fun h2 => ⟨r2, i3 h0 h2⟩⟩⟩, fun h3 => absurd c4 h3⟩⟩⟩, fun h3 => absurd c1 h3⟩, fun h => by exfalso; omega⟩
      have we := wk.entry h0
      have htd : (A 106 k).tdiv 100 = A 106 k / 100 := Int.tdiv_eq_ediv_of_nonneg (by omega)
      rw [htd]
      refine ⟨⟨by omega, by omega⟩, r3, fun hq => ⟨⟨by omega, by omega⟩, fun h2 => by exfalso; omega, fun _ => ⟨r2, ?_⟩⟩, fun hq => ⟨fun h2 => by exfalso; omega, fun _ => ⟨r2, ?_⟩⟩⟩
      · have hv : inR (-2 - (k : Int)) := ⟨by omega, by omega⟩
        refine key _ (hM.scr rfl) ((Fr.refl _ _ _).wr rfl) (fun e he => ⟨?_, ld_o (by decide), ld_o (by decide), ld_o (by decide)⟩) (fun e he => (ld_o (by decide)).trans (t2 (by omega) e he))
        rw [ld_w hv, entL_succ]
        by_cases he2 : e = (A 106 k - 100 * year).toNat
        · rw [if_pos he2, if_pos (by omega)]
        · rw [if_neg he2, if_neg (by omega)]; exact (hp.1 e he).1
      · refine key I hM (Fr.refl _ _ _) (fun e he => ⟨?_, rfl, rfl, rfl⟩) (t2 (by omega))
        rw [entL_succ, if_neg (by omega)]; exact (hp.1 e he).1
    · have ih := ih (k + 1) I w (by omega) hM hf ⟨fun e he => by
        obtain ⟨p1, p2, p3, p4⟩ := hp.1 e he
        refine ⟨?_, ?_, ?_, ?_⟩
        · rw [entL_succ, if_neg (by omega)]; exact p1
        · rw [kdL_succ, if_neg (by omega)]; exact p2
        · rw [spB_succ, decide_eq_false (by omega), Bool.or_false]; exact p3
        · rw [spB_succ, decide_eq_false (by omega), Bool.or_false]; exact p4, fun e he => by
        rw [mkL_succ, if_neg (by omega)]; exact hp.2 e he⟩
      refine ⟨⟨by omega, by omega⟩, fun h => ⟨⟨by omega, by omega⟩, hc, fun h1 => ⟨fun _ => ih, fun h2 => ⟨hkn, fun _ => ih, fun h3 => ⟨fun h4 => absurd ⟨h1, h2, by omega, h4⟩ hcc, fun _ => ih⟩⟩⟩, fun _ => ih⟩, fun h => by exfalso; omega⟩
theorem l252_1 (hW : WfA A) (hy : 0 ≤ year ∧ year ≤ 7) (hc : inR c) (hkn : inR known) {at' : Int} (hat : at' = onS A c (100 * year - 1) known) (hK : ∀ I1, Fr [111, 112, 113, 114, 115] [] I0 I1 → Pnt A c year known I1 → Q none (bd L I1 R S)) : ∀ (n k : Nat) (I : mI) (w : Value), k + n = 100 → RelM I A → Fr [111, 112, 113, 114, 115] [] I0 I → (∀ d : Nat, d < k → ld I 111 d = -1 ∧ ld I 113 d = 0 ∧ ld I 114 d = 0 ∧ ld I 115 d = 0 ∧ ld I 112 (2 * d) = 0 ∧ ld I 112 (2 * d + 1) = 0) → h252_1 (d + 1) L I R S Q c year known (100 * year) at' k w := by
  intro n
  induction n with
  | zero =>
    intro k I w hk hM hf hp
    refine e252_1 hM ⟨?_, fun h => ?_, fun h => ?_⟩
    · refine And.intro ?_ ?_ <;> omega
    · exfalso; omega
    · refine l252_3 hW hy hc hkn hat hK (nN A) 0 I w (by omega) hM hf ⟨fun e he => ?_, fun e he => ?_⟩
      · obtain ⟨p1, p2, p3, p4, -, -⟩ := hp e (by omega)
        exact ⟨p1, p2, p3, p4⟩
      · obtain ⟨-, -, -, -, p5, p6⟩ := hp (e / 2) (by omega)
        rcases Nat.mod_two_eq_zero_or_one e with h2 | h2
        · rw [show e = 2 * (e / 2) by omega]; exact p5
        · rw [show e = 2 * (e / 2) + 1 by omega]; exact p6
  | succ n ih =>
    intro k I w hk hM hf hp
    have e2 : (2 * (k : Int)).toNat = 2 * k := by omega
    have e3 : (2 * (k : Int) + 1).toNat = 2 * k + 1 := by omega
    refine e252_1 hM ?_
    simp only [Int.toNat_natCast, e2, e3]
    have ih := ih (k + 1) (u2 (u2 (u2 (u2 (u2 (u2 I 111 k (oI (-1))) 113 k (oI 0)) 114 k (oI 0)) 115 k (oI 0)) 112 (2 * k) (oI 0)) 112 (2 * k + 1) (oI 0)) w (by omega) ((((((hM.scr rfl).scr rfl).scr rfl).scr rfl).scr rfl).scr rfl) ((((((hf.wr rfl).wr rfl).wr rfl).wr rfl).wr rfl).wr rfl) (fun j hj => by
      by_cases hjk : j = k
      · subst hjk
        refine ⟨?_, ?_, ?_, ?_, ?_, ?_⟩
        · rw [ld_o (by decide), ld_o (by decide), ld_o (by decide), ld_o (by decide), ld_o (by decide), ld_w (inRd rfl), if_pos rfl]
        · rw [ld_o (by decide), ld_o (by decide), ld_o (by decide), ld_o (by decide), ld_w (inRd rfl), if_pos rfl]
        · rw [ld_o (by decide), ld_o (by decide), ld_o (by decide), ld_w (inRd rfl), if_pos rfl]
        · rw [ld_o (by decide), ld_o (by decide), ld_w (inRd rfl), if_pos rfl]
        · rw [ld_w (inRd rfl), if_neg (by omega), ld_w (inRd rfl), if_pos rfl]
        · rw [ld_w (inRd rfl), if_pos rfl]
      · obtain ⟨p1, p2, p3, p4, p5, p6⟩ := hp j (by omega)
        refine ⟨?_, ?_, ?_, ?_, ?_, ?_⟩
        · rw [ld_o (by decide), ld_o (by decide), ld_o (by decide), ld_o (by decide), ld_o (by decide), ld_w (inRd rfl), if_neg hjk, p1]
        · rw [ld_o (by decide), ld_o (by decide), ld_o (by decide), ld_o (by decide), ld_w (inRd rfl), if_neg hjk, ld_o (by decide), p2]
        · rw [ld_o (by decide), ld_o (by decide), ld_o (by decide), ld_w (inRd rfl), if_neg hjk, ld_o (by decide), ld_o (by decide), p3]
        · rw [ld_o (by decide), ld_o (by decide), ld_w (inRd rfl), if_neg hjk, ld_o (by decide), ld_o (by decide), ld_o (by decide), p4]
        · rw [ld_w (inRd rfl), if_neg (by omega), ld_w (inRd rfl), if_neg (by omega), ld_o (by decide), ld_o (by decide), ld_o (by decide), ld_o (by decide), p5]
        · rw [ld_w (inRd rfl), if_neg (by omega), ld_w (inRd rfl), if_neg (by omega), ld_o (by decide), ld_o (by decide), ld_o (by decide), ld_o (by decide), p6])
    repeat' first | exact ih | with_reducible assumption | refine And.intro ?_ ?_ | intro _ | omega | exact absurd trivial ‹¬ True› | (exfalso; omega)
theorem k252 {K : mM → Prop} (hM : RelM I A) (hW : WfA A) (hy : 0 ≤ year ∧ year ≤ 7) (hc : inR c) (hkn : inR known) (hK : ∀ I1, Fr [111, 112, 113, 114, 115] [] I I1 → Pnt A c year known I1 → K (bd L I1 R S)) : CallV (d + 2) 252 [.ref 91, .int (oI c), .int (oI year), .int (oI known)] (bd L I R S) K :=
  e252 hM ⟨hW.2.2.2.1, hc, ⟨by omega, by omega⟩, hkn, l252_1 hW hy hc hkn rfl (fun I1 h1 h2 => rqV_of (hK I1 h1 h2)) 100 0 I mUn rfl hM (Fr.refl _ _ _) (fun j hj => by omega)⟩
end
