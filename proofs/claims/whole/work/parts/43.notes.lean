/-! leaves: tests, max, min -/
def bI (b : Bool) : Int := cond b 1 0
theorem bI_01 (b : Bool) : bI b = 0 ∨ bI b = 1 := by cases b <;> simp [bI]
theorem bI_in (b : Bool) : inR (bI b) := by cases b <;> exact inRd rfl
set_option maxRecDepth 4000 in
theorem e210 {d L : Nat} {I : Nat → Nat → Int32} {R : Nat → Nat → Option Nat} {S : List (Nat × Nat)} {K : Int32 → mM → Prop}  {x0 : Int} {x1 : Int} {x2 : Int} (hE : inR x0 ∧ (inR x1 ∧ (((x0 < x1) → K (oI 0) (bd L I R S)) ∧ (¬ (x0 < x1) → inR x2 ∧ (((x2 < x0) → K (oI 0) (bd L I R S)) ∧ (¬ (x2 < x0) → K (oI 1) (bd L I R S))))))) : CallI d 210 [.int (oI x0), .int (oI x1), .int (oI x2)] (bd L I R S) K := by
  refine cI_of (ls := [.int (oI x0), .int (oI x1), .int (oI x2)]) rfl ?_
  refine xG gb210.1 ?_
  refine s4 (x := x0) rfl ?_
  refine s4 (x := x1) rfl ?_
  obtain ⟨g1, hE⟩ := hE
  obtain ⟨g2, hE⟩ := hE
  refine s63 g1 g2 (fun c3 => ?_) (fun c3 => ?_)
  · replace hE := hE.1 c3
    refine xG gb210.2.1 ?_
    refine s0 ?_
    refine s79 ?_
    refine xG gb210.2.2 ?_
    refine s84 (by decide) ?_
    exact rqI_of hE
  · replace hE := hE.2 c3
    refine s4 (x := x0) rfl ?_
    refine s4 (x := x2) rfl ?_
    obtain ⟨g4, hE⟩ := hE
    refine s65 g1 g4 (fun c5 => ?_) (fun c5 => ?_)
    · replace hE := hE.1 c5
      refine xG gb210.2.1 ?_
      refine s0 ?_
      refine s79 ?_
      refine xG gb210.2.2 ?_
      refine s84 (by decide) ?_
      exact rqI_of hE
    · replace hE := hE.2 c5
      refine s0 ?_
      refine s60 ?_
      refine xG gb210.2.2 ?_
      refine s84 (by decide) ?_
      exact rqI_of hE
set_option maxRecDepth 4000 in
theorem e3 {d L : Nat} {I : Nat → Nat → Int32} {R : Nat → Nat → Option Nat} {S : List (Nat × Nat)} {K : Int32 → mM → Prop}  {x0 : Int} {x1 : Int} {x2 : Int} (hE : inR x0 ∧ (inR x1 ∧ (((x0 < x1) → K (oI 0) (bd L I R S)) ∧ (¬ (x0 < x1) → inR x2 ∧ (((x2 < x0) → K (oI 0) (bd L I R S)) ∧ (¬ (x2 < x0) → K (oI 1) (bd L I R S))))))) : CallI d 3 [.int (oI x0), .int (oI x1), .int (oI x2)] (bd L I R S) K := by
  refine cI_of (ls := [.int (oI x0), .int (oI x1), .int (oI x2)]) rfl ?_
  refine xG gb3.1 ?_
  refine s4 (x := x0) rfl ?_
  refine s4 (x := x1) rfl ?_
  obtain ⟨g1, hE⟩ := hE
  obtain ⟨g2, hE⟩ := hE
  refine s63 g1 g2 (fun c3 => ?_) (fun c3 => ?_)
  · replace hE := hE.1 c3
    refine xG gb3.2.1 ?_
    refine s0 ?_
    refine s79 ?_
    refine xG gb3.2.2 ?_
    refine s84 (by decide) ?_
    exact rqI_of hE
  · replace hE := hE.2 c3
    refine s4 (x := x0) rfl ?_
    refine s4 (x := x2) rfl ?_
    obtain ⟨g4, hE⟩ := hE
    refine s65 g1 g4 (fun c5 => ?_) (fun c5 => ?_)
    · replace hE := hE.1 c5
      refine xG gb3.2.1 ?_
      refine s0 ?_
      refine s79 ?_
      refine xG gb3.2.2 ?_
      refine s84 (by decide) ?_
      exact rqI_of hE
    · replace hE := hE.2 c5
      refine s0 ?_
      refine s60 ?_
      refine xG gb3.2.2 ?_
      refine s84 (by decide) ?_
      exact rqI_of hE
set_option maxRecDepth 4000 in
theorem e227 {d L : Nat} {I : Nat → Nat → Int32} {R : Nat → Nat → Option Nat} {S : List (Nat × Nat)} {K : Int32 → mM → Prop}  {x0 : Int} (hE : inR x0 ∧ (((x0 = 0) → K (oI 0) (bd L I R S)) ∧ (¬ (x0 = 0) → K (oI 1) (bd L I R S)))) : CallI d 227 [.int (oI x0)] (bd L I R S) K := by
  refine cI_of (ls := [.int (oI x0)]) rfl ?_
  refine xG gb227.1 ?_
  refine s4 (x := x0) rfl ?_
  obtain ⟨g1, hE⟩ := hE
  refine s67 g1 (fun c2 => ?_) (fun c2 => ?_)
  · replace hE := hE.1 c2
    refine xG gb227.2.1 ?_
    refine s0 ?_
    refine s79 ?_
    refine xG gb227.2.2 ?_
    refine s80 ?_
    exact rqI_of hE
  · replace hE := hE.2 c2
    refine s0 ?_
    refine s60 ?_
    refine xG gb227.2.2 ?_
    refine s80 ?_
    exact rqI_of hE
set_option maxRecDepth 4000 in
theorem e345 {d L : Nat} {I : Nat → Nat → Int32} {R : Nat → Nat → Option Nat} {S : List (Nat × Nat)} {K : Int32 → mM → Prop}  {x0 : Int} {x1 : Int} (hE : inR x0 ∧ (inR x1 ∧ (((x1 < x0) → K (oI x1) (bd L I R S)) ∧ (¬ (x1 < x0) → K (oI x0) (bd L I R S))))) : CallI d 345 [.int (oI x0), .int (oI x1)] (bd L I R S) K := by
  refine cI_of (ls := [.int (oI x0), .int (oI x1)]) rfl ?_
  refine xG gb345.1 ?_
  refine s4 (x := x0) rfl ?_
  refine s4 (x := x1) rfl ?_
  obtain ⟨g1, hE⟩ := hE
  obtain ⟨g2, hE⟩ := hE
  refine s65 g1 g2 (fun c3 => ?_) (fun c3 => ?_)
  · replace hE := hE.1 c3
    refine xG gb345.2.1 ?_
    refine s4 (x := x1) rfl ?_
    refine s79 ?_
    refine xG gb345.2.2 ?_
    refine s80 ?_
    exact rqI_of hE
  · replace hE := hE.2 c3
    refine s4 (x := x0) rfl ?_
    refine s60 ?_
    refine xG gb345.2.2 ?_
    refine s80 ?_
    exact rqI_of hE
set_option maxRecDepth 4000 in
theorem e346 {d L : Nat} {I : Nat → Nat → Int32} {R : Nat → Nat → Option Nat} {S : List (Nat × Nat)} {K : Int32 → mM → Prop}  {x0 : Int} {x1 : Int} (hE : inR x0 ∧ (inR x1 ∧ (((x0 < x1) → K (oI x1) (bd L I R S)) ∧ (¬ (x0 < x1) → K (oI x0) (bd L I R S))))) : CallI d 346 [.int (oI x0), .int (oI x1)] (bd L I R S) K := by
  refine cI_of (ls := [.int (oI x0), .int (oI x1)]) rfl ?_
  refine xG gb346.1 ?_
  refine s4 (x := x0) rfl ?_
  refine s4 (x := x1) rfl ?_
  obtain ⟨g1, hE⟩ := hE
  obtain ⟨g2, hE⟩ := hE
  refine s63 g1 g2 (fun c3 => ?_) (fun c3 => ?_)
  · replace hE := hE.1 c3
    refine xG gb346.2.1 ?_
    refine s4 (x := x1) rfl ?_
    refine s79 ?_
    refine xG gb346.2.2 ?_
    refine s80 ?_
    exact rqI_of hE
  · replace hE := hE.2 c3
    refine s4 (x := x0) rfl ?_
    refine s60 ?_
    refine xG gb346.2.2 ?_
    refine s80 ?_
    exact rqI_of hE
set_option maxRecDepth 4000 in
theorem e347 {d L : Nat} {I : Nat → Nat → Int32} {R : Nat → Nat → Option Nat} {S : List (Nat × Nat)} {K : Int32 → mM → Prop}  {x0 : Int} (hE : inR x0 ∧ (((x0 < 0) → K (oI (-x0)) (bd L I R S)) ∧ (¬ (x0 < 0) → K (oI x0) (bd L I R S)))) : CallI d 347 [.int (oI x0)] (bd L I R S) K := by
  refine cI_of (ls := [.int (oI x0)]) rfl ?_
  refine xG gb347.1 ?_
  refine s4 (x := x0) rfl ?_
  obtain ⟨g1, hE⟩ := hE
  refine s70 g1 (fun c2 => ?_) (fun c2 => ?_)
  · replace hE := hE.1 c2
    refine s4 (x := x0) rfl ?_
    refine s21 ?_
    refine s60 ?_
    refine xG gb347.2.2 ?_
    refine s80 ?_
    exact rqI_of hE
  · replace hE := hE.2 c2
    refine xG gb347.2.1 ?_
    refine s4 (x := x0) rfl ?_
    refine s79 ?_
    refine xG gb347.2.2 ?_
    refine s80 ?_
    exact rqI_of hE
section
variable {d L : Nat} {I : mI} {R : Nat → Nat → Option Nat} {S : List (Nat × Nat)} {K : Int32 → mM → Prop} {x y z : Int}
theorem k210 (hx : inR x) (hy : inR y) (hz : inR z) (h1 : (y ≤ x ∧ x ≤ z) → K (oI 1) (bd L I R S)) (h0 : ¬ (y ≤ x ∧ x ≤ z) → K (oI 0) (bd L I R S)) : CallI d 210 [.int (oI x), .int (oI y), .int (oI z)] (bd L I R S) K :=
  e210 ⟨hx, hy, fun h => h0 (by omega), fun h => ⟨hz, fun h2 => h0 (by omega), fun h2 => h1 (by omega)⟩⟩
theorem k3 (hx : inR x) (hy : inR y) (hz : inR z) (h1 : (y ≤ x ∧ x ≤ z) → K (oI 1) (bd L I R S)) (h0 : ¬ (y ≤ x ∧ x ≤ z) → K (oI 0) (bd L I R S)) : CallI d 3 [.int (oI x), .int (oI y), .int (oI z)] (bd L I R S) K :=
  e3 ⟨hx, hy, fun h => h0 (by omega), fun h => ⟨hz, fun h2 => h0 (by omega), fun h2 => h1 (by omega)⟩⟩
theorem k345 (hx : inR x) (hy : inR y) (hK : K (oI (min x y)) (bd L I R S)) : CallI d 345 [.int (oI x), .int (oI y)] (bd L I R S) K := by
  refine e345 ⟨hx, hy, fun h => ?_, fun h => ?_⟩
  · rwa [show min x y = y by omega] at hK
  · rwa [show min x y = x by omega] at hK
theorem k346 (hx : inR x) (hy : inR y) (hK : K (oI (max x y)) (bd L I R S)) : CallI d 346 [.int (oI x), .int (oI y)] (bd L I R S) K := by
  refine e346 ⟨hx, hy, fun h => ?_, fun h => ?_⟩
  · rwa [show max x y = y by omega] at hK
  · rwa [show max x y = x by omega] at hK
theorem k227 (hx : x = 0 ∨ x = 1) (hK : K (oI x) (bd L I R S)) : CallI d 227 [.int (oI x)] (bd L I R S) K := by
  refine e227 ⟨by rcases hx with rfl | rfl <;> exact inRd rfl, fun h => ?_, fun h => ?_⟩
  · rw [h] at hK; exact hK
  · rw [show x = 1 by omega] at hK; exact hK
def ab (x : Int) : Int := max x (-x)
theorem k347 (hx : inR x) (hK : K (oI (ab x)) (bd L I R S)) : CallI d 347 [.int (oI x)] (bd L I R S) K := by
  refine e347 ⟨hx, fun h => ?_, fun h => ?_⟩
  · rwa [show ab x = -x by unfold ab; omega] at hK
  · rwa [show ab x = x by unfold ab; omega] at hK
end
/-! the reference: what it looks up in its notes -/
def onL (A : aS) (c day known : Int) : Nat → Int × Int
  | 0 => (-1, -1)
  | k + 1 => if A 103 k = 0 ∧ A 104 k = c ∧ A 106 k ≤ day ∧ (onL A c day known k).2 ≤ A 106 k ∧ A 108 k ≤ known ∧ known < A 109 k then (A 105 k, A 106 k) else onL A c day known k
def nN (A : aS) : Nat := (A 91 3).toNat
def onS (A : aS) (c day known : Int) : Int := (onL A c day known (nN A)).1
def WfN (A : aS) : Prop := 0 ≤ A 91 3 ∧ A 91 3 ≤ 850
def spB (A : aS) (kind c day known : Int) : Nat → Bool
  | 0 => false
  | k + 1 => spB A kind c day known k || decide (A 103 k = kind ∧ A 104 k = c ∧ (A 105 k ≤ day ∧ day ≤ A 106 k) ∧ A 108 k ≤ known ∧ known < A 109 k)
def spS (A : aS) (kind c day known : Int) : Bool := spB A kind c day known (nN A)
def mkL' (A : aS) (c half known : Int) : Nat → Int
  | 0 => 0
  | k + 1 => if A 103 k = 2 ∧ A 104 k = c ∧ (A 105 k ≤ half ∧ half ≤ A 106 k) ∧ A 108 k ≤ known ∧ known < A 109 k then A 107 k else mkL' A c half known k
def mkS (A : aS) (c half known : Int) : Int := mkL' A c half known (nN A)
def rsL (A : aS) (c year subj known : Int) : Nat → Int
  | 0 => -1
  | k + 1 => if A 103 k = 6 ∧ A 104 k = c ∧ A 105 k = year ∧ A 106 k = subj ∧ A 108 k ≤ known ∧ known < A 109 k then A 107 k else rsL A c year subj known k
def rsS (A : aS) (c year subj known : Int) : Int := rsL A c year subj known (nN A)
def h225_1 (d L : Nat) (I : Nat → Nat → Int32) (R : Nat → Nat → Option Nat) (S : List (Nat × Nat)) (Q : Option Value → mM → Prop) (x1 : Int) (x2 : Int) (x3 : Int) (x4 : Int) (x5 : Int) (x6 : Int) : Prop := Wp d (gb 225 1) [.ref 91, .int (oI x1), .int (oI x2), .int (oI x3), .int (oI x4), .int (oI x5), .int (oI x6)] [] (bd L I R S) Q
set_option maxRecDepth 4000 in
theorem e225_1 {d L : Nat} {I : Nat → Nat → Int32} {R : Nat → Nat → Option Nat} {S : List (Nat × Nat)} {Q : Option Value → mM → Prop} {A : aS} (hM : RelM I A) {x1 : Int} {x2 : Int} {x3 : Int} {x4 : Int} {x5 : Int} {x6 : Int} (hE : inR x6 ∧ (((x6 < A 91 3) → (0 ≤ x6 ∧ x6 < 850) ∧ (((A 103 x6.toNat = 0) → inR x1 ∧ (((A 104 x6.toNat = x1) → inR x2 ∧ (((x2 < A 106 x6.toNat) → h225_1 (d + 1) L I R S Q x1 x2 x3 x4 x5 (x6 + 1)) ∧ (¬ (x2 < A 106 x6.toNat) → inR x5 ∧ (((A 106 x6.toNat < x5) → h225_1 (d + 1) L I R S Q x1 x2 x3 x4 x5 (x6 + 1)) ∧ (¬ (A 106 x6.toNat < x5) → inR x3 ∧ (((x3 < A 108 x6.toNat) → h225_1 (d + 1) L I R S Q x1 x2 x3 x4 x5 (x6 + 1)) ∧ (¬ (x3 < A 108 x6.toNat) → ((x3 < A 109 x6.toNat) → h225_1 (d + 1) L I R S Q x1 x2 x3 (A 105 x6.toNat) (A 106 x6.toNat) (x6 + 1)) ∧ (¬ (x3 < A 109 x6.toNat) → h225_1 (d + 1) L I R S Q x1 x2 x3 x4 x5 (x6 + 1))))))))) ∧ (¬ (A 104 x6.toNat = x1) → h225_1 (d + 1) L I R S Q x1 x2 x3 x4 x5 (x6 + 1)))) ∧ (¬ (A 103 x6.toNat = 0) → h225_1 (d + 1) L I R S Q x1 x2 x3 x4 x5 (x6 + 1)))) ∧ (¬ (x6 < A 91 3) → Q (some (.int (oI x4))) (bd L I R S)))) : h225_1 (d + 1) L I R S Q x1 x2 x3 x4 x5 x6 := by
  unfold h225_1
  refine xG gb225.2.1 ?_
  refine s4 (x := x6) rfl ?_
  refine s6 (p := 91) rfl ?_
  refine s50 (v := A 91 3) sh91 (by decide) (by decide) (rdM hM rfl) ?_
  obtain ⟨g1, hE⟩ := hE
  refine s64 g1 (inA hM (a := 91) (k := 3) rfl) (fun c2 => ?_) (fun c2 => ?_)
  · replace hE := hE.1 c2
    refine s6 (p := 91) rfl ?_
    refine s51 sh91 (by decide) (by decide) rf91_16 ?_
    refine s4 (x := x6) rfl ?_
    obtain ⟨g3, hE⟩ := hE
    refine s40 (v := A 103 x6.toNat) sh103 g3 rfl (rdM hM rfl) ?_
    refine s68 (inA hM (a := 103) (k := x6.toNat) rfl) (fun c4 => ?_) (fun c4 => ?_)
    · replace hE := hE.1 c4
      refine s6 (p := 91) rfl ?_
      refine s51 sh91 (by decide) (by decide) rf91_17 ?_
      refine s4 (x := x6) rfl ?_
      refine s40 (v := A 104 x6.toNat) sh104 g3 rfl (rdM hM rfl) ?_
      refine s4 (x := x1) rfl ?_
      obtain ⟨g5, hE⟩ := hE
      refine s62 (inA hM (a := 104) (k := x6.toNat) rfl) g5 (fun c6 => ?_) (fun c6 => ?_)
      · replace hE := hE.1 c6
        refine s6 (p := 91) rfl ?_
        refine s51 sh91 (by decide) (by decide) rf91_19 ?_
        refine s4 (x := x6) rfl ?_
        refine s40 (v := A 106 x6.toNat) sh106 g3 rfl (rdM hM rfl) ?_
        refine s4 (x := x2) rfl ?_
        obtain ⟨g7, hE⟩ := hE
        refine s65 (inA hM (a := 106) (k := x6.toNat) rfl) g7 (fun c8 => ?_) (fun c8 => ?_)
        · replace hE := hE.1 c8
          refine xG gb225.2.2.2.1 ?_
          refine s10 (x := x6) (ls' := [.ref 91, .int (oI x1), .int (oI x2), .int (oI x3), .int (oI x4), .int (oI x5), .int (oI (x6 + 1))]) rfl rfl ?_
          refine s60 ?_
          exact hE
        · replace hE := hE.2 c8
          refine s6 (p := 91) rfl ?_
          refine s51 sh91 (by decide) (by decide) rf91_19 ?_
          refine s4 (x := x6) rfl ?_
          refine s40 (v := A 106 x6.toNat) sh106 g3 rfl (rdM hM rfl) ?_
          refine s4 (x := x5) rfl ?_
          obtain ⟨g9, hE⟩ := hE
          refine s63 (inA hM (a := 106) (k := x6.toNat) rfl) g9 (fun c10 => ?_) (fun c10 => ?_)
          · replace hE := hE.1 c10
            refine xG gb225.2.2.2.1 ?_
            refine s10 (x := x6) (ls' := [.ref 91, .int (oI x1), .int (oI x2), .int (oI x3), .int (oI x4), .int (oI x5), .int (oI (x6 + 1))]) rfl rfl ?_
            refine s60 ?_
            exact hE
          · replace hE := hE.2 c10
            refine s6 (p := 91) rfl ?_
            refine s4 (x := x6) rfl ?_
            refine s4 (x := x3) rfl ?_
            refine sI rc226 rfl (Nat.le_of_ble_eq_true rfl) ?_
            refine cI_of (ls := [.ref 91, .int (oI x6), .int (oI x3)]) rfl ?_
            refine xG gb226.1 ?_
            refine s6 (p := 91) rfl ?_
            refine s51 sh91 (by decide) (by decide) rf91_21 ?_
            refine s4 (x := x6) rfl ?_
            refine s40 (v := A 108 x6.toNat) sh108 g3 rfl (rdM hM rfl) ?_
            refine s4 (x := x3) rfl ?_
            obtain ⟨g11, hE⟩ := hE
            refine s65 (inA hM (a := 108) (k := x6.toNat) rfl) g11 (fun c12 => ?_) (fun c12 => ?_)
            · replace hE := hE.1 c12
              refine xG gb226.2.1 ?_
              refine s0 ?_
              refine s79 ?_
              refine xG gb226.2.2 ?_
              refine s84 (by decide) ?_
              refine rqI_of ?_
              refine s68 (inRd rfl) (fun _ => ?_) (fun c13 => absurd (by decide) c13)
              refine s60 ?_
              refine xG gb225.2.2.2.1 ?_
              refine s10 (x := x6) (ls' := [.ref 91, .int (oI x1), .int (oI x2), .int (oI x3), .int (oI x4), .int (oI x5), .int (oI (x6 + 1))]) rfl rfl ?_
              refine s60 ?_
              exact hE
            · replace hE := hE.2 c12
              refine s6 (p := 91) rfl ?_
              refine s51 sh91 (by decide) (by decide) rf91_22 ?_
              refine s4 (x := x6) rfl ?_
              refine s40 (v := A 109 x6.toNat) sh109 g3 rfl (rdM hM rfl) ?_
              refine s4 (x := x3) rfl ?_
              refine s66 (inA hM (a := 109) (k := x6.toNat) rfl) g11 (fun c14 => ?_) (fun c14 => ?_)
              · replace hE := hE.1 c14
                refine s0 ?_
                refine s60 ?_
                refine xG gb226.2.2 ?_
                refine s84 (by decide) ?_
                refine rqI_of ?_
                refine s68 (inRd rfl) (fun c15 => absurd c15 (by decide)) (fun _ => ?_)
                refine xG gb225.2.2.1 ?_
                refine s6 (p := 91) rfl ?_
                refine s51 sh91 (by decide) (by decide) rf91_18 ?_
                refine s4 (x := x6) rfl ?_
                refine s40 (v := A 105 x6.toNat) sh105 g3 rfl (rdM hM rfl) ?_
                refine s7 (ls' := [.ref 91, .int (oI x1), .int (oI x2), .int (oI x3), .int (oI (A 105 x6.toNat)), .int (oI x5), .int (oI x6)]) (Nat.le_of_ble_eq_true rfl) rfl ?_
                refine s6 (p := 91) rfl ?_
                refine s51 sh91 (by decide) (by decide) rf91_19 ?_
                refine s4 (x := x6) rfl ?_
                refine s40 (v := A 106 x6.toNat) sh106 g3 rfl (rdM hM rfl) ?_
                refine s7 (ls' := [.ref 91, .int (oI x1), .int (oI x2), .int (oI x3), .int (oI (A 105 x6.toNat)), .int (oI (A 106 x6.toNat)), .int (oI x6)]) (Nat.le_of_ble_eq_true rfl) rfl ?_
                refine s79 ?_
                refine xG gb225.2.2.2.1 ?_
                refine s10 (x := x6) (ls' := [.ref 91, .int (oI x1), .int (oI x2), .int (oI x3), .int (oI (A 105 x6.toNat)), .int (oI (A 106 x6.toNat)), .int (oI (x6 + 1))]) rfl rfl ?_
                refine s60 ?_
                exact hE
              · replace hE := hE.2 c14
                refine xG gb226.2.1 ?_
                refine s0 ?_
                refine s79 ?_
                refine xG gb226.2.2 ?_
                refine s84 (by decide) ?_
                refine rqI_of ?_
                refine s68 (inRd rfl) (fun _ => ?_) (fun c16 => absurd (by decide) c16)
                refine s60 ?_
                refine xG gb225.2.2.2.1 ?_
                refine s10 (x := x6) (ls' := [.ref 91, .int (oI x1), .int (oI x2), .int (oI x3), .int (oI x4), .int (oI x5), .int (oI (x6 + 1))]) rfl rfl ?_
                refine s60 ?_
                exact hE
      · replace hE := hE.2 c6
        refine xG gb225.2.2.2.1 ?_
        refine s10 (x := x6) (ls' := [.ref 91, .int (oI x1), .int (oI x2), .int (oI x3), .int (oI x4), .int (oI x5), .int (oI (x6 + 1))]) rfl rfl ?_
        refine s60 ?_
        exact hE
    · replace hE := hE.2 c4
      refine xG gb225.2.2.2.1 ?_
      refine s10 (x := x6) (ls' := [.ref 91, .int (oI x1), .int (oI x2), .int (oI x3), .int (oI x4), .int (oI x5), .int (oI (x6 + 1))]) rfl rfl ?_
      refine s60 ?_
      exact hE
  · replace hE := hE.2 c2
    refine xG gb225.2.2.2.2 ?_
    refine s4 (x := x4) rfl ?_
    refine s80 ?_
    exact hE
set_option maxRecDepth 4000 in
theorem e225 {d L : Nat} {I : Nat → Nat → Int32} {R : Nat → Nat → Option Nat} {S : List (Nat × Nat)} {K : Int32 → mM → Prop} {A : aS} (hM : RelM I A) {x1 : Int} {x2 : Int} {x3 : Int} (hE : h225_1 d L I R S (rqI K) x1 x2 x3 (-1) (-1) 0) : CallI d 225 [.ref 91, .int (oI x1), .int (oI x2), .int (oI x3)] (bd L I R S) K := by
  refine cI_of (ls := [.ref 91, .int (oI x1), .int (oI x2), .int (oI x3), mUn, mUn, mUn]) rfl ?_
  refine xG gb225.1 ?_
  refine s0 ?_
  refine s7 (ls' := [.ref 91, .int (oI x1), .int (oI x2), .int (oI x3), .int (oI (-1)), mUn, mUn]) (Nat.le_of_ble_eq_true rfl) rfl ?_
  refine s0 ?_
  refine s7 (ls' := [.ref 91, .int (oI x1), .int (oI x2), .int (oI x3), .int (oI (-1)), .int (oI (-1)), mUn]) (Nat.le_of_ble_eq_true rfl) rfl ?_
  refine s0 ?_
  refine s7 (ls' := [.ref 91, .int (oI x1), .int (oI x2), .int (oI x3), .int (oI (-1)), .int (oI (-1)), .int (oI 0)]) (Nat.le_of_ble_eq_true rfl) rfl ?_
  refine s79 ?_
  exact hE
def h268_1 (d L : Nat) (I : Nat → Nat → Int32) (R : Nat → Nat → Option Nat) (S : List (Nat × Nat)) (Q : Option Value → mM → Prop) (x1 : Int) (x2 : Int) (x3 : Int) (x4 : Int) (x5 : Int) : Prop := Wp d (gb 268 1) [.ref 91, .int (oI x1), .int (oI x2), .int (oI x3), .int (oI x4), .int (oI x5)] [] (bd L I R S) Q
set_option maxRecDepth 4000 in
theorem e268_1 {d L : Nat} {I : Nat → Nat → Int32} {R : Nat → Nat → Option Nat} {S : List (Nat × Nat)} {Q : Option Value → mM → Prop} {A : aS} (hM : RelM I A) {x1 : Int} {x2 : Int} {x3 : Int} {x4 : Int} {x5 : Int} (hE : inR x5 ∧ (((x5 < A 91 3) → inR x4 ∧ (((x4 = 0) → (0 ≤ x5 ∧ x5 < 850) ∧ (((A 103 x5.toNat = 1) → inR x1 ∧ (((A 104 x5.toNat = x1) → inR x2 ∧ (((A 105 x5.toNat ≤ x2 ∧ x2 ≤ A 106 x5.toNat) → inR x3 ∧ (((x3 < A 108 x5.toNat) → h268_1 (d + 1) L I R S Q x1 x2 x3 0 (x5 + 1)) ∧ (¬ (x3 < A 108 x5.toNat) → ((x3 < A 109 x5.toNat) → h268_1 (d + 1) L I R S Q x1 x2 x3 1 (x5 + 1)) ∧ (¬ (x3 < A 109 x5.toNat) → h268_1 (d + 1) L I R S Q x1 x2 x3 0 (x5 + 1))))) ∧ (¬ (A 105 x5.toNat ≤ x2 ∧ x2 ≤ A 106 x5.toNat) → h268_1 (d + 1) L I R S Q x1 x2 x3 0 (x5 + 1)))) ∧ (¬ (A 104 x5.toNat = x1) → h268_1 (d + 1) L I R S Q x1 x2 x3 0 (x5 + 1)))) ∧ (¬ (A 103 x5.toNat = 1) → h268_1 (d + 1) L I R S Q x1 x2 x3 0 (x5 + 1)))) ∧ (¬ (x4 = 0) → h268_1 (d + 1) L I R S Q x1 x2 x3 1 (x5 + 1)))) ∧ (¬ (x5 < A 91 3) → (x4 = 0 ∨ x4 = 1) ∧ (Q (some (.int (oI x4))) (bd L I R S))))) : h268_1 (d + 1) L I R S Q x1 x2 x3 x4 x5 := by
  unfold h268_1
  refine xG gb268.2.1 ?_
  refine s4 (x := x5) rfl ?_
  refine s6 (p := 91) rfl ?_
  refine s50 (v := A 91 3) sh91 (by decide) (by decide) (rdM hM rfl) ?_
  obtain ⟨g1, hE⟩ := hE
  refine s64 g1 (inA hM (a := 91) (k := 3) rfl) (fun c2 => ?_) (fun c2 => ?_)
  · replace hE := hE.1 c2
    refine s4 (x := x4) rfl ?_
    obtain ⟨g3, hE⟩ := hE
    refine s68 g3 (fun c4 => ?_) (fun c4 => ?_)
    · replace hE := hE.1 c4
      refine s6 (p := 91) rfl ?_
      refine s51 sh91 (by decide) (by decide) rf91_16 ?_
      refine s4 (x := x5) rfl ?_
      obtain ⟨g5, hE⟩ := hE
      refine s40 (v := A 103 x5.toNat) sh103 g5 rfl (rdM hM rfl) ?_
      refine s0 ?_
      refine s62 (inA hM (a := 103) (k := x5.toNat) rfl) (inRd rfl) (fun c6 => ?_) (fun c6 => ?_)
      · replace hE := hE.1 c6
        refine s6 (p := 91) rfl ?_
        refine s51 sh91 (by decide) (by decide) rf91_17 ?_
        refine s4 (x := x5) rfl ?_
        refine s40 (v := A 104 x5.toNat) sh104 g5 rfl (rdM hM rfl) ?_
        refine s4 (x := x1) rfl ?_
        obtain ⟨g7, hE⟩ := hE
        refine s62 (inA hM (a := 104) (k := x5.toNat) rfl) g7 (fun c8 => ?_) (fun c8 => ?_)
        · replace hE := hE.1 c8
          refine s4 (x := x2) rfl ?_
          refine s6 (p := 91) rfl ?_
          refine s51 sh91 (by decide) (by decide) rf91_18 ?_
          refine s4 (x := x5) rfl ?_
          refine s40 (v := A 105 x5.toNat) sh105 g5 rfl (rdM hM rfl) ?_
          refine s6 (p := 91) rfl ?_
          refine s51 sh91 (by decide) (by decide) rf91_19 ?_
          refine s4 (x := x5) rfl ?_
          refine s40 (v := A 106 x5.toNat) sh106 g5 rfl (rdM hM rfl) ?_
          obtain ⟨g9, hE⟩ := hE
          refine sI rc210 rfl (Nat.le_of_ble_eq_true rfl) ?_
          refine k210 g9 (inA hM (a := 105) (k := x5.toNat) rfl) (inA hM (a := 106) (k := x5.toNat) rfl) (fun c10 => ?_) (fun c10 => ?_)
          · replace hE := hE.1 c10
            refine s67 (inRd rfl) (fun c11 => absurd c11 (by decide)) (fun _ => ?_)
            refine s6 (p := 91) rfl ?_
            refine s4 (x := x5) rfl ?_
            refine s4 (x := x3) rfl ?_
            refine sI rc226 rfl (Nat.le_of_ble_eq_true rfl) ?_
            refine cI_of (ls := [.ref 91, .int (oI x5), .int (oI x3)]) rfl ?_
            refine xG gb226.1 ?_
            refine s6 (p := 91) rfl ?_
            refine s51 sh91 (by decide) (by decide) rf91_21 ?_
            refine s4 (x := x5) rfl ?_
            refine s40 (v := A 108 x5.toNat) sh108 g5 rfl (rdM hM rfl) ?_
            refine s4 (x := x3) rfl ?_
            obtain ⟨g12, hE⟩ := hE
            refine s65 (inA hM (a := 108) (k := x5.toNat) rfl) g12 (fun c13 => ?_) (fun c13 => ?_)
            · replace hE := hE.1 c13
              refine xG gb226.2.1 ?_
              refine s0 ?_
              refine s79 ?_
              refine xG gb226.2.2 ?_
              refine s84 (by decide) ?_
              refine rqI_of ?_
              refine s67 (inRd rfl) (fun _ => ?_) (fun c14 => absurd (by decide) c14)
              refine xG gb268.2.2.2.1 ?_
              refine s0 ?_
              refine s79 ?_
              refine xG gb268.2.2.2.2.1 ?_
              refine s7 (ls' := [.ref 91, .int (oI x1), .int (oI x2), .int (oI x3), .int (oI 0), .int (oI x5)]) (Nat.le_of_ble_eq_true rfl) rfl ?_
              refine s10 (x := x5) (ls' := [.ref 91, .int (oI x1), .int (oI x2), .int (oI x3), .int (oI 0), .int (oI (x5 + 1))]) rfl rfl ?_
              refine s60 ?_
              exact hE
            · replace hE := hE.2 c13
              refine s6 (p := 91) rfl ?_
              refine s51 sh91 (by decide) (by decide) rf91_22 ?_
              refine s4 (x := x5) rfl ?_
              refine s40 (v := A 109 x5.toNat) sh109 g5 rfl (rdM hM rfl) ?_
              refine s4 (x := x3) rfl ?_
              refine s66 (inA hM (a := 109) (k := x5.toNat) rfl) g12 (fun c15 => ?_) (fun c15 => ?_)
              · replace hE := hE.1 c15
                refine s0 ?_
                refine s60 ?_
                refine xG gb226.2.2 ?_
                refine s84 (by decide) ?_
                refine rqI_of ?_
                refine s67 (inRd rfl) (fun c16 => absurd c16 (by decide)) (fun _ => ?_)
                refine s79 ?_
                refine xG gb268.2.2.1 ?_
                refine s0 ?_
                refine s60 ?_
                refine xG gb268.2.2.2.2.1 ?_
                refine s7 (ls' := [.ref 91, .int (oI x1), .int (oI x2), .int (oI x3), .int (oI 1), .int (oI x5)]) (Nat.le_of_ble_eq_true rfl) rfl ?_
                refine s10 (x := x5) (ls' := [.ref 91, .int (oI x1), .int (oI x2), .int (oI x3), .int (oI 1), .int (oI (x5 + 1))]) rfl rfl ?_
                refine s60 ?_
                exact hE
              · replace hE := hE.2 c15
                refine xG gb226.2.1 ?_
                refine s0 ?_
                refine s79 ?_
                refine xG gb226.2.2 ?_
                refine s84 (by decide) ?_
                refine rqI_of ?_
                refine s67 (inRd rfl) (fun _ => ?_) (fun c17 => absurd (by decide) c17)
                refine xG gb268.2.2.2.1 ?_
                refine s0 ?_
                refine s79 ?_
                refine xG gb268.2.2.2.2.1 ?_
                refine s7 (ls' := [.ref 91, .int (oI x1), .int (oI x2), .int (oI x3), .int (oI 0), .int (oI x5)]) (Nat.le_of_ble_eq_true rfl) rfl ?_
                refine s10 (x := x5) (ls' := [.ref 91, .int (oI x1), .int (oI x2), .int (oI x3), .int (oI 0), .int (oI (x5 + 1))]) rfl rfl ?_
                refine s60 ?_
                exact hE
          · replace hE := hE.2 c10
            refine s67 (inRd rfl) (fun _ => ?_) (fun c18 => absurd (by decide) c18)
            refine xG gb268.2.2.2.1 ?_
            refine s0 ?_
            refine s79 ?_
            refine xG gb268.2.2.2.2.1 ?_
            refine s7 (ls' := [.ref 91, .int (oI x1), .int (oI x2), .int (oI x3), .int (oI 0), .int (oI x5)]) (Nat.le_of_ble_eq_true rfl) rfl ?_
            refine s10 (x := x5) (ls' := [.ref 91, .int (oI x1), .int (oI x2), .int (oI x3), .int (oI 0), .int (oI (x5 + 1))]) rfl rfl ?_
            refine s60 ?_
            exact hE
        · replace hE := hE.2 c8
          refine xG gb268.2.2.2.1 ?_
          refine s0 ?_
          refine s79 ?_
          refine xG gb268.2.2.2.2.1 ?_
          refine s7 (ls' := [.ref 91, .int (oI x1), .int (oI x2), .int (oI x3), .int (oI 0), .int (oI x5)]) (Nat.le_of_ble_eq_true rfl) rfl ?_
          refine s10 (x := x5) (ls' := [.ref 91, .int (oI x1), .int (oI x2), .int (oI x3), .int (oI 0), .int (oI (x5 + 1))]) rfl rfl ?_
          refine s60 ?_
          exact hE
      · replace hE := hE.2 c6
        refine xG gb268.2.2.2.1 ?_
        refine s0 ?_
        refine s79 ?_
        refine xG gb268.2.2.2.2.1 ?_
        refine s7 (ls' := [.ref 91, .int (oI x1), .int (oI x2), .int (oI x3), .int (oI 0), .int (oI x5)]) (Nat.le_of_ble_eq_true rfl) rfl ?_
        refine s10 (x := x5) (ls' := [.ref 91, .int (oI x1), .int (oI x2), .int (oI x3), .int (oI 0), .int (oI (x5 + 1))]) rfl rfl ?_
        refine s60 ?_
        exact hE
    · replace hE := hE.2 c4
      refine xG gb268.2.2.1 ?_
      refine s0 ?_
      refine s60 ?_
      refine xG gb268.2.2.2.2.1 ?_
      refine s7 (ls' := [.ref 91, .int (oI x1), .int (oI x2), .int (oI x3), .int (oI 1), .int (oI x5)]) (Nat.le_of_ble_eq_true rfl) rfl ?_
      refine s10 (x := x5) (ls' := [.ref 91, .int (oI x1), .int (oI x2), .int (oI x3), .int (oI 1), .int (oI (x5 + 1))]) rfl rfl ?_
      refine s60 ?_
      exact hE
  · replace hE := hE.2 c2
    refine xG gb268.2.2.2.2.2 ?_
    refine s4 (x := x4) rfl ?_
    obtain ⟨g19, hE⟩ := hE
    refine s84 g19 ?_
    exact hE
set_option maxRecDepth 4000 in
theorem e268 {d L : Nat} {I : Nat → Nat → Int32} {R : Nat → Nat → Option Nat} {S : List (Nat × Nat)} {K : Int32 → mM → Prop} {A : aS} (hM : RelM I A) {x1 : Int} {x2 : Int} {x3 : Int} (hE : h268_1 d L I R S (rqI K) x1 x2 x3 0 0) : CallI d 268 [.ref 91, .int (oI x1), .int (oI x2), .int (oI x3)] (bd L I R S) K := by
  refine cI_of (ls := [.ref 91, .int (oI x1), .int (oI x2), .int (oI x3), mUn, mUn]) rfl ?_
  refine xG gb268.1 ?_
  refine s0 ?_
  refine s7 (ls' := [.ref 91, .int (oI x1), .int (oI x2), .int (oI x3), .int (oI 0), mUn]) (Nat.le_of_ble_eq_true rfl) rfl ?_
  refine s0 ?_
  refine s7 (ls' := [.ref 91, .int (oI x1), .int (oI x2), .int (oI x3), .int (oI 0), .int (oI 0)]) (Nat.le_of_ble_eq_true rfl) rfl ?_
  refine s79 ?_
  exact hE
def h238_1 (d L : Nat) (I : Nat → Nat → Int32) (R : Nat → Nat → Option Nat) (S : List (Nat × Nat)) (Q : Option Value → mM → Prop) (x1 : Int) (x2 : Int) (x3 : Int) (x4 : Int) (x5 : Int) (x6 : Int) : Prop := Wp d (gb 238 1) [.ref 91, .int (oI x1), .int (oI x2), .int (oI x3), .int (oI x4), .int (oI x5), .int (oI x6)] [] (bd L I R S) Q
set_option maxRecDepth 4000 in
theorem e238_1 {d L : Nat} {I : Nat → Nat → Int32} {R : Nat → Nat → Option Nat} {S : List (Nat × Nat)} {Q : Option Value → mM → Prop} {A : aS} (hM : RelM I A) {x1 : Int} {x2 : Int} {x3 : Int} {x4 : Int} {x5 : Int} {x6 : Int} (hE : inR x6 ∧ (((x6 < A 91 3) → inR x5 ∧ (((x5 = 0) → (0 ≤ x6 ∧ x6 < 850) ∧ (inR x1 ∧ (((A 103 x6.toNat = x1) → inR x2 ∧ (((A 104 x6.toNat = x2) → inR x3 ∧ (((A 105 x6.toNat ≤ x3 ∧ x3 ≤ A 106 x6.toNat) → inR x4 ∧ (((x4 < A 108 x6.toNat) → h238_1 (d + 1) L I R S Q x1 x2 x3 x4 0 (x6 + 1)) ∧ (¬ (x4 < A 108 x6.toNat) → ((x4 < A 109 x6.toNat) → h238_1 (d + 1) L I R S Q x1 x2 x3 x4 1 (x6 + 1)) ∧ (¬ (x4 < A 109 x6.toNat) → h238_1 (d + 1) L I R S Q x1 x2 x3 x4 0 (x6 + 1))))) ∧ (¬ (A 105 x6.toNat ≤ x3 ∧ x3 ≤ A 106 x6.toNat) → h238_1 (d + 1) L I R S Q x1 x2 x3 x4 0 (x6 + 1)))) ∧ (¬ (A 104 x6.toNat = x2) → h238_1 (d + 1) L I R S Q x1 x2 x3 x4 0 (x6 + 1)))) ∧ (¬ (A 103 x6.toNat = x1) → h238_1 (d + 1) L I R S Q x1 x2 x3 x4 0 (x6 + 1))))) ∧ (¬ (x5 = 0) → h238_1 (d + 1) L I R S Q x1 x2 x3 x4 1 (x6 + 1)))) ∧ (¬ (x6 < A 91 3) → (x5 = 0 ∨ x5 = 1) ∧ (Q (some (.int (oI x5))) (bd L I R S))))) : h238_1 (d + 1) L I R S Q x1 x2 x3 x4 x5 x6 := by
  unfold h238_1
  refine xG gb238.2.1 ?_
  refine s4 (x := x6) rfl ?_
  refine s6 (p := 91) rfl ?_
  refine s50 (v := A 91 3) sh91 (by decide) (by decide) (rdM hM rfl) ?_
  obtain ⟨g1, hE⟩ := hE
  refine s64 g1 (inA hM (a := 91) (k := 3) rfl) (fun c2 => ?_) (fun c2 => ?_)
  · replace hE := hE.1 c2
    refine s4 (x := x5) rfl ?_
    obtain ⟨g3, hE⟩ := hE
    refine s68 g3 (fun c4 => ?_) (fun c4 => ?_)
    · replace hE := hE.1 c4
      refine s6 (p := 91) rfl ?_
      refine s51 sh91 (by decide) (by decide) rf91_16 ?_
      refine s4 (x := x6) rfl ?_
      obtain ⟨g5, hE⟩ := hE
      refine s40 (v := A 103 x6.toNat) sh103 g5 rfl (rdM hM rfl) ?_
      refine s4 (x := x1) rfl ?_
      obtain ⟨g6, hE⟩ := hE
      refine s62 (inA hM (a := 103) (k := x6.toNat) rfl) g6 (fun c7 => ?_) (fun c7 => ?_)
      · replace hE := hE.1 c7
        refine s6 (p := 91) rfl ?_
        refine s51 sh91 (by decide) (by decide) rf91_17 ?_
        refine s4 (x := x6) rfl ?_
        refine s40 (v := A 104 x6.toNat) sh104 g5 rfl (rdM hM rfl) ?_
        refine s4 (x := x2) rfl ?_
        obtain ⟨g8, hE⟩ := hE
        refine s62 (inA hM (a := 104) (k := x6.toNat) rfl) g8 (fun c9 => ?_) (fun c9 => ?_)
        · replace hE := hE.1 c9
          refine s4 (x := x3) rfl ?_
          refine s6 (p := 91) rfl ?_
          refine s51 sh91 (by decide) (by decide) rf91_18 ?_
          refine s4 (x := x6) rfl ?_
          refine s40 (v := A 105 x6.toNat) sh105 g5 rfl (rdM hM rfl) ?_
          refine s6 (p := 91) rfl ?_
          refine s51 sh91 (by decide) (by decide) rf91_19 ?_
          refine s4 (x := x6) rfl ?_
          refine s40 (v := A 106 x6.toNat) sh106 g5 rfl (rdM hM rfl) ?_
          obtain ⟨g10, hE⟩ := hE
          refine sI rc210 rfl (Nat.le_of_ble_eq_true rfl) ?_
          refine k210 g10 (inA hM (a := 105) (k := x6.toNat) rfl) (inA hM (a := 106) (k := x6.toNat) rfl) (fun c11 => ?_) (fun c11 => ?_)
          · replace hE := hE.1 c11
            refine s67 (inRd rfl) (fun c12 => absurd c12 (by decide)) (fun _ => ?_)
            refine s6 (p := 91) rfl ?_
            refine s4 (x := x6) rfl ?_
            refine s4 (x := x4) rfl ?_
            refine sI rc226 rfl (Nat.le_of_ble_eq_true rfl) ?_
            refine cI_of (ls := [.ref 91, .int (oI x6), .int (oI x4)]) rfl ?_
            refine xG gb226.1 ?_
            refine s6 (p := 91) rfl ?_
            refine s51 sh91 (by decide) (by decide) rf91_21 ?_
            refine s4 (x := x6) rfl ?_
            refine s40 (v := A 108 x6.toNat) sh108 g5 rfl (rdM hM rfl) ?_
            refine s4 (x := x4) rfl ?_
            obtain ⟨g13, hE⟩ := hE
            refine s65 (inA hM (a := 108) (k := x6.toNat) rfl) g13 (fun c14 => ?_) (fun c14 => ?_)
            · replace hE := hE.1 c14
              refine xG gb226.2.1 ?_
              refine s0 ?_
              refine s79 ?_
              refine xG gb226.2.2 ?_
              refine s84 (by decide) ?_
              refine rqI_of ?_
              refine s67 (inRd rfl) (fun _ => ?_) (fun c15 => absurd (by decide) c15)
              refine xG gb238.2.2.2.1 ?_
              refine s0 ?_
              refine s79 ?_
              refine xG gb238.2.2.2.2.1 ?_
              refine s7 (ls' := [.ref 91, .int (oI x1), .int (oI x2), .int (oI x3), .int (oI x4), .int (oI 0), .int (oI x6)]) (Nat.le_of_ble_eq_true rfl) rfl ?_
              refine s10 (x := x6) (ls' := [.ref 91, .int (oI x1), .int (oI x2), .int (oI x3), .int (oI x4), .int (oI 0), .int (oI (x6 + 1))]) rfl rfl ?_
              refine s60 ?_
              exact hE
            · replace hE := hE.2 c14
              refine s6 (p := 91) rfl ?_
              refine s51 sh91 (by decide) (by decide) rf91_22 ?_
              refine s4 (x := x6) rfl ?_
              refine s40 (v := A 109 x6.toNat) sh109 g5 rfl (rdM hM rfl) ?_
              refine s4 (x := x4) rfl ?_
              refine s66 (inA hM (a := 109) (k := x6.toNat) rfl) g13 (fun c16 => ?_) (fun c16 => ?_)
              · replace hE := hE.1 c16
                refine s0 ?_
                refine s60 ?_
                refine xG gb226.2.2 ?_
                refine s84 (by decide) ?_
                refine rqI_of ?_
                refine s67 (inRd rfl) (fun c17 => absurd c17 (by decide)) (fun _ => ?_)
                refine s79 ?_
                refine xG gb238.2.2.1 ?_
                refine s0 ?_
                refine s60 ?_
                refine xG gb238.2.2.2.2.1 ?_
                refine s7 (ls' := [.ref 91, .int (oI x1), .int (oI x2), .int (oI x3), .int (oI x4), .int (oI 1), .int (oI x6)]) (Nat.le_of_ble_eq_true rfl) rfl ?_
                refine s10 (x := x6) (ls' := [.ref 91, .int (oI x1), .int (oI x2), .int (oI x3), .int (oI x4), .int (oI 1), .int (oI (x6 + 1))]) rfl rfl ?_
                refine s60 ?_
                exact hE
              · replace hE := hE.2 c16
                refine xG gb226.2.1 ?_
                refine s0 ?_
                refine s79 ?_
                refine xG gb226.2.2 ?_
                refine s84 (by decide) ?_
                refine rqI_of ?_
                refine s67 (inRd rfl) (fun _ => ?_) (fun c18 => absurd (by decide) c18)
                refine xG gb238.2.2.2.1 ?_
                refine s0 ?_
                refine s79 ?_
                refine xG gb238.2.2.2.2.1 ?_
                refine s7 (ls' := [.ref 91, .int (oI x1), .int (oI x2), .int (oI x3), .int (oI x4), .int (oI 0), .int (oI x6)]) (Nat.le_of_ble_eq_true rfl) rfl ?_
                refine s10 (x := x6) (ls' := [.ref 91, .int (oI x1), .int (oI x2), .int (oI x3), .int (oI x4), .int (oI 0), .int (oI (x6 + 1))]) rfl rfl ?_
                refine s60 ?_
                exact hE
          · replace hE := hE.2 c11
            refine s67 (inRd rfl) (fun _ => ?_) (fun c19 => absurd (by decide) c19)
            refine xG gb238.2.2.2.1 ?_
            refine s0 ?_
            refine s79 ?_
            refine xG gb238.2.2.2.2.1 ?_
            refine s7 (ls' := [.ref 91, .int (oI x1), .int (oI x2), .int (oI x3), .int (oI x4), .int (oI 0), .int (oI x6)]) (Nat.le_of_ble_eq_true rfl) rfl ?_
            refine s10 (x := x6) (ls' := [.ref 91, .int (oI x1), .int (oI x2), .int (oI x3), .int (oI x4), .int (oI 0), .int (oI (x6 + 1))]) rfl rfl ?_
            refine s60 ?_
            exact hE
        · replace hE := hE.2 c9
          refine xG gb238.2.2.2.1 ?_
          refine s0 ?_
          refine s79 ?_
          refine xG gb238.2.2.2.2.1 ?_
          refine s7 (ls' := [.ref 91, .int (oI x1), .int (oI x2), .int (oI x3), .int (oI x4), .int (oI 0), .int (oI x6)]) (Nat.le_of_ble_eq_true rfl) rfl ?_
          refine s10 (x := x6) (ls' := [.ref 91, .int (oI x1), .int (oI x2), .int (oI x3), .int (oI x4), .int (oI 0), .int (oI (x6 + 1))]) rfl rfl ?_
          refine s60 ?_
          exact hE
      · replace hE := hE.2 c7
        refine xG gb238.2.2.2.1 ?_
        refine s0 ?_
        refine s79 ?_
        refine xG gb238.2.2.2.2.1 ?_
        refine s7 (ls' := [.ref 91, .int (oI x1), .int (oI x2), .int (oI x3), .int (oI x4), .int (oI 0), .int (oI x6)]) (Nat.le_of_ble_eq_true rfl) rfl ?_
        refine s10 (x := x6) (ls' := [.ref 91, .int (oI x1), .int (oI x2), .int (oI x3), .int (oI x4), .int (oI 0), .int (oI (x6 + 1))]) rfl rfl ?_
        refine s60 ?_
        exact hE
    · replace hE := hE.2 c4
      refine xG gb238.2.2.1 ?_
      refine s0 ?_
      refine s60 ?_
      refine xG gb238.2.2.2.2.1 ?_
      refine s7 (ls' := [.ref 91, .int (oI x1), .int (oI x2), .int (oI x3), .int (oI x4), .int (oI 1), .int (oI x6)]) (Nat.le_of_ble_eq_true rfl) rfl ?_
      refine s10 (x := x6) (ls' := [.ref 91, .int (oI x1), .int (oI x2), .int (oI x3), .int (oI x4), .int (oI 1), .int (oI (x6 + 1))]) rfl rfl ?_
      refine s60 ?_
      exact hE
  · replace hE := hE.2 c2
    refine xG gb238.2.2.2.2.2 ?_
    refine s4 (x := x5) rfl ?_
    obtain ⟨g20, hE⟩ := hE
    refine s84 g20 ?_
    exact hE
set_option maxRecDepth 4000 in
theorem e238 {d L : Nat} {I : Nat → Nat → Int32} {R : Nat → Nat → Option Nat} {S : List (Nat × Nat)} {K : Int32 → mM → Prop} {A : aS} (hM : RelM I A) {x1 : Int} {x2 : Int} {x3 : Int} {x4 : Int} (hE : h238_1 d L I R S (rqI K) x1 x2 x3 x4 0 0) : CallI d 238 [.ref 91, .int (oI x1), .int (oI x2), .int (oI x3), .int (oI x4)] (bd L I R S) K := by
  refine cI_of (ls := [.ref 91, .int (oI x1), .int (oI x2), .int (oI x3), .int (oI x4), mUn, mUn]) rfl ?_
  refine xG gb238.1 ?_
  refine s0 ?_
  refine s7 (ls' := [.ref 91, .int (oI x1), .int (oI x2), .int (oI x3), .int (oI x4), .int (oI 0), mUn]) (Nat.le_of_ble_eq_true rfl) rfl ?_
  refine s0 ?_
  refine s7 (ls' := [.ref 91, .int (oI x1), .int (oI x2), .int (oI x3), .int (oI x4), .int (oI 0), .int (oI 0)]) (Nat.le_of_ble_eq_true rfl) rfl ?_
  refine s79 ?_
  exact hE
def h247_1 (d L : Nat) (I : Nat → Nat → Int32) (R : Nat → Nat → Option Nat) (S : List (Nat × Nat)) (Q : Option Value → mM → Prop) (x1 : Int) (x2 : Int) (x3 : Int) (x4 : Int) (x5 : Int) : Prop := Wp d (gb 247 1) [.ref 91, .int (oI x1), .int (oI x2), .int (oI x3), .int (oI x4), .int (oI x5)] [] (bd L I R S) Q
set_option maxRecDepth 4000 in
theorem e247_1 {d L : Nat} {I : Nat → Nat → Int32} {R : Nat → Nat → Option Nat} {S : List (Nat × Nat)} {Q : Option Value → mM → Prop} {A : aS} (hM : RelM I A) {x1 : Int} {x2 : Int} {x3 : Int} {x4 : Int} {x5 : Int} (hE : inR x5 ∧ (((x5 < A 91 3) → (0 ≤ x5 ∧ x5 < 850) ∧ (((A 103 x5.toNat = 2) → inR x1 ∧ (((A 104 x5.toNat = x1) → inR x2 ∧ (((A 105 x5.toNat ≤ x2 ∧ x2 ≤ A 106 x5.toNat) → inR x3 ∧ (((x3 < A 108 x5.toNat) → h247_1 (d + 1) L I R S Q x1 x2 x3 x4 (x5 + 1)) ∧ (¬ (x3 < A 108 x5.toNat) → ((x3 < A 109 x5.toNat) → h247_1 (d + 1) L I R S Q x1 x2 x3 (A 107 x5.toNat) (x5 + 1)) ∧ (¬ (x3 < A 109 x5.toNat) → h247_1 (d + 1) L I R S Q x1 x2 x3 x4 (x5 + 1))))) ∧ (¬ (A 105 x5.toNat ≤ x2 ∧ x2 ≤ A 106 x5.toNat) → h247_1 (d + 1) L I R S Q x1 x2 x3 x4 (x5 + 1)))) ∧ (¬ (A 104 x5.toNat = x1) → h247_1 (d + 1) L I R S Q x1 x2 x3 x4 (x5 + 1)))) ∧ (¬ (A 103 x5.toNat = 2) → h247_1 (d + 1) L I R S Q x1 x2 x3 x4 (x5 + 1)))) ∧ (¬ (x5 < A 91 3) → Q (some (.int (oI x4))) (bd L I R S)))) : h247_1 (d + 1) L I R S Q x1 x2 x3 x4 x5 := by
  unfold h247_1
  refine xG gb247.2.1 ?_
  refine s4 (x := x5) rfl ?_
  refine s6 (p := 91) rfl ?_
  refine s50 (v := A 91 3) sh91 (by decide) (by decide) (rdM hM rfl) ?_
  obtain ⟨g1, hE⟩ := hE
  refine s64 g1 (inA hM (a := 91) (k := 3) rfl) (fun c2 => ?_) (fun c2 => ?_)
  · replace hE := hE.1 c2
    refine s6 (p := 91) rfl ?_
    refine s51 sh91 (by decide) (by decide) rf91_16 ?_
    refine s4 (x := x5) rfl ?_
    obtain ⟨g3, hE⟩ := hE
    refine s40 (v := A 103 x5.toNat) sh103 g3 rfl (rdM hM rfl) ?_
    refine s0 ?_
    refine s62 (inA hM (a := 103) (k := x5.toNat) rfl) (inRd rfl) (fun c4 => ?_) (fun c4 => ?_)
    · replace hE := hE.1 c4
      refine s6 (p := 91) rfl ?_
      refine s51 sh91 (by decide) (by decide) rf91_17 ?_
      refine s4 (x := x5) rfl ?_
      refine s40 (v := A 104 x5.toNat) sh104 g3 rfl (rdM hM rfl) ?_
      refine s4 (x := x1) rfl ?_
      obtain ⟨g5, hE⟩ := hE
      refine s62 (inA hM (a := 104) (k := x5.toNat) rfl) g5 (fun c6 => ?_) (fun c6 => ?_)
      · replace hE := hE.1 c6
        refine s4 (x := x2) rfl ?_
        refine s6 (p := 91) rfl ?_
        refine s51 sh91 (by decide) (by decide) rf91_18 ?_
        refine s4 (x := x5) rfl ?_
        refine s40 (v := A 105 x5.toNat) sh105 g3 rfl (rdM hM rfl) ?_
        refine s6 (p := 91) rfl ?_
        refine s51 sh91 (by decide) (by decide) rf91_19 ?_
        refine s4 (x := x5) rfl ?_
        refine s40 (v := A 106 x5.toNat) sh106 g3 rfl (rdM hM rfl) ?_
        obtain ⟨g7, hE⟩ := hE
        refine sI rc210 rfl (Nat.le_of_ble_eq_true rfl) ?_
        refine k210 g7 (inA hM (a := 105) (k := x5.toNat) rfl) (inA hM (a := 106) (k := x5.toNat) rfl) (fun c8 => ?_) (fun c8 => ?_)
        · replace hE := hE.1 c8
          refine s67 (inRd rfl) (fun c9 => absurd c9 (by decide)) (fun _ => ?_)
          refine s6 (p := 91) rfl ?_
          refine s4 (x := x5) rfl ?_
          refine s4 (x := x3) rfl ?_
          refine sI rc226 rfl (Nat.le_of_ble_eq_true rfl) ?_
          refine cI_of (ls := [.ref 91, .int (oI x5), .int (oI x3)]) rfl ?_
          refine xG gb226.1 ?_
          refine s6 (p := 91) rfl ?_
          refine s51 sh91 (by decide) (by decide) rf91_21 ?_
          refine s4 (x := x5) rfl ?_
          refine s40 (v := A 108 x5.toNat) sh108 g3 rfl (rdM hM rfl) ?_
          refine s4 (x := x3) rfl ?_
          obtain ⟨g10, hE⟩ := hE
          refine s65 (inA hM (a := 108) (k := x5.toNat) rfl) g10 (fun c11 => ?_) (fun c11 => ?_)
          · replace hE := hE.1 c11
            refine xG gb226.2.1 ?_
            refine s0 ?_
            refine s79 ?_
            refine xG gb226.2.2 ?_
            refine s84 (by decide) ?_
            refine rqI_of ?_
            refine s67 (inRd rfl) (fun _ => ?_) (fun c12 => absurd (by decide) c12)
            refine xG gb247.2.2.1 ?_
            refine s10 (x := x5) (ls' := [.ref 91, .int (oI x1), .int (oI x2), .int (oI x3), .int (oI x4), .int (oI (x5 + 1))]) rfl rfl ?_
            refine s60 ?_
            exact hE
          · replace hE := hE.2 c11
            refine s6 (p := 91) rfl ?_
            refine s51 sh91 (by decide) (by decide) rf91_22 ?_
            refine s4 (x := x5) rfl ?_
            refine s40 (v := A 109 x5.toNat) sh109 g3 rfl (rdM hM rfl) ?_
            refine s4 (x := x3) rfl ?_
            refine s66 (inA hM (a := 109) (k := x5.toNat) rfl) g10 (fun c13 => ?_) (fun c13 => ?_)
            · replace hE := hE.1 c13
              refine s0 ?_
              refine s60 ?_
              refine xG gb226.2.2 ?_
              refine s84 (by decide) ?_
              refine rqI_of ?_
              refine s67 (inRd rfl) (fun c14 => absurd c14 (by decide)) (fun _ => ?_)
              refine s6 (p := 91) rfl ?_
              refine s51 sh91 (by decide) (by decide) rf91_20 ?_
              refine s4 (x := x5) rfl ?_
              refine s40 (v := A 107 x5.toNat) sh107 g3 rfl (rdM hM rfl) ?_
              refine s7 (ls' := [.ref 91, .int (oI x1), .int (oI x2), .int (oI x3), .int (oI (A 107 x5.toNat)), .int (oI x5)]) (Nat.le_of_ble_eq_true rfl) rfl ?_
              refine s79 ?_
              refine xG gb247.2.2.1 ?_
              refine s10 (x := x5) (ls' := [.ref 91, .int (oI x1), .int (oI x2), .int (oI x3), .int (oI (A 107 x5.toNat)), .int (oI (x5 + 1))]) rfl rfl ?_
              refine s60 ?_
              exact hE
            · replace hE := hE.2 c13
              refine xG gb226.2.1 ?_
              refine s0 ?_
              refine s79 ?_
              refine xG gb226.2.2 ?_
              refine s84 (by decide) ?_
              refine rqI_of ?_
              refine s67 (inRd rfl) (fun _ => ?_) (fun c15 => absurd (by decide) c15)
              refine xG gb247.2.2.1 ?_
              refine s10 (x := x5) (ls' := [.ref 91, .int (oI x1), .int (oI x2), .int (oI x3), .int (oI x4), .int (oI (x5 + 1))]) rfl rfl ?_
              refine s60 ?_
              exact hE
        · replace hE := hE.2 c8
          refine s67 (inRd rfl) (fun _ => ?_) (fun c16 => absurd (by decide) c16)
          refine xG gb247.2.2.1 ?_
          refine s10 (x := x5) (ls' := [.ref 91, .int (oI x1), .int (oI x2), .int (oI x3), .int (oI x4), .int (oI (x5 + 1))]) rfl rfl ?_
          refine s60 ?_
          exact hE
      · replace hE := hE.2 c6
        refine xG gb247.2.2.1 ?_
        refine s10 (x := x5) (ls' := [.ref 91, .int (oI x1), .int (oI x2), .int (oI x3), .int (oI x4), .int (oI (x5 + 1))]) rfl rfl ?_
        refine s60 ?_
        exact hE
    · replace hE := hE.2 c4
      refine xG gb247.2.2.1 ?_
      refine s10 (x := x5) (ls' := [.ref 91, .int (oI x1), .int (oI x2), .int (oI x3), .int (oI x4), .int (oI (x5 + 1))]) rfl rfl ?_
      refine s60 ?_
      exact hE
  · replace hE := hE.2 c2
    refine xG gb247.2.2.2 ?_
    refine s4 (x := x4) rfl ?_
    refine s80 ?_
    exact hE
set_option maxRecDepth 4000 in
theorem e247 {d L : Nat} {I : Nat → Nat → Int32} {R : Nat → Nat → Option Nat} {S : List (Nat × Nat)} {K : Int32 → mM → Prop} {A : aS} (hM : RelM I A) {x1 : Int} {x2 : Int} {x3 : Int} (hE : h247_1 d L I R S (rqI K) x1 x2 x3 0 0) : CallI d 247 [.ref 91, .int (oI x1), .int (oI x2), .int (oI x3)] (bd L I R S) K := by
  refine cI_of (ls := [.ref 91, .int (oI x1), .int (oI x2), .int (oI x3), mUn, mUn]) rfl ?_
  refine xG gb247.1 ?_
  refine s0 ?_
  refine s7 (ls' := [.ref 91, .int (oI x1), .int (oI x2), .int (oI x3), .int (oI 0), mUn]) (Nat.le_of_ble_eq_true rfl) rfl ?_
  refine s0 ?_
  refine s7 (ls' := [.ref 91, .int (oI x1), .int (oI x2), .int (oI x3), .int (oI 0), .int (oI 0)]) (Nat.le_of_ble_eq_true rfl) rfl ?_
  refine s79 ?_
  exact hE
def h239_1 (d L : Nat) (I : Nat → Nat → Int32) (R : Nat → Nat → Option Nat) (S : List (Nat × Nat)) (Q : Option Value → mM → Prop) (x1 : Int) (x2 : Int) (x3 : Int) (x4 : Int) (x5 : Int) (x6 : Int) : Prop := Wp d (gb 239 1) [.ref 91, .int (oI x1), .int (oI x2), .int (oI x3), .int (oI x4), .int (oI x5), .int (oI x6)] [] (bd L I R S) Q
set_option maxRecDepth 4000 in
theorem e239_1 {d L : Nat} {I : Nat → Nat → Int32} {R : Nat → Nat → Option Nat} {S : List (Nat × Nat)} {Q : Option Value → mM → Prop} {A : aS} (hM : RelM I A) {x1 : Int} {x2 : Int} {x3 : Int} {x4 : Int} {x5 : Int} {x6 : Int} (hE : inR x6 ∧ (((x6 < A 91 3) → (0 ≤ x6 ∧ x6 < 850) ∧ (((A 103 x6.toNat = 6) → inR x1 ∧ (((A 104 x6.toNat = x1) → inR x2 ∧ (((A 105 x6.toNat = x2) → inR x3 ∧ (((A 106 x6.toNat = x3) → inR x4 ∧ (((x4 < A 108 x6.toNat) → h239_1 (d + 1) L I R S Q x1 x2 x3 x4 x5 (x6 + 1)) ∧ (¬ (x4 < A 108 x6.toNat) → ((x4 < A 109 x6.toNat) → h239_1 (d + 1) L I R S Q x1 x2 x3 x4 (A 107 x6.toNat) (x6 + 1)) ∧ (¬ (x4 < A 109 x6.toNat) → h239_1 (d + 1) L I R S Q x1 x2 x3 x4 x5 (x6 + 1))))) ∧ (¬ (A 106 x6.toNat = x3) → h239_1 (d + 1) L I R S Q x1 x2 x3 x4 x5 (x6 + 1)))) ∧ (¬ (A 105 x6.toNat = x2) → h239_1 (d + 1) L I R S Q x1 x2 x3 x4 x5 (x6 + 1)))) ∧ (¬ (A 104 x6.toNat = x1) → h239_1 (d + 1) L I R S Q x1 x2 x3 x4 x5 (x6 + 1)))) ∧ (¬ (A 103 x6.toNat = 6) → h239_1 (d + 1) L I R S Q x1 x2 x3 x4 x5 (x6 + 1)))) ∧ (¬ (x6 < A 91 3) → Q (some (.int (oI x5))) (bd L I R S)))) : h239_1 (d + 1) L I R S Q x1 x2 x3 x4 x5 x6 := by
  unfold h239_1
  refine xG gb239.2.1 ?_
  refine s4 (x := x6) rfl ?_
  refine s6 (p := 91) rfl ?_
  refine s50 (v := A 91 3) sh91 (by decide) (by decide) (rdM hM rfl) ?_
  obtain ⟨g1, hE⟩ := hE
  refine s64 g1 (inA hM (a := 91) (k := 3) rfl) (fun c2 => ?_) (fun c2 => ?_)
  · replace hE := hE.1 c2
    refine s6 (p := 91) rfl ?_
    refine s51 sh91 (by decide) (by decide) rf91_16 ?_
    refine s4 (x := x6) rfl ?_
    obtain ⟨g3, hE⟩ := hE
    refine s40 (v := A 103 x6.toNat) sh103 g3 rfl (rdM hM rfl) ?_
    refine s0 ?_
    refine s62 (inA hM (a := 103) (k := x6.toNat) rfl) (inRd rfl) (fun c4 => ?_) (fun c4 => ?_)
    · replace hE := hE.1 c4
      refine s6 (p := 91) rfl ?_
      refine s51 sh91 (by decide) (by decide) rf91_17 ?_
      refine s4 (x := x6) rfl ?_
      refine s40 (v := A 104 x6.toNat) sh104 g3 rfl (rdM hM rfl) ?_
      refine s4 (x := x1) rfl ?_
      obtain ⟨g5, hE⟩ := hE
      refine s62 (inA hM (a := 104) (k := x6.toNat) rfl) g5 (fun c6 => ?_) (fun c6 => ?_)
      · replace hE := hE.1 c6
        refine s6 (p := 91) rfl ?_
        refine s51 sh91 (by decide) (by decide) rf91_18 ?_
        refine s4 (x := x6) rfl ?_
        refine s40 (v := A 105 x6.toNat) sh105 g3 rfl (rdM hM rfl) ?_
        refine s4 (x := x2) rfl ?_
        obtain ⟨g7, hE⟩ := hE
        refine s62 (inA hM (a := 105) (k := x6.toNat) rfl) g7 (fun c8 => ?_) (fun c8 => ?_)
        · replace hE := hE.1 c8
          refine s6 (p := 91) rfl ?_
          refine s51 sh91 (by decide) (by decide) rf91_19 ?_
          refine s4 (x := x6) rfl ?_
          refine s40 (v := A 106 x6.toNat) sh106 g3 rfl (rdM hM rfl) ?_
          refine s4 (x := x3) rfl ?_
          obtain ⟨g9, hE⟩ := hE
          refine s62 (inA hM (a := 106) (k := x6.toNat) rfl) g9 (fun c10 => ?_) (fun c10 => ?_)
          · replace hE := hE.1 c10
            refine s6 (p := 91) rfl ?_
            refine s4 (x := x6) rfl ?_
            refine s4 (x := x4) rfl ?_
            refine sI rc226 rfl (Nat.le_of_ble_eq_true rfl) ?_
            refine cI_of (ls := [.ref 91, .int (oI x6), .int (oI x4)]) rfl ?_
            refine xG gb226.1 ?_
            refine s6 (p := 91) rfl ?_
            refine s51 sh91 (by decide) (by decide) rf91_21 ?_
            refine s4 (x := x6) rfl ?_
            refine s40 (v := A 108 x6.toNat) sh108 g3 rfl (rdM hM rfl) ?_
            refine s4 (x := x4) rfl ?_
            obtain ⟨g11, hE⟩ := hE
            refine s65 (inA hM (a := 108) (k := x6.toNat) rfl) g11 (fun c12 => ?_) (fun c12 => ?_)
            · replace hE := hE.1 c12
              refine xG gb226.2.1 ?_
              refine s0 ?_
              refine s79 ?_
              refine xG gb226.2.2 ?_
              refine s84 (by decide) ?_
              refine rqI_of ?_
              refine s67 (inRd rfl) (fun _ => ?_) (fun c13 => absurd (by decide) c13)
              refine xG gb239.2.2.1 ?_
              refine s10 (x := x6) (ls' := [.ref 91, .int (oI x1), .int (oI x2), .int (oI x3), .int (oI x4), .int (oI x5), .int (oI (x6 + 1))]) rfl rfl ?_
              refine s60 ?_
              exact hE
            · replace hE := hE.2 c12
              refine s6 (p := 91) rfl ?_
              refine s51 sh91 (by decide) (by decide) rf91_22 ?_
              refine s4 (x := x6) rfl ?_
              refine s40 (v := A 109 x6.toNat) sh109 g3 rfl (rdM hM rfl) ?_
              refine s4 (x := x4) rfl ?_
              refine s66 (inA hM (a := 109) (k := x6.toNat) rfl) g11 (fun c14 => ?_) (fun c14 => ?_)
              · replace hE := hE.1 c14
                refine s0 ?_
                refine s60 ?_
                refine xG gb226.2.2 ?_
                refine s84 (by decide) ?_
                refine rqI_of ?_
                refine s67 (inRd rfl) (fun c15 => absurd c15 (by decide)) (fun _ => ?_)
                refine s6 (p := 91) rfl ?_
                refine s51 sh91 (by decide) (by decide) rf91_20 ?_
                refine s4 (x := x6) rfl ?_
                refine s40 (v := A 107 x6.toNat) sh107 g3 rfl (rdM hM rfl) ?_
                refine s7 (ls' := [.ref 91, .int (oI x1), .int (oI x2), .int (oI x3), .int (oI x4), .int (oI (A 107 x6.toNat)), .int (oI x6)]) (Nat.le_of_ble_eq_true rfl) rfl ?_
                refine s79 ?_
                refine xG gb239.2.2.1 ?_
                refine s10 (x := x6) (ls' := [.ref 91, .int (oI x1), .int (oI x2), .int (oI x3), .int (oI x4), .int (oI (A 107 x6.toNat)), .int (oI (x6 + 1))]) rfl rfl ?_
                refine s60 ?_
                exact hE
              · replace hE := hE.2 c14
                refine xG gb226.2.1 ?_
                refine s0 ?_
                refine s79 ?_
                refine xG gb226.2.2 ?_
                refine s84 (by decide) ?_
                refine rqI_of ?_
                refine s67 (inRd rfl) (fun _ => ?_) (fun c16 => absurd (by decide) c16)
                refine xG gb239.2.2.1 ?_
                refine s10 (x := x6) (ls' := [.ref 91, .int (oI x1), .int (oI x2), .int (oI x3), .int (oI x4), .int (oI x5), .int (oI (x6 + 1))]) rfl rfl ?_
                refine s60 ?_
                exact hE
          · replace hE := hE.2 c10
            refine xG gb239.2.2.1 ?_
            refine s10 (x := x6) (ls' := [.ref 91, .int (oI x1), .int (oI x2), .int (oI x3), .int (oI x4), .int (oI x5), .int (oI (x6 + 1))]) rfl rfl ?_
            refine s60 ?_
            exact hE
        · replace hE := hE.2 c8
          refine xG gb239.2.2.1 ?_
          refine s10 (x := x6) (ls' := [.ref 91, .int (oI x1), .int (oI x2), .int (oI x3), .int (oI x4), .int (oI x5), .int (oI (x6 + 1))]) rfl rfl ?_
          refine s60 ?_
          exact hE
      · replace hE := hE.2 c6
        refine xG gb239.2.2.1 ?_
        refine s10 (x := x6) (ls' := [.ref 91, .int (oI x1), .int (oI x2), .int (oI x3), .int (oI x4), .int (oI x5), .int (oI (x6 + 1))]) rfl rfl ?_
        refine s60 ?_
        exact hE
    · replace hE := hE.2 c4
      refine xG gb239.2.2.1 ?_
      refine s10 (x := x6) (ls' := [.ref 91, .int (oI x1), .int (oI x2), .int (oI x3), .int (oI x4), .int (oI x5), .int (oI (x6 + 1))]) rfl rfl ?_
      refine s60 ?_
      exact hE
  · replace hE := hE.2 c2
    refine xG gb239.2.2.2 ?_
    refine s4 (x := x5) rfl ?_
    refine s80 ?_
    exact hE
set_option maxRecDepth 4000 in
theorem e239 {d L : Nat} {I : Nat → Nat → Int32} {R : Nat → Nat → Option Nat} {S : List (Nat × Nat)} {K : Int32 → mM → Prop} {A : aS} (hM : RelM I A) {x1 : Int} {x2 : Int} {x3 : Int} {x4 : Int} (hE : h239_1 d L I R S (rqI K) x1 x2 x3 x4 (-1) 0) : CallI d 239 [.ref 91, .int (oI x1), .int (oI x2), .int (oI x3), .int (oI x4)] (bd L I R S) K := by
  refine cI_of (ls := [.ref 91, .int (oI x1), .int (oI x2), .int (oI x3), .int (oI x4), mUn, mUn]) rfl ?_
  refine xG gb239.1 ?_
  refine s0 ?_
  refine s7 (ls' := [.ref 91, .int (oI x1), .int (oI x2), .int (oI x3), .int (oI x4), .int (oI (-1)), mUn]) (Nat.le_of_ble_eq_true rfl) rfl ?_
  refine s0 ?_
  refine s7 (ls' := [.ref 91, .int (oI x1), .int (oI x2), .int (oI x3), .int (oI x4), .int (oI (-1)), .int (oI 0)]) (Nat.le_of_ble_eq_true rfl) rfl ?_
  refine s79 ?_
  exact hE
section
variable {d L : Nat} {I : mI} {R : Nat → Nat → Option Nat} {S : List (Nat × Nat)} {Q : Option Value → mM → Prop} {A : aS} {c day known kind half year subj : Int}
theorem l225 (hM : RelM I A) (hN : WfN A) (hc : inR c) (hd : inR day) (hk : inR known) (hQ : Q (some (.int (oI (onL A c day known (nN A)).1))) (bd L I R S)) : ∀ n k, k + n = nN A → h225_1 (d + 1) L I R S Q c day known (onL A c day known k).1 (onL A c day known k).2 k := by
  unfold WfN at hN
  intro n
  have hN2 : (nN A : Int) = A 91 3 := by unfold nN; omega
  have hb : ∀ k, inR (onL A c day known k).2 := by
    intro k
    induction k with
    | zero => exact inRd rfl
    | succ k ih => unfold onL; split; exact inA hM rfl; exact ih
  induction n with
  | zero =>
    intro k hkn
    refine e225_1 hM ?_
    refine ⟨?_, fun h => ?_, fun h => ?_⟩
    · refine And.intro ?_ ?_ <;> omega
    · exfalso; omega
    · rw [show k = nN A by omega]; exact hQ
  | succ n ih =>
    intro k hkn
    have ih := ih (k + 1) (by omega)
    have hb := hb k
    unfold onL at ih
    refine e225_1 hM ?_
    simp only [Int.toNat_natCast]
    split at ih <;> (rename_i hcd; repeat' first | exact ih | with_reducible assumption | refine And.intro ?_ ?_ | intro _ | omega | exact absurd trivial ‹¬ True› | (exfalso; omega))
theorem k225 {K : Int32 → mM → Prop} (hM : RelM I A) (hN : WfN A) (hc : inR c) (hd : inR day) (hk : inR known) (hK : K (oI (onS A c day known)) (bd L I R S)) : CallI (d + 1) 225 [.ref 91, .int (oI c), .int (oI day), .int (oI known)] (bd L I R S) K :=
  e225 hM (l225 hM hN hc hd hk (rqI_of hK) (nN A) 0 (by omega))
theorem l268 (hM : RelM I A) (hN : WfN A) (hc : inR c) (hd : inR day) (hk : inR known) (hQ : Q (some (.int (oI (bI (spB A 1 c day known (nN A)))))) (bd L I R S)) : ∀ n k, k + n = nN A → h268_1 (d + 1) L I R S Q c day known (bI (spB A 1 c day known k)) k := by
  unfold WfN at hN
  intro n
  have hN2 : (nN A : Int) = A 91 3 := by unfold nN; omega
  induction n with
  | zero =>
    intro k hkn
    refine e268_1 hM ?_
    refine ⟨?_, fun h => ?_, fun h => ?_⟩
    · refine And.intro ?_ ?_ <;> omega
    · exfalso; omega
    · rw [show k = nN A by omega]; exact ⟨by cases spB A 1 c day known (nN A) <;> simp [bI], hQ⟩
  | succ n ih =>
    intro k hkn
    have ih := ih (k + 1) (by omega)
    refine e268_1 hM ?_
    simp only [Int.toNat_natCast]
    unfold spB at ih
    cases hb : spB A 1 c day known k <;> rw [hb] at ih
    · by_cases hcd : A 103 k = 1 ∧ A 104 k = c ∧ (A 105 k ≤ day ∧ day ≤ A 106 k) ∧ A 108 k ≤ known ∧ known < A 109 k
      · rw [decide_eq_true hcd] at ih
        simp only [bI, Bool.or_true, Bool.or_false, cond_true, cond_false] at ih ⊢
        repeat' first | exact ih | with_reducible assumption | refine And.intro ?_ ?_ | intro _ | omega | exact absurd trivial ‹¬ True› | (exfalso; omega)
      · rw [decide_eq_false hcd] at ih
        simp only [bI, Bool.or_true, Bool.or_false, cond_true, cond_false] at ih ⊢
        repeat' first | exact ih | with_reducible assumption | refine And.intro ?_ ?_ | intro _ | omega | exact absurd trivial ‹¬ True› | (exfalso; omega)
    · simp only [bI, Bool.true_or, cond_true, cond_false] at ih ⊢
      repeat' first | exact ih | with_reducible assumption | refine And.intro ?_ ?_ | intro _ | omega | exact absurd trivial ‹¬ True› | (exfalso; omega)
theorem l238 (hM : RelM I A) (hN : WfN A) (hkd : inR kind) (hc : inR c) (hd : inR day) (hk : inR known) (hQ : Q (some (.int (oI (bI (spB A kind c day known (nN A)))))) (bd L I R S)) : ∀ n k, k + n = nN A → h238_1 (d + 1) L I R S Q kind c day known (bI (spB A kind c day known k)) k := by
  unfold WfN at hN
  intro n
  have hN2 : (nN A : Int) = A 91 3 := by unfold nN; omega
  induction n with
  | zero =>
    intro k hkn
    refine e238_1 hM ?_
    refine ⟨?_, fun h => ?_, fun h => ?_⟩
    · refine And.intro ?_ ?_ <;> omega
    · exfalso; omega
    · rw [show k = nN A by omega]; exact ⟨by cases spB A kind c day known (nN A) <;> simp [bI], hQ⟩
  | succ n ih =>
    intro k hkn
    have ih := ih (k + 1) (by omega)
    refine e238_1 hM ?_
    simp only [Int.toNat_natCast]
    unfold spB at ih
    cases hb : spB A kind c day known k <;> rw [hb] at ih
    · by_cases hcd : A 103 k = kind ∧ A 104 k = c ∧ (A 105 k ≤ day ∧ day ≤ A 106 k) ∧ A 108 k ≤ known ∧ known < A 109 k
      · rw [decide_eq_true hcd] at ih
        simp only [bI, Bool.or_true, Bool.or_false, cond_true, cond_false] at ih ⊢
        repeat' first | exact ih | with_reducible assumption | refine And.intro ?_ ?_ | intro _ | omega | exact absurd trivial ‹¬ True› | (exfalso; omega)
      · rw [decide_eq_false hcd] at ih
        simp only [bI, Bool.or_true, Bool.or_false, cond_true, cond_false] at ih ⊢
        repeat' first | exact ih | with_reducible assumption | refine And.intro ?_ ?_ | intro _ | omega | exact absurd trivial ‹¬ True› | (exfalso; omega)
    · simp only [bI, Bool.true_or, cond_true, cond_false] at ih ⊢
      repeat' first | exact ih | with_reducible assumption | refine And.intro ?_ ?_ | intro _ | omega | exact absurd trivial ‹¬ True› | (exfalso; omega)
theorem k268 {K : Int32 → mM → Prop} (hM : RelM I A) (hN : WfN A) (hc : inR c) (hd : inR day) (hk : inR known) (h1 : spS A 1 c day known = true → K (oI 1) (bd L I R S)) (h0 : ¬ spS A 1 c day known = true → K (oI 0) (bd L I R S)) : CallI (d + 1) 268 [.ref 91, .int (oI c), .int (oI day), .int (oI known)] (bd L I R S) K := by
  refine e268 hM (l268 hM hN hc hd hk (rqI_of ?_) (nN A) 0 (by omega))
  show K (oI (bI (spS A 1 c day known))) _
  cases hb : spS A 1 c day known
  · exact h0 (by rw [hb]; decide)
  · exact h1 hb
theorem k238 {K : Int32 → mM → Prop} (hM : RelM I A) (hN : WfN A) (hkd : inR kind) (hc : inR c) (hd : inR day) (hk : inR known) (h1 : spS A kind c day known = true → K (oI 1) (bd L I R S)) (h0 : ¬ spS A kind c day known = true → K (oI 0) (bd L I R S)) : CallI (d + 1) 238 [.ref 91, .int (oI kind), .int (oI c), .int (oI day), .int (oI known)] (bd L I R S) K := by
  refine e238 hM (l238 hM hN hkd hc hd hk (rqI_of ?_) (nN A) 0 (by omega))
  show K (oI (bI (spS A kind c day known))) _
  cases hb : spS A kind c day known
  · exact h0 (by rw [hb]; decide)
  · exact h1 hb
theorem k238' {K : Int32 → mM → Prop} (hM : RelM I A) (hN : WfN A) (hkd : inR kind) (hc : inR c) (hd : inR day) (hk : inR known) (hK : K (oI (bI (spS A kind c day known))) (bd L I R S)) : CallI (d + 1) 238 [.ref 91, .int (oI kind), .int (oI c), .int (oI day), .int (oI known)] (bd L I R S) K := e238 hM (l238 hM hN hkd hc hd hk (rqI_of hK) (nN A) 0 (by omega))
theorem l247 (hM : RelM I A) (hN : WfN A) (hc : inR c) (hh : inR half) (hk : inR known) (hQ : Q (some (.int (oI (mkL' A c half known (nN A))))) (bd L I R S)) : ∀ n k, k + n = nN A → h247_1 (d + 1) L I R S Q c half known (mkL' A c half known k) k := by
  unfold WfN at hN
  intro n
  have hN2 : (nN A : Int) = A 91 3 := by unfold nN; omega
  induction n with
  | zero =>
    intro k hkn
    refine e247_1 hM ?_
    refine ⟨?_, fun h => ?_, fun h => ?_⟩
    · refine And.intro ?_ ?_ <;> omega
    · exfalso; omega
    · rw [show k = nN A by omega]; exact hQ
  | succ n ih =>
    intro k hkn
    have ih := ih (k + 1) (by omega)
    unfold mkL' at ih
    refine e247_1 hM ?_
    simp only [Int.toNat_natCast]
    split at ih <;> (rename_i hcd; repeat' first | exact ih | with_reducible assumption | refine And.intro ?_ ?_ | intro _ | omega | exact absurd trivial ‹¬ True› | (exfalso; omega))
theorem l239 (hM : RelM I A) (hN : WfN A) (hc : inR c) (hy : inR year) (hs : inR subj) (hk : inR known) (hQ : Q (some (.int (oI (rsL A c year subj known (nN A))))) (bd L I R S)) : ∀ n k, k + n = nN A → h239_1 (d + 1) L I R S Q c year subj known (rsL A c year subj known k) k := by
  unfold WfN at hN
  intro n
  have hN2 : (nN A : Int) = A 91 3 := by unfold nN; omega
  induction n with
  | zero =>
    intro k hkn
    refine e239_1 hM ?_
    refine ⟨?_, fun h => ?_, fun h => ?_⟩
    · refine And.intro ?_ ?_ <;> omega
    · exfalso; omega
    · rw [show k = nN A by omega]; exact hQ
  | succ n ih =>
    intro k hkn
    have ih := ih (k + 1) (by omega)
    unfold rsL at ih
    refine e239_1 hM ?_
    simp only [Int.toNat_natCast]
    split at ih <;> (rename_i hcd; repeat' first | exact ih | with_reducible assumption | refine And.intro ?_ ?_ | intro _ | omega | exact absurd trivial ‹¬ True› | (exfalso; omega))
theorem k247 {K : Int32 → mM → Prop} (hM : RelM I A) (hN : WfN A) (hc : inR c) (hh : inR half) (hk : inR known) (hK : K (oI (mkS A c half known)) (bd L I R S)) : CallI (d + 1) 247 [.ref 91, .int (oI c), .int (oI half), .int (oI known)] (bd L I R S) K :=
  e247 hM (l247 hM hN hc hh hk (rqI_of hK) (nN A) 0 (by omega))
theorem k239 {K : Int32 → mM → Prop} (hM : RelM I A) (hN : WfN A) (hc : inR c) (hy : inR year) (hs : inR subj) (hk : inR known) (hK : K (oI (rsS A c year subj known)) (bd L I R S)) : CallI (d + 1) 239 [.ref 91, .int (oI c), .int (oI year), .int (oI subj), .int (oI known)] (bd L I R S) K :=
  e239 hM (l239 hM hN hc hy hs hk (rqI_of hK) (nN A) 0 (by omega))
end
