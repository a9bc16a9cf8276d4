/-! the reference: sites, officers -/
def siL (A : aS) (w : Int) : Nat → Int
  | 0 => -1
  | s + 1 => if (siL A w s = -1 ∨ btS s < btS (siL A w s)) ∧ reB A s w = true then s else siL A w s
def siS (A : aS) (w : Int) : Int := siL A w (2 ^ (A 91 54).toNat)
def sitesA (A : aS) (w what : Int) : Int := if ¬ (0 ≤ w ∧ w ≤ 120) ∨ ¬ (0 ≤ what ∧ what ≤ 1) then -1 else if siS A w = -1 ∨ what = 1 then siS A w else btS (siS A w)
theorem siL_in {A : aS} {w : Int} : ∀ k, siL A w k = -1 ∨ (0 ≤ siL A w k ∧ siL A w k < k)
  | 0 => Or.inl rfl
  | k + 1 => by
    have := siL_in (A := A) (w := w) k
    unfold siL; split
    · right; omega
    · omega
noncomputable def lkD (A : aS) (c d : Int) : Int := if onS A c d (A 91 0) = -1 ∨ spS A 1 (onS A c d (A 91 0)) d (A 91 0) = true then 0 else 4 - qtS A c (Int.tdiv d 100) (d - Int.tdiv d 100 * 100) 0 (Int.tdiv d 100) (stS A c (Int.tdiv d 100) (A 91 0)) (A 91 0) - qtS A c (Int.tdiv d 100) (d - Int.tdiv d 100 * 100) 1 (Int.tdiv d 100) (stS A c (Int.tdiv d 100) (A 91 0)) (A 91 0)
noncomputable def lkK (A : aS) (c d0 : Int) : Nat → Int
  | 0 => 0
  | k + 1 => lkK A c d0 k + lkD A c (d0 + k)
noncomputable def lkC (A : aS) (c : Int) : Int := lkK A c (max 0 (A 91 0 - 9)) (A 91 0 - max 0 (A 91 0 - 9) + 1).toNat
noncomputable def lackV (A : aS) : Nat → Nat → Int
  | 0, _ => 0
  | c + 1, s => lackV A c s + (if (A 93 c).toNat = s then lkC A c else 0)
def liveV (A : aS) : Nat → Nat → Int
  | 0, _ => 0
  | c + 1, s => liveV A c s + (if (A 93 c).toNat = s then 1 else 0)
theorem lkD_in {A : aS} (hC : WfC A) {c d : Int} : 0 ≤ lkD A c d ∧ lkD A c d ≤ 4 := by
  unfold lkD
  split
  · omega
  · have h1 := qtS_in hC (y := Int.tdiv d 100) (c := c) (year := Int.tdiv d 100) (d := d - Int.tdiv d 100 * 100) (half := 0) (std := stS A c (Int.tdiv d 100) (A 91 0)) (known := A 91 0)
    have h2 := qtS_in hC (y := Int.tdiv d 100) (c := c) (year := Int.tdiv d 100) (d := d - Int.tdiv d 100 * 100) (half := 1) (std := stS A c (Int.tdiv d 100) (A 91 0)) (known := A 91 0)
    omega
theorem lkK_in {A : aS} (hC : WfC A) {c d0 : Int} : ∀ k : Nat, 0 ≤ lkK A c d0 k ∧ lkK A c d0 k ≤ 4 * k
  | 0 => by unfold lkK; omega
  | k + 1 => by have := lkK_in hC (c := c) (d0 := d0) k; have := lkD_in hC (c := c) (d := d0 + k); unfold lkK; omega
theorem lackV_in {A : aS} (hW : WfA A) (hC : WfC A) {s : Nat} : ∀ c : Nat, 0 ≤ lackV A c s ∧ lackV A c s ≤ 40 * c
  | 0 => by unfold lackV; omega
  | c + 1 => by
    have := lackV_in hW hC (s := s) c
    have h2 := lkK_in hC (c := c) (d0 := max 0 (A 91 0 - 9)) (A 91 0 - max 0 (A 91 0 - 9) + 1).toNat
    have h3 := hW.1
    unfold lackV
    split
    · unfold lkC; omega
    · omega
theorem liveV_in {A : aS} {s : Nat} : ∀ c : Nat, 0 ≤ liveV A c s ∧ liveV A c s ≤ c
  | 0 => by unfold liveV; omega
  | c + 1 => by have := liveV_in (A := A) (s := s) c; unfold liveV; split <;> omega
def h284_3 (d L : Nat) (I : Nat → Nat → Int32) (R : Nat → Nat → Option Nat) (S : List (Nat × Nat)) (Q : Option Value → mM → Prop) (x1 : Int) (x2 : Int) (x3 : Int) (x4 : Int) : Prop := Wp d (gb 284 3) [.ref 91, .int (oI x1), .int (oI x2), .int (oI x3), .int (oI x4)] [] (bd L I R S) Q
set_option maxRecDepth 4000 in
theorem e284_3 {d L : Nat} {I : Nat → Nat → Int32} {R : Nat → Nat → Option Nat} {S : List (Nat × Nat)} {Q : Option Value → mM → Prop} {A : aS} (hR : RM I A) {x1 : Int} {x2 : Int} {x3 : Int} {x4 : Int} (hE : inR x4 ∧ (inR (iShl 1 (A 91 54)) ∧ (((x4 < iShl 1 (A 91 54)) → inR x3 ∧ (((x3 = (-1)) → WfA A ∧ (WfP A ∧ (WfX A ∧ ((0 ≤ x1 ∧ x1 ≤ 120) ∧ (((reB A x4 x1 = true) → h284_3 (d + 2) L I R S Q x1 x2 x4 (x4 + 1)) ∧ (¬ (reB A x4 x1 = true) → h284_3 (d + 2) L I R S Q x1 x2 x3 (x4 + 1))))))) ∧ (¬ (x3 = (-1)) → (0 ≤ x4 ∧ x4 < 1024) ∧ ((0 ≤ x3 ∧ x3 < 1024) ∧ (inR (btS x4) ∧ (inR (btS x3) ∧ (((btS x4 < btS x3) → WfA A ∧ (WfP A ∧ (WfX A ∧ ((0 ≤ x1 ∧ x1 ≤ 120) ∧ (((reB A x4 x1 = true) → h284_3 (d + 2) L I R S Q x1 x2 x4 (x4 + 1)) ∧ (¬ (reB A x4 x1 = true) → h284_3 (d + 2) L I R S Q x1 x2 x3 (x4 + 1))))))) ∧ (¬ (btS x4 < btS x3) → h284_3 (d + 2) L I R S Q x1 x2 x3 (x4 + 1))))))))) ∧ (¬ (x4 < iShl 1 (A 91 54)) → inR x3 ∧ (((x3 = (-1)) → Q (some (.int (oI x3))) (bd L I R S)) ∧ (¬ (x3 = (-1)) → inR x2 ∧ (((x2 = 1) → Q (some (.int (oI x3))) (bd L I R S)) ∧ (¬ (x2 = 1) → (0 ≤ x3 ∧ x3 < 1024) ∧ (Q (some (.int (oI (btS x3)))) (bd L I R S)))))))))) : h284_3 (d + 2) L I R S Q x1 x2 x3 x4 := by
  unfold h284_3
  refine xG gb284.2.2.2.1 ?_
  refine s4 (x := x4) rfl ?_
  refine s0 ?_
  refine s6 (p := 91) rfl ?_
  refine s50 (v := A 91 54) sh91 (by decide) (by decide) (rdM hR.1 rfl) ?_
  refine s22 ?_
  obtain ⟨g1, hE⟩ := hE
  obtain ⟨g2, hE⟩ := hE
  refine s64 g1 g2 (fun c3 => ?_) (fun c3 => ?_)
  · replace hE := hE.1 c3
    refine s4 (x := x3) rfl ?_
    refine s0 ?_
    obtain ⟨g4, hE⟩ := hE
    refine s61 g4 (inRd rfl) (fun c5 => ?_) (fun c5 => ?_)
    · replace hE := hE.1 c5
      refine xG gb284.2.2.2.2.1 ?_
      refine s6 (p := 91) rfl ?_
      refine s4 (x := x4) rfl ?_
      refine s4 (x := x1) rfl ?_
      obtain ⟨g6, hE⟩ := hE
      obtain ⟨g7, hE⟩ := hE
      obtain ⟨g8, hE⟩ := hE
      obtain ⟨g9, hE⟩ := hE
      refine sI rc285 rfl (Nat.le_of_ble_eq_true rfl) ?_
      refine k285 hR g6 g7 g8 g1 g9 (fun c10 => ?_) (fun c10 => ?_)
      · replace hE := hE.1 c10
        refine s67 (inRd rfl) (fun c11 => absurd c11 (by decide)) (fun _ => ?_)
        refine s4 (x := x4) rfl ?_
        refine s7 (ls' := [.ref 91, .int (oI x1), .int (oI x2), .int (oI x4), .int (oI x4)]) (Nat.le_of_ble_eq_true rfl) rfl ?_
        refine s79 ?_
        refine xG gb284.2.2.2.2.2.1 ?_
        refine s10 (x := x4) (ls' := [.ref 91, .int (oI x1), .int (oI x2), .int (oI x4), .int (oI (x4 + 1))]) rfl rfl ?_
        refine s60 ?_
        exact hE
      · replace hE := hE.2 c10
        refine s67 (inRd rfl) (fun _ => ?_) (fun c12 => absurd (by decide) c12)
        refine xG gb284.2.2.2.2.2.1 ?_
        refine s10 (x := x4) (ls' := [.ref 91, .int (oI x1), .int (oI x2), .int (oI x3), .int (oI (x4 + 1))]) rfl rfl ?_
        refine s60 ?_
        exact hE
    · replace hE := hE.2 c5
      refine s4 (x := x4) rfl ?_
      obtain ⟨g13, hE⟩ := hE
      refine sI rc241 rfl (Nat.le_of_ble_eq_true rfl) ?_
      refine k241 g13 ?_
      refine s4 (x := x3) rfl ?_
      obtain ⟨g14, hE⟩ := hE
      refine sI rc241 rfl (Nat.le_of_ble_eq_true rfl) ?_
      refine k241 g14 ?_
      obtain ⟨g15, hE⟩ := hE
      obtain ⟨g16, hE⟩ := hE
      refine s64 g15 g16 (fun c17 => ?_) (fun c17 => ?_)
      · replace hE := hE.1 c17
        refine s79 ?_
        refine xG gb284.2.2.2.2.1 ?_
        refine s6 (p := 91) rfl ?_
        refine s4 (x := x4) rfl ?_
        refine s4 (x := x1) rfl ?_
        obtain ⟨g18, hE⟩ := hE
        obtain ⟨g19, hE⟩ := hE
        obtain ⟨g20, hE⟩ := hE
        obtain ⟨g21, hE⟩ := hE
        refine sI rc285 rfl (Nat.le_of_ble_eq_true rfl) ?_
        refine k285 hR g18 g19 g20 g1 g21 (fun c22 => ?_) (fun c22 => ?_)
        · replace hE := hE.1 c22
          refine s67 (inRd rfl) (fun c23 => absurd c23 (by decide)) (fun _ => ?_)
          refine s4 (x := x4) rfl ?_
          refine s7 (ls' := [.ref 91, .int (oI x1), .int (oI x2), .int (oI x4), .int (oI x4)]) (Nat.le_of_ble_eq_true rfl) rfl ?_
          refine s79 ?_
          refine xG gb284.2.2.2.2.2.1 ?_
          refine s10 (x := x4) (ls' := [.ref 91, .int (oI x1), .int (oI x2), .int (oI x4), .int (oI (x4 + 1))]) rfl rfl ?_
          refine s60 ?_
          exact hE
        · replace hE := hE.2 c22
          refine s67 (inRd rfl) (fun _ => ?_) (fun c24 => absurd (by decide) c24)
          refine xG gb284.2.2.2.2.2.1 ?_
          refine s10 (x := x4) (ls' := [.ref 91, .int (oI x1), .int (oI x2), .int (oI x3), .int (oI (x4 + 1))]) rfl rfl ?_
          refine s60 ?_
          exact hE
      · replace hE := hE.2 c17
        refine xG gb284.2.2.2.2.2.1 ?_
        refine s10 (x := x4) (ls' := [.ref 91, .int (oI x1), .int (oI x2), .int (oI x3), .int (oI (x4 + 1))]) rfl rfl ?_
        refine s60 ?_
        exact hE
  · replace hE := hE.2 c3
    refine xG gb284.2.2.2.2.2.2.1 ?_
    refine s4 (x := x3) rfl ?_
    refine s0 ?_
    obtain ⟨g25, hE⟩ := hE
    refine s61 g25 (inRd rfl) (fun c26 => ?_) (fun c26 => ?_)
    · replace hE := hE.1 c26
      refine xG gb284.2.2.2.2.2.2.2.1 ?_
      refine s4 (x := x3) rfl ?_
      refine s60 ?_
      refine xG gb284.2.2.2.2.2.2.2.2.2 ?_
      refine s80 ?_
      exact hE
    · replace hE := hE.2 c26
      refine s4 (x := x2) rfl ?_
      refine s0 ?_
      obtain ⟨g27, hE⟩ := hE
      refine s62 g27 (inRd rfl) (fun c28 => ?_) (fun c28 => ?_)
      · replace hE := hE.1 c28
        refine s79 ?_
        refine xG gb284.2.2.2.2.2.2.2.1 ?_
        refine s4 (x := x3) rfl ?_
        refine s60 ?_
        refine xG gb284.2.2.2.2.2.2.2.2.2 ?_
        refine s80 ?_
        exact hE
      · replace hE := hE.2 c28
        refine xG gb284.2.2.2.2.2.2.2.2.1 ?_
        refine s4 (x := x3) rfl ?_
        obtain ⟨g29, hE⟩ := hE
        refine sI rc241 rfl (Nat.le_of_ble_eq_true rfl) ?_
        refine k241 g29 ?_
        refine s79 ?_
        refine xG gb284.2.2.2.2.2.2.2.2.2 ?_
        refine s80 ?_
        exact hE
set_option maxRecDepth 4000 in
theorem e284 {d L : Nat} {I : Nat → Nat → Int32} {R : Nat → Nat → Option Nat} {S : List (Nat × Nat)} {K : Int32 → mM → Prop} {A : aS} (hR : RM I A) {x1 : Int} {x2 : Int} (hE : inR x1 ∧ (((0 ≤ x1 ∧ x1 ≤ 120) → inR x2 ∧ (((0 ≤ x2 ∧ x2 ≤ 1) → h284_3 (d + 1) L I R S (rqI K) x1 x2 (-1) 0) ∧ (¬ (0 ≤ x2 ∧ x2 ≤ 1) → K (oI (-1)) (bd L I R S)))) ∧ (¬ (0 ≤ x1 ∧ x1 ≤ 120) → K (oI (-1)) (bd L I R S)))) : CallI (d + 1) 284 [.ref 91, .int (oI x1), .int (oI x2)] (bd L I R S) K := by
  refine cI_of (ls := [.ref 91, .int (oI x1), .int (oI x2), mUn, mUn]) rfl ?_
  refine xG gb284.1 ?_
  refine s4 (x := x1) rfl ?_
  refine s0 ?_
  refine s0 ?_
  obtain ⟨g1, hE⟩ := hE
  refine sI rc210 rfl (Nat.le_of_ble_eq_true rfl) ?_
  refine k210 g1 (inRd rfl) (inRd rfl) (fun c2 => ?_) (fun c2 => ?_)
  · replace hE := hE.1 c2
    refine s67 (inRd rfl) (fun c3 => absurd c3 (by decide)) (fun _ => ?_)
    refine s4 (x := x2) rfl ?_
    refine s0 ?_
    refine s0 ?_
    obtain ⟨g4, hE⟩ := hE
    refine sI rc210 rfl (Nat.le_of_ble_eq_true rfl) ?_
    refine k210 g4 (inRd rfl) (inRd rfl) (fun c5 => ?_) (fun c5 => ?_)
    · replace hE := hE.1 c5
      refine s68 (inRd rfl) (fun c6 => absurd c6 (by decide)) (fun _ => ?_)
      refine xG gb284.2.2.1 ?_
      refine s0 ?_
      refine s7 (ls' := [.ref 91, .int (oI x1), .int (oI x2), .int (oI (-1)), mUn]) (Nat.le_of_ble_eq_true rfl) rfl ?_
      refine s0 ?_
      refine s7 (ls' := [.ref 91, .int (oI x1), .int (oI x2), .int (oI (-1)), .int (oI 0)]) (Nat.le_of_ble_eq_true rfl) rfl ?_
      refine s79 ?_
      exact hE
    · replace hE := hE.2 c5
      refine s68 (inRd rfl) (fun _ => ?_) (fun c7 => absurd (by decide) c7)
      refine s79 ?_
      refine xG gb284.2.1 ?_
      refine s0 ?_
      refine s80 ?_
      exact rqI_of hE
  · replace hE := hE.2 c2
    refine s67 (inRd rfl) (fun _ => ?_) (fun c8 => absurd (by decide) c8)
    refine xG gb284.2.1 ?_
    refine s0 ?_
    refine s80 ?_
    exact rqI_of hE
def h282_1 (d L : Nat) (I : Nat → Nat → Int32) (R : Nat → Nat → Option Nat) (S : List (Nat × Nat)) (Q : Option Value → mM → Prop) (x1 : Int) (w2 : Value) (w3 : Value) (w4 : Value) (w5 : Value) : Prop := Wp d (gb 282 1) [.ref 91, .int (oI x1), w2, w3, w4, w5] [] (bd L I R S) Q
def h282_3 (d L : Nat) (I : Nat → Nat → Int32) (R : Nat → Nat → Option Nat) (S : List (Nat × Nat)) (Q : Option Value → mM → Prop) (x1 : Int) (w2 : Value) (w3 : Value) (w4 : Value) (w5 : Value) : Prop := Wp d (gb 282 3) [.ref 91, .int (oI x1), w2, w3, w4, w5] [] (bd L I R S) Q
def h282_4 (d L : Nat) (I : Nat → Nat → Int32) (R : Nat → Nat → Option Nat) (S : List (Nat × Nat)) (Q : Option Value → mM → Prop) (x1 : Int) (x2 : Int) (w3 : Value) (w4 : Value) (w5 : Value) : Prop := Wp d (gb 282 4) [.ref 91, .int (oI x1), .int (oI x2), w3, w4, w5] [] (bd L I R S) Q
set_option maxRecDepth 4000 in
theorem e282_1 {d L : Nat} {I : Nat → Nat → Int32} {R : Nat → Nat → Option Nat} {S : List (Nat × Nat)} {Q : Option Value → mM → Prop} {A : aS} (hR : RM I A) {x1 : Int} {w2 : Value} {w3 : Value} {w4 : Value} {w5 : Value} (hE : inR x1 ∧ (((x1 < 10) → (0 ≤ x1 ∧ x1 < 10) ∧ (h282_1 d L (u2 (u2 I 129 x1.toNat (oI 0)) 130 x1.toNat (oI 0)) R S Q (x1 + 1) w2 w3 w4 w5)) ∧ (¬ (x1 < 10) → h282_3 d L I R S Q 0 w2 w3 w4 w5))) : h282_1 d L I R S Q x1 w2 w3 w4 w5 := by
  unfold h282_1
  refine xG gb282.2.1 ?_
  refine s4 (x := x1) rfl ?_
  refine s0 ?_
  obtain ⟨g1, hE⟩ := hE
  refine s64 g1 (inRd rfl) (fun c2 => ?_) (fun c2 => ?_)
  · replace hE := hE.1 c2
    refine s6 (p := 91) rfl ?_
    refine s51 sh91 (by decide) (by decide) rf91_52 ?_
    refine s4 (x := x1) rfl ?_
    refine s0 ?_
    obtain ⟨g3, hE⟩ := hE
    refine s44 sh129 (by decide) g3 rfl ?_
    refine s6 (p := 91) rfl ?_
    refine s51 sh91 (by decide) (by decide) rf91_53 ?_
    refine s4 (x := x1) rfl ?_
    refine s0 ?_
    refine s44 sh130 (by decide) g3 rfl ?_
    refine s10 (x := x1) (ls' := [.ref 91, .int (oI (x1 + 1)), w2, w3, w4, w5]) rfl rfl ?_
    refine s60 ?_
    exact hE
  · replace hE := hE.2 c2
    refine xG gb282.2.2.1 ?_
    refine s0 ?_
    refine s7 (ls' := [.ref 91, .int (oI 0), w2, w3, w4, w5]) (Nat.le_of_ble_eq_true rfl) rfl ?_
    refine s79 ?_
    exact hE
set_option maxRecDepth 4000 in
theorem e282_3 {d L : Nat} {I : Nat → Nat → Int32} {R : Nat → Nat → Option Nat} {S : List (Nat × Nat)} {Q : Option Value → mM → Prop} {A : aS} (hR : RM I A) {x1 : Int} {w2 : Value} {w3 : Value} {w4 : Value} {w5 : Value} (hE : inR x1 ∧ (((x1 < A 91 1) → (0 ≤ x1 ∧ x1 < 40) ∧ ((0 ≤ A 93 x1.toNat ∧ A 93 x1.toNat < 10) ∧ (inR (A 91 0 - 9) ∧ (h282_4 (d + 1) L (u2 I 130 (A 93 x1.toNat).toNat (oI (ld I 130 (A 93 x1.toNat).toNat + 1))) R S Q x1 (max 0 (A 91 0 - 9)) w3 w4 w5)))) ∧ (¬ (x1 < A 91 1) → Q none (bd L I R S)))) : h282_3 (d + 1) L I R S Q x1 w2 w3 w4 w5 := by
  unfold h282_3
  refine xG gb282.2.2.2.1 ?_
  refine s4 (x := x1) rfl ?_
  refine s6 (p := 91) rfl ?_
  refine s50 (v := A 91 1) sh91 (by decide) (by decide) (rdM hR.1 rfl) ?_
  obtain ⟨g1, hE⟩ := hE
  refine s64 g1 (inA hR.1 (a := 91) (k := 1) rfl) (fun c2 => ?_) (fun c2 => ?_)
  · replace hE := hE.1 c2
    refine s6 (p := 91) rfl ?_
    refine s51 sh91 (by decide) (by decide) rf91_53 ?_
    refine s6 (p := 91) rfl ?_
    refine s51 sh91 (by decide) (by decide) rf91_6 ?_
    refine s4 (x := x1) rfl ?_
    obtain ⟨g3, hE⟩ := hE
    refine s40 (v := A 93 x1.toNat) sh93 g3 rfl (rdM hR.1 rfl) ?_
    refine s14 ?_
    obtain ⟨g4, hE⟩ := hE
    refine s40 (v := ld I 130 (A 93 x1.toNat).toNat) sh130 g4 rfl (oI_ld _ _ _) ?_
    refine s0 ?_
    refine s16 ?_
    refine s44 sh130 (by decide) g4 rfl ?_
    refine s0 ?_
    refine s6 (p := 91) rfl ?_
    refine s50 (v := A 91 0) sh91 (by decide) (by decide) ((v2_ne (by decide)).trans (rdM hR.1 rfl)) ?_
    refine s0 ?_
    refine s17 ?_
    obtain ⟨g5, hE⟩ := hE
    refine sI rc346 rfl (Nat.le_of_ble_eq_true rfl) ?_
    refine k346 (inRd rfl) g5 ?_
    refine s7 (ls' := [.ref 91, .int (oI x1), .int (oI (max 0 (A 91 0 - 9))), w3, w4, w5]) (Nat.le_of_ble_eq_true rfl) rfl ?_
    refine s79 ?_
    exact hE
  · replace hE := hE.2 c2
    refine xG gb282.2.2.2.2.2.2.2.2 ?_
    refine s83 ?_
    exact hE
set_option maxRecDepth 4000 in
theorem e282_4 {d L : Nat} {I : Nat → Nat → Int32} {R : Nat → Nat → Option Nat} {S : List (Nat × Nat)} {Q : Option Value → mM → Prop} {A : aS} (hR : RM I A) {x1 : Int} {x2 : Int} {w3 : Value} {w4 : Value} {w5 : Value} (hE : inR x2 ∧ (((A 91 0 < x2) → h282_3 (d + 29) L I R S Q (x1 + 1) (.int (oI x2)) w3 w4 w5) ∧ (¬ (A 91 0 < x2) → WfN A ∧ (inR x1 ∧ (inR (onS A x1 x2 (A 91 0)) ∧ (((onS A x1 x2 (A 91 0) = (-1)) → h282_4 (d + 29) L I R S Q x1 (x2 + 1) (.int (oI (Int.tdiv x2 100))) (.int (oI (onS A x1 x2 (A 91 0)))) w5) ∧ (¬ (onS A x1 x2 (A 91 0) = (-1)) → ((spS A 1 (onS A x1 x2 (A 91 0)) x2 (A 91 0) = true) → h282_4 (d + 29) L I R S Q x1 (x2 + 1) (.int (oI (Int.tdiv x2 100))) (.int (oI (onS A x1 x2 (A 91 0)))) w5) ∧ (¬ (spS A 1 (onS A x1 x2 (A 91 0)) x2 (A 91 0) = true) → WfA A ∧ (WfC A ∧ (WfP A ∧ ((0 ≤ x1 ∧ x1 < A 91 1) ∧ ((0 ≤ Int.tdiv x2 100 ∧ Int.tdiv x2 100 ≤ 7) ∧ (∀ (I15 : mI), (Fr [150, 151] [(91, 87)] I I15) → (RM I15 A) → ∀ (I18 : mI), (Fr [116] [] I15 I18) → (PShut A (Int.tdiv x2 100) (A 91 0) I18) → ∀ (I21 : mI), (Fr [111, 112, 113, 114, 115] [] I18 I21) → (Pnt A x1 (Int.tdiv x2 100) (A 91 0) I21) → (0 ≤ x1 ∧ x1 < 40) ∧ ((0 ≤ A 93 x1.toNat ∧ A 93 x1.toNat < 10) ∧ ((0 ≤ x2 - Int.tdiv x2 100 * 100 ∧ x2 - Int.tdiv x2 100 * 100 < 100) ∧ (inR (stS A x1 (Int.tdiv x2 100) (A 91 0)) ∧ (∃ n26 : Int, PShut A (Int.tdiv x2 100) n26 I21 ∧ Pnt A x1 (Int.tdiv x2 100) n26 I21 ∧ (∀ (I29 : mI), (Fr [150, 151] [(91, 87)] I21 I29) → (RM I29 A) → ∃ n34 : Int, PShut A (Int.tdiv x2 100) n34 I29 ∧ Pnt A x1 (Int.tdiv x2 100) n34 I29 ∧ (∀ (I37 : mI), (Fr [150, 151] [(91, 87)] I29 I37) → (RM I37 A) → h282_4 (d + 29) L (u2 I37 129 (A 93 x1.toNat).toNat (oI (ld I21 129 (A 93 x1.toNat).toNat + ((4 - (qtS A x1 (Int.tdiv x2 100) (x2 - Int.tdiv x2 100 * 100) 0 (Int.tdiv x2 100) (stS A x1 (Int.tdiv x2 100) (A 91 0)) n26)) - (qtS A x1 (Int.tdiv x2 100) (x2 - Int.tdiv x2 100 * 100) 1 (Int.tdiv x2 100) (stS A x1 (Int.tdiv x2 100) (A 91 0)) n34))))) R S Q x1 (x2 + 1) (.int (oI (Int.tdiv x2 100))) (.int (oI (onS A x1 x2 (A 91 0)))) (.int (oI (stS A x1 (Int.tdiv x2 100) (A 91 0))))))))))))))))))))))) : h282_4 (d + 29) L I R S Q x1 x2 w3 w4 w5 := by
  unfold h282_4
  refine xG gb282.2.2.2.2.1 ?_
  refine s4 (x := x2) rfl ?_
  refine s6 (p := 91) rfl ?_
  refine s50 (v := A 91 0) sh91 (by decide) (by decide) (rdM hR.1 rfl) ?_
  obtain ⟨g1, hE⟩ := hE
  refine s65 g1 (inA hR.1 (a := 91) (k := 0) rfl) (fun c2 => ?_) (fun c2 => ?_)
  · replace hE := hE.1 c2
    refine xG gb282.2.2.2.2.2.2.2.1 ?_
    refine s10 (x := x1) (ls' := [.ref 91, .int (oI (x1 + 1)), .int (oI x2), w3, w4, w5]) rfl rfl ?_
    refine s60 ?_
    exact hE
  · replace hE := hE.2 c2
    refine s4 (x := x2) rfl ?_
    refine s0 ?_
    refine s19 g1 ⟨(inRd rfl), by decide⟩ ?_
    refine s7 (ls' := [.ref 91, .int (oI x1), .int (oI x2), .int (oI (Int.tdiv x2 100)), w4, w5]) (Nat.le_of_ble_eq_true rfl) rfl ?_
    refine s6 (p := 91) rfl ?_
    refine s4 (x := x1) rfl ?_
    refine s4 (x := x2) rfl ?_
    refine s6 (p := 91) rfl ?_
    refine s50 (v := A 91 0) sh91 (by decide) (by decide) (rdM hR.1 rfl) ?_
    obtain ⟨g3, hE⟩ := hE
    obtain ⟨g4, hE⟩ := hE
    refine sI rc225 rfl (Nat.le_of_ble_eq_true rfl) ?_
    refine k225 hR.1 g3 g4 g1 (inA hR.1 (a := 91) (k := 0) rfl) ?_
    refine s7 (ls' := [.ref 91, .int (oI x1), .int (oI x2), .int (oI (Int.tdiv x2 100)), .int (oI (onS A x1 x2 (A 91 0))), w5]) (Nat.le_of_ble_eq_true rfl) rfl ?_
    refine s4 (x := onS A x1 x2 (A 91 0)) rfl ?_
    refine s0 ?_
    obtain ⟨g5, hE⟩ := hE
    refine s61 g5 (inRd rfl) (fun c6 => ?_) (fun c6 => ?_)
    · replace hE := hE.1 c6
      refine xG gb282.2.2.2.2.2.2.1 ?_
      refine s10 (x := x2) (ls' := [.ref 91, .int (oI x1), .int (oI (x2 + 1)), .int (oI (Int.tdiv x2 100)), .int (oI (onS A x1 x2 (A 91 0))), w5]) rfl rfl ?_
      refine s60 ?_
      exact hE
    · replace hE := hE.2 c6
      refine s6 (p := 91) rfl ?_
      refine s4 (x := onS A x1 x2 (A 91 0)) rfl ?_
      refine s4 (x := x2) rfl ?_
      refine s6 (p := 91) rfl ?_
      refine s50 (v := A 91 0) sh91 (by decide) (by decide) (rdM hR.1 rfl) ?_
      refine sI rc268 rfl (Nat.le_of_ble_eq_true rfl) ?_
      refine k268 hR.1 g3 g5 g1 (inA hR.1 (a := 91) (k := 0) rfl) (fun c7 => ?_) (fun c7 => ?_)
      · replace hE := hE.1 c7
        refine s67 (inRd rfl) (fun c8 => absurd c8 (by decide)) (fun _ => ?_)
        refine s60 ?_
        refine xG gb282.2.2.2.2.2.2.1 ?_
        refine s10 (x := x2) (ls' := [.ref 91, .int (oI x1), .int (oI (x2 + 1)), .int (oI (Int.tdiv x2 100)), .int (oI (onS A x1 x2 (A 91 0))), w5]) rfl rfl ?_
        refine s60 ?_
        exact hE
      · replace hE := hE.2 c7
        refine s67 (inRd rfl) (fun _ => ?_) (fun c9 => absurd (by decide) c9)
        refine xG gb282.2.2.2.2.2.1 ?_
        refine s6 (p := 91) rfl ?_
        refine s4 (x := x1) rfl ?_
        refine s4 (x := Int.tdiv x2 100) rfl ?_
        refine s6 (p := 91) rfl ?_
        refine s50 (v := A 91 0) sh91 (by decide) (by decide) (rdM hR.1 rfl) ?_
        obtain ⟨g10, hE⟩ := hE
        obtain ⟨g11, hE⟩ := hE
        obtain ⟨g12, hE⟩ := hE
        obtain ⟨g13, hE⟩ := hE
        obtain ⟨g14, hE⟩ := hE
        refine sI rc233 rfl (Nat.le_of_ble_eq_true rfl) ?_
        refine k233 hR g10 g11 g12 g13 g14 (inA hR.1 (a := 91) (k := 0) rfl) (fun I15 q16 q17 => ?_)
        replace hE := hE I15 q16 q17
        refine s7 (ls' := [.ref 91, .int (oI x1), .int (oI x2), .int (oI (Int.tdiv x2 100)), .int (oI (onS A x1 x2 (A 91 0))), .int (oI (stS A x1 (Int.tdiv x2 100) (A 91 0)))]) (Nat.le_of_ble_eq_true rfl) rfl ?_
        refine s6 (p := 91) rfl ?_
        refine s4 (x := Int.tdiv x2 100) rfl ?_
        refine s6 (p := 91) rfl ?_
        refine s50 (v := A 91 0) sh91 (by decide) (by decide) (rdM (q17).1 rfl) ?_
        refine sV rc251 rfl (Nat.le_of_ble_eq_true rfl) ?_
        refine k251R (q17) g10 g14 (inA (q17).1 (a := 91) (k := 0) rfl) (fun I18 q19 q20 => ?_)
        replace hE := hE I18 q19 q20
        refine s6 (p := 91) rfl ?_
        refine s4 (x := x1) rfl ?_
        refine s4 (x := Int.tdiv x2 100) rfl ?_
        refine s6 (p := 91) rfl ?_
        refine s50 (v := A 91 0) sh91 (by decide) (by decide) (rdM (RM.fr (q17) q19 rfl rfl (fun _ => rfl)).1 rfl) ?_
        refine sV rc252 rfl (Nat.le_of_ble_eq_true rfl) ?_
        refine k252R (RM.fr (q17) q19 rfl rfl (fun _ => rfl)) g10 g14 g4 (inA (RM.fr (q17) q19 rfl rfl (fun _ => rfl)).1 (a := 91) (k := 0) rfl) (fun I21 q22 q23 => ?_)
        replace hE := hE I21 q22 q23
        refine s6 (p := 91) rfl ?_
        refine s51 sh91 (by decide) (by decide) rf91_52 ?_
        refine s6 (p := 91) rfl ?_
        refine s51 sh91 (by decide) (by decide) rf91_6 ?_
        refine s4 (x := x1) rfl ?_
        obtain ⟨g24, hE⟩ := hE
        refine s40 (v := A 93 x1.toNat) sh93 g24 rfl (rdM (RM.fr (RM.fr (q17) q19 rfl rfl (fun _ => rfl)) q22 rfl rfl (fun _ => rfl)).1 rfl) ?_
        refine s14 ?_
        obtain ⟨g25, hE⟩ := hE
        refine s40 (v := ld I21 129 (A 93 x1.toNat).toNat) sh129 g25 rfl (oI_ld _ _ _) ?_
        refine s0 ?_
        refine s6 (p := 91) rfl ?_
        refine s4 (x := x1) rfl ?_
        refine s4 (x := Int.tdiv x2 100) rfl ?_
        refine s4 (x := x2) rfl ?_
        refine s0 ?_
        refine s20 g1 ⟨(inRd rfl), by decide⟩ ?_
        refine s0 ?_
        refine s4 (x := Int.tdiv x2 100) rfl ?_
        refine s4 (x := stS A x1 (Int.tdiv x2 100) (A 91 0)) rfl ?_
        obtain ⟨g32, hE⟩ := hE
        obtain ⟨g33, hE⟩ := hE
        obtain ⟨n26, k27, k28, hE⟩ := hE
        refine sI rc253 rfl (Nat.le_of_ble_eq_true rfl) ?_
        refine k253 (RM.fr (RM.fr (q17) q19 rfl rfl (fun _ => rfl)) q22 rfl rfl (fun _ => rfl)) g10 g11 g12 g13 g14 g32 (⟨by decide, by decide⟩ : (0 : Int) ≤ 0 ∧ (0 : Int) ≤ 1) g14 g33 k27 k28 (fun I29 q30 q31 => ?_)
        replace hE := hE I29 q30 q31
        refine s17 ?_
        refine s6 (p := 91) rfl ?_
        refine s4 (x := x1) rfl ?_
        refine s4 (x := Int.tdiv x2 100) rfl ?_
        refine s4 (x := x2) rfl ?_
        refine s0 ?_
        refine s20 g1 ⟨(inRd rfl), by decide⟩ ?_
        refine s0 ?_
        refine s4 (x := Int.tdiv x2 100) rfl ?_
        refine s4 (x := stS A x1 (Int.tdiv x2 100) (A 91 0)) rfl ?_
        obtain ⟨n34, k35, k36, hE⟩ := hE
        refine sI rc253 rfl (Nat.le_of_ble_eq_true rfl) ?_
        refine k253 q31 g10 g11 g12 g13 g14 g32 (⟨by decide, by decide⟩ : (0 : Int) ≤ 1 ∧ (1 : Int) ≤ 1) g14 g33 k35 k36 (fun I37 q38 q39 => ?_)
        replace hE := hE I37 q38 q39
        refine s17 ?_
        refine s16 ?_
        refine s44 sh129 (by decide) g25 rfl ?_
        refine s79 ?_
        refine xG gb282.2.2.2.2.2.2.1 ?_
        refine s10 (x := x2) (ls' := [.ref 91, .int (oI x1), .int (oI (x2 + 1)), .int (oI (Int.tdiv x2 100)), .int (oI (onS A x1 x2 (A 91 0))), .int (oI (stS A x1 (Int.tdiv x2 100) (A 91 0)))]) rfl rfl ?_
        refine s60 ?_
        exact hE
set_option maxRecDepth 4000 in
theorem e282 {d L : Nat} {I : Nat → Nat → Int32} {R : Nat → Nat → Option Nat} {S : List (Nat × Nat)} {K : mM → Prop} {A : aS} (hR : RM I A)  (hE : h282_1 d L I R S (rqV K) 0 mUn mUn mUn mUn) : CallV d 282 [.ref 91] (bd L I R S) K := by
  refine cV_of (ls := [.ref 91, mUn, mUn, mUn, mUn, mUn]) rfl ?_
  refine xG gb282.1 ?_
  refine s0 ?_
  refine s7 (ls' := [.ref 91, .int (oI 0), mUn, mUn, mUn, mUn]) (Nat.le_of_ble_eq_true rfl) rfl ?_
  refine s79 ?_
  exact hE
section
variable {d L : Nat} {I I0 : mI} {R : Nat → Nat → Option Nat} {S : List (Nat × Nat)} {Q : Option Value → mM → Prop} {A : aS} {c day known kind half year subj code : Int}
theorem l284 {w what : Int} (hW : WfA A) (hP : WfP A) (hX : WfX A) (hw : 0 ≤ w ∧ w ≤ 120) (hwh : 0 ≤ what ∧ what ≤ 1) (hR : RM I A) (hQ : Q (some (.int (oI (sitesA A w what)))) (bd L I R S)) : ∀ (n k : Nat), k + n = 2 ^ (A 91 54).toNat → h284_3 (d + 2) L I R S Q w what (siL A w k) k := by
  have x1 := hX.1
  have hp : 2 ^ (A 91 54).toNat ≤ 1024 := Nat.pow_le_pow_right (n := 2) (by decide) (show (A 91 54).toNat ≤ 10 by omega)
  have esh : iShl 1 (A 91 54) = ((2 ^ (A 91 54).toNat : Nat) : Int) := by
    have h := iShl_nat (m := 1) (k := (A 91 54).toNat) (by omega) (by omega)
    rw [show (((A 91 54).toNat : Nat) : Int) = A 91 54 by omega, Nat.one_mul] at h
    exact h
  have ea : sitesA A w what = if siS A w = -1 ∨ what = 1 then siS A w else btS (siS A w) := by
    unfold sitesA; rw [if_neg (by rintro (h | h); exact h hw; exact h hwh)]
  rw [ea] at hQ
  unfold siS at hQ
  intro n
  induction n with
  | zero =>
    intro k hk
    have si := siL_in (A := A) (w := w) k
    rw [show 2 ^ (A 91 54).toNat = k by omega] at hQ
    refine e284_3 hR ?_
    rw [esh]
    refine ⟨⟨by omega, by omega⟩, ⟨by omega, by omega⟩, fun h => by exfalso; omega, fun _ => ⟨⟨by omega, by omega⟩, fun c1 => ?_, fun c1 => ⟨⟨by omega, by omega⟩, fun c2 => ?_, fun c2 => ⟨by omega, ?_⟩⟩⟩⟩
    · rw [if_pos (Or.inl c1)] at hQ; exact hQ
    · rw [if_pos (Or.inr c2)] at hQ; exact hQ
    · rw [if_neg (by rintro (h | h); exact c1 h; exact c2 h)] at hQ; exact hQ
  | succ n ih =>
    intro k hk
    have si := siL_in (A := A) (w := w) k
    have ih := ih (k + 1) (by omega)
    have es : siL A w (k + 1) = if (siL A w k = -1 ∨ btS k < btS (siL A w k)) ∧ reB A k w = true then (k : Int) else siL A w k := rfl
    rw [es] at ih
    have b1 := btS_in (k : Int)
    have b2 := btS_in (siL A w k)
    refine e284_3 hR ?_
    rw [esh]
    refine ⟨⟨by omega, by omega⟩, ⟨by omega, by omega⟩, fun _ => ⟨⟨by omega, by omega⟩, fun c1 => ?_, fun c1 => ⟨by omega, by omega, ⟨by omega, by omega⟩, ⟨by omega, by omega⟩, fun c2 => ?_, fun c2 => ?_⟩⟩, fun h => by exfalso; omega⟩
    · refine ⟨hW, hP, hX, hw, fun c3 => ?_, fun c3 => ?_⟩
      · rw [if_pos ⟨Or.inl c1, c3⟩] at ih; exact ih
      · rw [if_neg (by rintro ⟨-, b⟩; exact c3 b)] at ih; exact ih
    · refine ⟨hW, hP, hX, hw, fun c3 => ?_, fun c3 => ?_⟩
      · rw [if_pos ⟨Or.inr c2, c3⟩] at ih; exact ih
      · rw [if_neg (by rintro ⟨-, b⟩; exact c3 b)] at ih; exact ih
    · rw [if_neg (by rintro ⟨a | a, -⟩; exact c1 a; exact c2 a)] at ih; exact ih
theorem k284 {K : Int32 → mM → Prop} {w what : Int} (hR : RM I A) (hW : WfA A) (hP : WfP A) (hX : WfX A) (h1 : inR w) (h2 : inR what) (hK : ∀ I1, FM I I1 → RM I1 A → K (oI (sitesA A w what)) (bd L I1 R S)) : CallI (d + 2) 284 [.ref 91, .int (oI w), .int (oI what)] (bd L I R S) K := by
  have hK := hK I (FM.refl _) hR
  have no : (¬ (0 ≤ w ∧ w ≤ 120) ∨ ¬ (0 ≤ what ∧ what ≤ 1)) → K (oI (-1)) (bd L I R S) := by
    intro h; unfold sitesA at hK; rw [if_pos h] at hK; exact hK
  refine e284 (d := d + 1) hR ⟨h1, fun c1 => ⟨h2, fun c2 => ?_, fun c2 => no (Or.inr c2)⟩, fun c1 => no (Or.inl c1)⟩
  exact l284 (d := d) hW hP hX c1 c2 hR (rqI_of hK) (2 ^ (A 91 54).toNat) 0 (by omega)
theorem frKQ (ws : List Nat) (os : List (Nat × Nat)) (h : ([111, 112, 113, 114, 115].all fun a => !(ws.contains a || os.any (fun q => q.1 == a))) = true) : ∀ a k, 111 ≤ a ∧ a ≤ 115 → (ws.contains a || os.contains (a, k)) = false := by
  intro a k ha
  have : a ∈ [111, 112, 113, 114, 115] := by
    have : a = 111 ∨ a = 112 ∨ a = 113 ∨ a = 114 ∨ a = 115 := by omega
    rcases this with rfl | rfl | rfl | rfl | rfl <;> decide
  have h9 := List.all_eq_true.mp h a this
  simp only [Bool.not_eq_true', Bool.or_eq_false_iff] at h9
  rw [h9.1, Bool.false_or]
  cases hc : os.contains (a, k) with
  | false => rfl
  | true =>
    have hm := List.contains_iff_mem.mp hc
    have h8 := h9.2
    rw [List.any_eq_false] at h8
    exact absurd (by simp) (h8 _ hm)
theorem l282_4 {c0 : Nat} {d0 : Int} (hW : WfA A) (hC : WfC A) (hP : WfP A) (hc : c0 < (A 91 1).toNat) (hd0 : d0 = max 0 (A 91 0 - 9)) (hK : ∀ I1 w2 w3 w4 w5, Fr [111, 112, 113, 114, 115, 116, 129, 130, 150, 151] [(91, 87)] I0 I1 → RM I1 A → (∀ s : Nat, s < 10 → ld I1 129 s = lackV A (c0 + 1) s ∧ ld I1 130 s = liveV A (c0 + 1) s) → h282_3 (d + 30) L I1 R S Q (c0 + 1 : Nat) w2 w3 w4 w5) : ∀ (n k : Nat) (I : mI) (w3 w4 w5 : Value), k + n = (A 91 0 - d0 + 1).toNat → RM I A → Fr [111, 112, 113, 114, 115, 116, 129, 130, 150, 151] [(91, 87)] I0 I → (∀ s : Nat, s < 10 → ld I 129 s = lackV A c0 s + (if (A 93 c0).toNat = s then lkK A c0 d0 k else 0) ∧ ld I 130 s = liveV A (c0 + 1) s) → h282_4 (d + 30) L I R S Q c0 (d0 + k) w3 w4 w5 := by
  have hW1 := hW.2.1
  have ht := hW.1
  have hs := (hP c0 hc).2.1
  intro n
  induction n with
  | zero =>
    intro k I w3 w4 w5 hk hR hf hv
    refine e282_4 (d := d + 1) hR ⟨⟨by omega, by omega⟩, fun _ => hK I _ _ _ _ hf hR fun s hs => ⟨?_, (hv s hs).2⟩, fun h => by exfalso; omega⟩
    rw [(hv s hs).1]
    show _ = lackV A c0 s + _
    unfold lkC
    rw [← hd0, show (A 91 0 - d0 + 1).toNat = k by omega]
  | succ n ih =>
    intro k I w3 w4 w5 hk hR hf hv
    have oi := onS_in hW (c := (c0 : Int)) (day := d0 + k) (known := A 91 0)
    have hdd : 0 ≤ Int.tdiv (d0 + k) 100 ∧ Int.tdiv (d0 + k) 100 ≤ 7 ∧ 0 ≤ d0 + k - Int.tdiv (d0 + k) 100 * 100 ∧ d0 + k - Int.tdiv (d0 + k) 100 * 100 < 100 := by
      rw [Int.tdiv_eq_ediv_of_nonneg (by omega)]; omega
    have si := stS_in hP (c := (c0 : Int)) (year := Int.tdiv (d0 + k) 100) (known := A 91 0) (by omega)
    have ek : lkK A c0 d0 (k + 1) = lkK A c0 d0 k + lkD A c0 (d0 + k) := rfl
    have stay : ∀ w3 w4 w5, lkD A c0 (d0 + k) = 0 → h282_4 (d + 30) L I R S Q c0 (d0 + k + 1) w3 w4 w5 := by
      intro w3 w4 w5 h0
      have q9 := ih (k + 1) I w3 w4 w5 (by omega) hR hf (fun s hs => by rw [ek, h0, Int.add_zero]; exact hv s hs)
      rw [show (d0 + ((k + 1 : Nat) : Int)) = d0 + k + 1 by omega] at q9
      exact q9
    have tr : inR (A 91 0) := ⟨by omega, by omega⟩
    refine e282_4 (d := d + 1) hR ⟨⟨by omega, by omega⟩, fun h => by exfalso; omega, fun _ => ⟨hW.2.2.2.1, ⟨by omega, by omega⟩, ⟨by omega, by omega⟩, fun c1 => stay _ _ _ ?_, fun c1 => ⟨fun c2 => stay _ _ _ ?_, fun c2 => ⟨hW, hC, hP, by omega, ⟨hdd.1, hdd.2.1⟩, fun I1 hf1 hR1 I2 hf2 hS2 I3 hf3 hN3 => ?_⟩⟩⟩⟩
    · unfold lkD; rw [if_pos (Or.inl c1)]
    · unfold lkD; rw [if_pos (Or.inr c2)]
    · have hS3 := hS2.fr hf3 (fun _ => rfl)
      refine ⟨by omega, ?_⟩
      rw [Int.toNat_natCast]
      refine ⟨by omega, ⟨hdd.2.2.1, hdd.2.2.2⟩, ⟨by omega, by omega⟩, A 91 0, hS3, hN3, fun I4 hf4 hR4 => ⟨A 91 0, hS3.fr hf4 (fun _ => rfl), hN3.fr hf4 hpQ, fun I5 hf5 hR5 => ?_⟩⟩
      have hv3 := (hv (A 93 c0).toNat (by omega)).1
      rw [if_pos rfl] at hv3
      have e129 : ld I3 129 (A 93 c0).toNat = lackV A c0 (A 93 c0).toNat + lkK A c0 d0 k := ((hf3.ld rfl).trans ((hf2.ld rfl).trans (hf1.ld rfl))).trans hv3
      have eD : lkD A c0 (d0 + k) = 4 - qtS A c0 (Int.tdiv (d0 + k) 100) (d0 + k - Int.tdiv (d0 + k) 100 * 100) 0 (Int.tdiv (d0 + k) 100) (stS A c0 (Int.tdiv (d0 + k) 100) (A 91 0)) (A 91 0) - qtS A c0 (Int.tdiv (d0 + k) 100) (d0 + k - Int.tdiv (d0 + k) 100 * 100) 1 (Int.tdiv (d0 + k) 100) (stS A c0 (Int.tdiv (d0 + k) 100) (A 91 0)) (A 91 0) := by
        unfold lkD; rw [if_neg (by rintro (h | h); exact c1 h; exact c2 h)]
      rw [e129, ← eD, Int.add_assoc, ← ek]
      have li := lackV_in hW hC (s := (A 93 c0).toNat) c0
      have lki := lkK_in hC (c := c0) (d0 := d0) (k + 1)
      have vr : inR (lackV A c0 (A 93 c0).toNat + lkK A c0 d0 (k + 1)) := ⟨by omega, by omega⟩
      have fr5 : Fr [111, 112, 113, 114, 115, 116, 150, 151] [(91, 87)] I I5 := (hf1.sub rfl rfl).trans ((hf2.sub rfl rfl).trans ((hf3.sub rfl rfl).trans ((hf4.sub rfl rfl).trans (hf5.sub rfl rfl))))
      have q9 := ih (k + 1) (u2 I5 129 (A 93 c0).toNat (oI (lackV A c0 (A 93 c0).toNat + lkK A c0 d0 (k + 1)))) (.int (oI (Int.tdiv (d0 + k) 100))) (.int (oI (onS A c0 (d0 + k) (A 91 0)))) (.int (oI (stS A c0 (Int.tdiv (d0 + k) 100) (A 91 0)))) (by omega) (hR5.scr rfl) ((hf.trans (fr5.sub rfl rfl)).wr rfl) (fun s hs => ?_)
      · rw [show (d0 + ((k + 1 : Nat) : Int)) = d0 + k + 1 by omega] at q9
        exact q9
      · obtain ⟨a1, a2⟩ := hv s hs
        refine ⟨?_, by rw [ld_o (by decide), fr5.ld rfl]; exact a2⟩
        rw [ld_w vr]
        by_cases e : s = (A 93 c0).toNat
        · rw [if_pos e, if_pos e.symm, e]
        · rw [if_neg e, if_neg (fun h => e h.symm), fr5.ld rfl, a1, if_neg (fun h => e h.symm)]
theorem l282_3 (hW : WfA A) (hC : WfC A) (hP : WfP A) (hK : ∀ I1, Fr [111, 112, 113, 114, 115, 116, 129, 130, 150, 151] [(91, 87)] I0 I1 → RM I1 A → (∀ s : Nat, s < 10 → ld I1 129 s = lackV A (A 91 1).toNat s ∧ ld I1 130 s = liveV A (A 91 1).toNat s) → Q none (bd L I1 R S)) : ∀ (n k : Nat) (I : mI) (w2 w3 w4 w5 : Value), k + n = (A 91 1).toNat → RM I A → Fr [111, 112, 113, 114, 115, 116, 129, 130, 150, 151] [(91, 87)] I0 I → (∀ s : Nat, s < 10 → ld I 129 s = lackV A k s ∧ ld I 130 s = liveV A k s) → h282_3 (d + 30) L I R S Q k w2 w3 w4 w5 := by
  have hW1 := hW.2.1
  have ht := hW.1
  intro n
  induction n with
  | zero =>
    intro k I w2 w3 w4 w5 hk hR hf hv
    refine e282_3 (d := d + 29) hR ⟨⟨by omega, by omega⟩, fun h => by exfalso; omega, fun _ => hK I hf hR ?_⟩
    rw [show k = (A 91 1).toNat by omega] at hv; exact hv
  | succ n ih =>
    intro k I w2 w3 w4 w5 hk hR hf hv
    have hs := (hP k (by omega)).2.1
    have lv := liveV_in (A := A) (s := (A 93 k).toNat) k
    have e130 := (hv (A 93 k).toNat (by omega)).2
    refine e282_3 (d := d + 29) hR ⟨⟨by omega, by omega⟩, fun _ => ⟨by omega, ?_⟩, fun h => by exfalso; omega⟩
    rw [Int.toNat_natCast, e130]
    have vr : inR (liveV A k (A 93 k).toNat + 1) := ⟨by omega, by omega⟩
    refine ⟨by omega, ⟨by omega, by omega⟩, ?_⟩
    have q9 := l282_4 (d := d) (L := L) (R := R) (S := S) (Q := Q) (I0 := I0) (c0 := k) (d0 := max 0 (A 91 0 - 9)) hW hC hP (by omega) rfl (fun I1 w2 w3 w4 w5 h1 h2 h3 => ih (k + 1) I1 w2 w3 w4 w5 (by omega) h2 h1 h3) (A 91 0 - max 0 (A 91 0 - 9) + 1).toNat 0 (u2 I 130 (A 93 k).toNat (oI (liveV A k (A 93 k).toNat + 1))) w3 w4 w5 (by omega) (hR.scr rfl) (hf.wr rfl) (fun s hs => ?_)
    · rw [show (max 0 (A 91 0 - 9) + ((0 : Nat) : Int)) = max 0 (A 91 0 - 9) by omega] at q9
      exact q9
    · obtain ⟨a1, a2⟩ := hv s hs
      refine ⟨?_, ?_⟩
      · rw [ld_o (by decide), a1]; unfold lkK; split <;> omega
      · rw [ld_w vr]
        show _ = liveV A k s + _
        by_cases e : s = (A 93 k).toNat
        · rw [if_pos e, if_pos e.symm, e]
        · rw [if_neg e, if_neg (fun h => e h.symm), a2, Int.add_zero]
theorem l282_1 (hW : WfA A) (hC : WfC A) (hP : WfP A) (hK : ∀ I1, Fr [111, 112, 113, 114, 115, 116, 129, 130, 150, 151] [(91, 87)] I0 I1 → RM I1 A → (∀ s : Nat, s < 10 → ld I1 129 s = lackV A (A 91 1).toNat s ∧ ld I1 130 s = liveV A (A 91 1).toNat s) → Q none (bd L I1 R S)) : ∀ (n k : Nat) (I : mI) (w2 w3 w4 w5 : Value), k + n = 10 → RM I A → Fr [111, 112, 113, 114, 115, 116, 129, 130, 150, 151] [(91, 87)] I0 I → (∀ s : Nat, s < k → ld I 129 s = 0 ∧ ld I 130 s = 0) → h282_1 (d + 30) L I R S Q k w2 w3 w4 w5 := by
  intro n
  induction n with
  | zero =>
    intro k I w2 w3 w4 w5 hk hR hf hv
    refine e282_1 hR ⟨⟨by omega, by omega⟩, fun h => by exfalso; omega, fun _ => ?_⟩
    exact l282_3 (d := d) hW hC hP hK (A 91 1).toNat 0 I _ _ _ _ (by omega) hR hf (fun s hs => hv s (by omega))
  | succ n ih =>
    intro k I w2 w3 w4 w5 hk hR hf hv
    refine e282_1 hR ⟨⟨by omega, by omega⟩, fun _ => ⟨by omega, ?_⟩, fun h => by exfalso; omega⟩
    rw [Int.toNat_natCast]
    refine ih (k + 1) _ w2 w3 w4 w5 (by omega) ((hR.scr rfl).scr rfl) ((hf.wr rfl).wr rfl) (fun s hs => ?_)
    rw [ld_o (by decide), ld_w (inRd rfl), ld_w (inRd rfl)]
    by_cases e : s = k
    · rw [if_pos e, if_pos e]; exact ⟨rfl, rfl⟩
    · rw [if_neg e, if_neg e, ld_o (by decide)]; exact hv s (by omega)
theorem k282 {K : mM → Prop} (hR : RM I A) (hW : WfA A) (hC : WfC A) (hP : WfP A) (hK : ∀ I1, Fr [111, 112, 113, 114, 115, 116, 129, 130, 150, 151] [(91, 87)] I I1 → RM I1 A → (∀ s : Nat, s < 10 → ld I1 129 s = lackV A (A 91 1).toNat s ∧ ld I1 130 s = liveV A (A 91 1).toNat s) → K (bd L I1 R S)) : CallV (d + 30) 282 [.ref 91] (bd L I R S) K :=
  e282 hR (l282_1 (d := d) hW hC hP (fun I1 h1 h2 h3 => rqV_of (hK I1 h1 h2 h3)) 10 0 I mUn mUn mUn mUn rfl hR (Fr.refl _ _ _) (fun s hs => by omega))
end
