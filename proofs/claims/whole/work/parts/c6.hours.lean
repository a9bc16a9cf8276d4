def h171_1 (d L : Nat) (I : Nat → Nat → Int32) (R : Nat → Nat → Option Nat) (S : List (Nat × Nat)) (Q : Option Value → mM → Prop) (x1 : Int) (x2 : Int) (w3 : Value) (w4 : Value) (w5 : Value) : Prop := Wp d (gb 171 1) [.ref 77, .int (oI x1), .int (oI x2), w3, w4, w5] [] (bd L I R S) Q
def h171_2 (d L : Nat) (I : Nat → Nat → Int32) (R : Nat → Nat → Option Nat) (S : List (Nat × Nat)) (Q : Option Value → mM → Prop) (x1 : Int) (x2 : Int) (x3 : Int) (x4 : Int) (x5 : Int) : Prop := Wp d (gb 171 2) [.ref 77, .int (oI x1), .int (oI x2), .int (oI x3), .int (oI x4), .int (oI x5)] [] (bd L I R S) Q
set_option maxRecDepth 4000 in
theorem e171_1 {d L : Nat} {I : Nat → Nat → Int32} {R : Nat → Nat → Option Nat} {S : List (Nat × Nat)} {Q : Option Value → mM → Prop} {A : aS} (hC : RC R S I A) {x1 : Int} {x2 : Int} {w3 : Value} {w4 : Value} {w5 : Value} (hE : inR x2 ∧ (((x2 < 6) → WfC A ∧ ((0 ≤ x1 ∧ x1 ≤ 7) ∧ (h171_2 (d + 26) L I R S Q x1 x2 (iShl 1 x2) (tlS A zE x1 142 (iShl 1 x2) 1) 0))) ∧ (¬ (x2 < 6) → Q none (bd L I R S)))) : h171_1 (d + 26) L I R S Q x1 x2 w3 w4 w5 := by
  unfold h171_1
  refine xG gb171.2.1 ?_
  refine s4 (x := x2) rfl ?_
  refine s0 ?_
  obtain ⟨g1, hE⟩ := hE
  refine s64 g1 (inRd rfl) (fun c2 => ?_) (fun c2 => ?_)
  · replace hE := hE.1 c2
    refine s0 ?_
    refine s4 (x := x2) rfl ?_
    refine s22 ?_
    refine s7 (ls' := [.ref 77, .int (oI x1), .int (oI x2), .int (oI (iShl 1 x2)), w4, w5]) (Nat.le_of_ble_eq_true rfl) rfl ?_
    refine s6 (p := 77) rfl ?_
    refine s51 sh77 (by decide) (by decide) rf77_1 ?_
    refine s4 (x := x1) rfl ?_
    refine s0 ?_
    refine s4 (x := iShl 1 x2) rfl ?_
    refine s0 ?_
    refine sI rc96 rfl (Nat.le_of_ble_eq_true rfl) ?_
    refine cI_of (ls := [.ref 43, .int (oI x1), .int (oI 142), .int (oI (iShl 1 x2)), .int (oI 1)]) rfl ?_
    refine xG gb96 ?_
    refine s6 (p := 43) rfl ?_
    refine s4 (x := x1) rfl ?_
    refine s4 (x := 142) rfl ?_
    refine s4 (x := iShl 1 x2) rfl ?_
    refine s6 (p := 43) rfl ?_
    refine s51 sh43 (by decide) (by decide) rf43_13 ?_
    refine s4 (x := 1) rfl ?_
    obtain ⟨g3, hE⟩ := hE
    obtain ⟨g4, hE⟩ := hE
    refine sI rc97 rfl (Nat.le_of_ble_eq_true rfl) ?_
    refine k97a58 hC g3 (RC.zE hC) g4 (⟨by decide, by decide⟩ : (130 : Int) ≤ 142 ∧ (142 : Int) ≤ 144) (inRd rfl) ?_
    refine s80 ?_
    refine rqI_of ?_
    refine s7 (ls' := [.ref 77, .int (oI x1), .int (oI x2), .int (oI (iShl 1 x2)), .int (oI (tlS A zE x1 142 (iShl 1 x2) 1)), w5]) (Nat.le_of_ble_eq_true rfl) rfl ?_
    refine s0 ?_
    refine s7 (ls' := [.ref 77, .int (oI x1), .int (oI x2), .int (oI (iShl 1 x2)), .int (oI (tlS A zE x1 142 (iShl 1 x2) 1)), .int (oI 0)]) (Nat.le_of_ble_eq_true rfl) rfl ?_
    refine s79 ?_
    exact hE
  · replace hE := hE.2 c2
    refine xG gb171.2.2.2.2 ?_
    refine s83 ?_
    exact hE
set_option maxRecDepth 4000 in
theorem e171_2 {d L : Nat} {I : Nat → Nat → Int32} {R : Nat → Nat → Option Nat} {S : List (Nat × Nat)} {Q : Option Value → mM → Prop} {A : aS} (hC : RC R S I A) {x1 : Int} {x2 : Int} {x3 : Int} {x4 : Int} {x5 : Int} (hE : inR x5 ∧ (inR x3 ∧ (((x5 < x3) → (0 ≤ x5 ∧ x5 < 64) ∧ ((0 ≤ x3 + x5 ∧ x3 + x5 < 64) ∧ (h171_2 d L (u2 I 81 (x3 + x5).toNat (oI (x4 + (ld I 81 x5.toNat)))) R S Q x1 x2 x3 x4 (x5 + 1)))) ∧ (¬ (x5 < x3) → h171_1 d L I R S Q x1 (x2 + 1) (.int (oI x3)) (.int (oI x4)) (.int (oI x5)))))) : h171_2 d L I R S Q x1 x2 x3 x4 x5 := by
  unfold h171_2
  refine xG gb171.2.2.1 ?_
  refine s4 (x := x5) rfl ?_
  refine s4 (x := x3) rfl ?_
  obtain ⟨g1, hE⟩ := hE
  obtain ⟨g2, hE⟩ := hE
  refine s64 g1 g2 (fun c3 => ?_) (fun c3 => ?_)
  · replace hE := hE.1 c3
    refine s6 (p := 77) rfl ?_
    refine s51 sh77 (by decide) (by decide) rf77_6 ?_
    refine s4 (x := x3) rfl ?_
    refine s4 (x := x5) rfl ?_
    refine s16 ?_
    refine s4 (x := x4) rfl ?_
    refine s6 (p := 77) rfl ?_
    refine s51 sh77 (by decide) (by decide) rf77_6 ?_
    refine s4 (x := x5) rfl ?_
    obtain ⟨g4, hE⟩ := hE
    refine s40 (v := ld I 81 x5.toNat) sh81 g4 rfl (oI_ld _ _ _) ?_
    refine s16 ?_
    obtain ⟨g5, hE⟩ := hE
    refine s44 sh81 (by decide) g5 rfl ?_
    refine s10 (x := x5) (ls' := [.ref 77, .int (oI x1), .int (oI x2), .int (oI x3), .int (oI x4), .int (oI (x5 + 1))]) rfl rfl ?_
    refine s60 ?_
    exact hE
  · replace hE := hE.2 c3
    refine xG gb171.2.2.2.1 ?_
    refine s10 (x := x2) (ls' := [.ref 77, .int (oI x1), .int (oI (x2 + 1)), .int (oI x3), .int (oI x4), .int (oI x5)]) rfl rfl ?_
    refine s60 ?_
    exact hE
set_option maxRecDepth 4000 in
theorem e171 {d L : Nat} {I : Nat → Nat → Int32} {R : Nat → Nat → Option Nat} {S : List (Nat × Nat)} {K : mM → Prop} {A : aS} (hC : RC R S I A) {x1 : Int} (hE : h171_1 d L I R S (rqV K) x1 0 mUn mUn mUn) : CallV d 171 [.ref 77, .int (oI x1)] (bd L I R S) K := by
  refine cV_of (ls := [.ref 77, .int (oI x1), mUn, mUn, mUn, mUn]) rfl ?_
  refine xG gb171.1 ?_
  refine s0 ?_
  refine s7 (ls' := [.ref 77, .int (oI x1), .int (oI 0), mUn, mUn, mUn]) (Nat.le_of_ble_eq_true rfl) rfl ?_
  refine s79 ?_
  exact hE
def h174_1 (d L : Nat) (I : Nat → Nat → Int32) (R : Nat → Nat → Option Nat) (S : List (Nat × Nat)) (Q : Option Value → mM → Prop) (x1 : Int) (x2 : Int) (x3 : Int) (x4 : Int) : Prop := Wp d (gb 174 1) [.ref 77, .int (oI x1), .int (oI x2), .int (oI x3), .int (oI x4)] [] (bd L I R S) Q
set_option maxRecDepth 4000 in
theorem e174_1 {d L : Nat} {I : Nat → Nat → Int32} {R : Nat → Nat → Option Nat} {S : List (Nat × Nat)} {Q : Option Value → mM → Prop} {A : aS} (hC : RC R S I A) {x1 : Int} {x2 : Int} {x3 : Int} {x4 : Int} (hE : inR x4 ∧ (((x4 < 6) → ((iAnd (iShr x1 x4) 1 = 0) → h174_1 d L I R S Q x1 x2 x3 (x4 + 1)) ∧ (¬ (iAnd (iShr x1 x4) 1 = 0) → (0 ≤ (x4 * 7) + x2 ∧ (x4 * 7) + x2 < 42) ∧ (h174_1 d L I R S Q x1 x2 (x3 + (ld I 84 ((x4 * 7) + x2).toNat)) (x4 + 1)))) ∧ (¬ (x4 < 6) → Q (some (.int (oI x3))) (bd L I R S)))) : h174_1 d L I R S Q x1 x2 x3 x4 := by
  unfold h174_1
  refine xG gb174.2.1 ?_
  refine s4 (x := x4) rfl ?_
  refine s0 ?_
  obtain ⟨g1, hE⟩ := hE
  refine s64 g1 (inRd rfl) (fun c2 => ?_) (fun c2 => ?_)
  · replace hE := hE.1 c2
    refine s4 (x := x1) rfl ?_
    refine s4 (x := x4) rfl ?_
    refine s23 ?_
    refine s0 ?_
    refine s25 ?_
    refine s67 (inR_toInt _) (fun c3 => ?_) (fun c3 => ?_)
    · replace hE := hE.1 c3
      refine xG gb174.2.2.1 ?_
      refine s10 (x := x4) (ls' := [.ref 77, .int (oI x1), .int (oI x2), .int (oI x3), .int (oI (x4 + 1))]) rfl rfl ?_
      refine s60 ?_
      exact hE
    · replace hE := hE.2 c3
      refine s4 (x := x3) rfl ?_
      refine s6 (p := 77) rfl ?_
      refine s51 sh77 (by decide) (by decide) rf77_9 ?_
      refine s4 (x := x4) rfl ?_
      refine s0 ?_
      refine s18 ?_
      refine s4 (x := x2) rfl ?_
      refine s16 ?_
      obtain ⟨g4, hE⟩ := hE
      refine s40 (v := ld I 84 ((x4 * 7) + x2).toNat) sh84 g4 rfl (oI_ld _ _ _) ?_
      refine s16 ?_
      refine s7 (ls' := [.ref 77, .int (oI x1), .int (oI x2), .int (oI (x3 + (ld I 84 ((x4 * 7) + x2).toNat))), .int (oI x4)]) (Nat.le_of_ble_eq_true rfl) rfl ?_
      refine s79 ?_
      refine xG gb174.2.2.1 ?_
      refine s10 (x := x4) (ls' := [.ref 77, .int (oI x1), .int (oI x2), .int (oI (x3 + (ld I 84 ((x4 * 7) + x2).toNat))), .int (oI (x4 + 1))]) rfl rfl ?_
      refine s60 ?_
      exact hE
  · replace hE := hE.2 c2
    refine xG gb174.2.2.2 ?_
    refine s4 (x := x3) rfl ?_
    refine s80 ?_
    exact hE
set_option maxRecDepth 4000 in
theorem e174 {d L : Nat} {I : Nat → Nat → Int32} {R : Nat → Nat → Option Nat} {S : List (Nat × Nat)} {K : Int32 → mM → Prop} {A : aS} (hC : RC R S I A) {x1 : Int} (hE : (0 ≤ x1 ∧ x1 < 1024) ∧ (h174_1 (d + 1) L I R S (rqI K) x1 (btS x1) 0 0)) : CallI (d + 1) 174 [.ref 77, .int (oI x1)] (bd L I R S) K := by
  refine cI_of (ls := [.ref 77, .int (oI x1), mUn, mUn, mUn]) rfl ?_
  refine xG gb174.1 ?_
  refine s4 (x := x1) rfl ?_
  obtain ⟨g1, hE⟩ := hE
  refine sI rc342 rfl (Nat.le_of_ble_eq_true rfl) ?_
  refine k342 g1 ?_
  refine s7 (ls' := [.ref 77, .int (oI x1), .int (oI (btS x1)), mUn, mUn]) (Nat.le_of_ble_eq_true rfl) rfl ?_
  refine s0 ?_
  refine s7 (ls' := [.ref 77, .int (oI x1), .int (oI (btS x1)), .int (oI 0), mUn]) (Nat.le_of_ble_eq_true rfl) rfl ?_
  refine s0 ?_
  refine s7 (ls' := [.ref 77, .int (oI x1), .int (oI (btS x1)), .int (oI 0), .int (oI 0)]) (Nat.le_of_ble_eq_true rfl) rfl ?_
  refine s79 ?_
  exact hE
def h173_1 (d L : Nat) (I : Nat → Nat → Int32) (R : Nat → Nat → Option Nat) (S : List (Nat × Nat)) (Q : Option Value → mM → Prop) (x1 : Int) (x2 : Int) (x3 : Int) (x4 : Int) (w5 : Value) (w6 : Value) (w7 : Value) : Prop := Wp d (gb 173 1) [.ref 77, .int (oI x1), .int (oI x2), .int (oI x3), .int (oI x4), w5, w6, w7] [] (bd L I R S) Q
def h173_2 (d L : Nat) (I : Nat → Nat → Int32) (R : Nat → Nat → Option Nat) (S : List (Nat × Nat)) (Q : Option Value → mM → Prop) (x1 : Int) (x2 : Int) (x3 : Int) (x4 : Int) (x5 : Int) (x6 : Int) (w7 : Value) : Prop := Wp d (gb 173 2) [.ref 77, .int (oI x1), .int (oI x2), .int (oI x3), .int (oI x4), .int (oI x5), .int (oI x6), w7] [] (bd L I R S) Q
set_option maxRecDepth 4000 in
theorem e173_1 {d L : Nat} {I : Nat → Nat → Int32} {R : Nat → Nat → Option Nat} {S : List (Nat × Nat)} {Q : Option Value → mM → Prop} {A : aS} (hC : RC R S I A) {x1 : Int} {x2 : Int} {x3 : Int} {x4 : Int} {w5 : Value} {w6 : Value} {w7 : Value} (hE : inR x4 ∧ (((6 < x4) → Q none (bd L I R S)) ∧ (¬ (6 < x4) → (0 ≤ ((x2 * 16) + 135) - 130 ∧ ((x2 * 16) + 135) - 130 < 128) ∧ (h173_2 (d + 1) L (u2 I 60 7 (oI x4)) R S Q x1 x2 x3 x4 0 (ld I 57 (((x2 * 16) + 135) - 130).toNat) w7)))) : h173_1 (d + 1) L I R S Q x1 x2 x3 x4 w5 w6 w7 := by
  unfold h173_1
  refine xG gb173.2.1 ?_
  refine s4 (x := x4) rfl ?_
  refine s0 ?_
  obtain ⟨g1, hE⟩ := hE
  refine s65 g1 (inRd rfl) (fun c2 => ?_) (fun c2 => ?_)
  · replace hE := hE.1 c2
    refine xG gb173.2.2.2.2.2 ?_
    refine s83 ?_
    exact hE
  · replace hE := hE.2 c2
    refine s6 (p := 77) rfl ?_
    refine s51 sh77 (by decide) (by decide) rf77_2 ?_
    refine s51 sh59 (by decide) (by decide) rf59_0 ?_
    refine s0 ?_
    refine s4 (x := x4) rfl ?_
    refine s44 sh60 (by decide) (⟨by decide, by decide⟩ : (0 : Int) ≤ 7 ∧ (7 : Int) < 12) rfl ?_
    refine s0 ?_
    refine s7 (ls' := [.ref 77, .int (oI x1), .int (oI x2), .int (oI x3), .int (oI x4), .int (oI 0), w6, w7]) (Nat.le_of_ble_eq_true rfl) rfl ?_
    refine s6 (p := 77) rfl ?_
    refine s51 sh77 (by decide) (by decide) rf77_1 ?_
    refine s4 (x := x2) rfl ?_
    refine s0 ?_
    refine sI rc99 rfl (Nat.le_of_ble_eq_true rfl) ?_
    refine cI_of (ls := [.ref 43, .int (oI x2), .int (oI 135)]) rfl ?_
    refine xG gb99 ?_
    refine s6 (p := 43) rfl ?_
    refine s51 sh43 (by decide) (by decide) rf43_12 ?_
    refine s4 (x := x2) rfl ?_
    refine s0 ?_
    refine s18 ?_
    refine s4 (x := 135) rfl ?_
    refine s16 ?_
    refine s0 ?_
    refine s17 ?_
    obtain ⟨g3, hE⟩ := hE
    refine s40 (v := ld I 57 (((x2 * 16) + 135) - 130).toNat) sh57 g3 rfl ((v2_ne (by decide)).trans (oI_ld _ _ _)) ?_
    refine s80 ?_
    refine rqI_of ?_
    refine s7 (ls' := [.ref 77, .int (oI x1), .int (oI x2), .int (oI x3), .int (oI x4), .int (oI 0), .int (oI (ld I 57 (((x2 * 16) + 135) - 130).toNat)), w7]) (Nat.le_of_ble_eq_true rfl) rfl ?_
    refine s79 ?_
    exact hE
set_option maxRecDepth 4000 in
theorem e173_2 {d L : Nat} {I : Nat → Nat → Int32} {R : Nat → Nat → Option Nat} {S : List (Nat × Nat)} {Q : Option Value → mM → Prop} {A : aS} (hC : RC R S I A) {x1 : Int} {x2 : Int} {x3 : Int} {x4 : Int} {x5 : Int} {x6 : Int} {w7 : Value} (hE : inR x6 ∧ (inR x3 ∧ (((x6 < x3) → (0 ≤ x6 ∧ x6 < 480) ∧ (((R 56 x6.toNat = none) → h173_2 (d + 1) L I R S Q x1 x2 x3 x4 x5 (x6 + 1) .null) ∧ (∀ p5 : Nat, (R 56 x6.toNat = some p5) → obJ S p5 15 8 ∧ (((ld I p5 3 = 133) → inR x1 ∧ (((ld I p5 2 = x1) → ∃ (b11 : Bool), R190 d L I R S p5 b11 ∧ (((bI b11 = 0) → h173_2 (d + 1) L I R S Q x1 x2 x3 x4 x5 (x6 + 1) (.ref p5)) ∧ (¬ (bI b11 = 0) → h173_2 (d + 1) L I R S Q x1 x2 x3 x4 (x5 + (ld I p5 4)) (x6 + 1) (.ref p5)))) ∧ (¬ (ld I p5 2 = x1) → h173_2 (d + 1) L I R S Q x1 x2 x3 x4 x5 (x6 + 1) (.ref p5)))) ∧ (¬ (ld I p5 3 = 133) → h173_2 (d + 1) L I R S Q x1 x2 x3 x4 x5 (x6 + 1) (.ref p5)))))) ∧ (¬ (x6 < x3) → (0 ≤ (x1 * 7) + x4 ∧ (x1 * 7) + x4 < 42) ∧ (h173_1 (d + 1) L (u2 I 84 ((x1 * 7) + x4).toNat (oI x5)) R S Q x1 x2 x3 (x4 + 1) (.int (oI x5)) (.int (oI x6)) w7))))) : h173_2 (d + 1) L I R S Q x1 x2 x3 x4 x5 x6 w7 := by
  unfold h173_2
  refine xG gb173.2.2.1 ?_
  refine s4 (x := x6) rfl ?_
  refine s4 (x := x3) rfl ?_
  obtain ⟨g1, hE⟩ := hE
  obtain ⟨g2, hE⟩ := hE
  refine s64 g1 g2 (fun c3 => ?_) (fun c3 => ?_)
  · replace hE := hE.1 c3
    refine s6 (p := 77) rfl ?_
    refine s51 sh77 (by decide) (by decide) rf77_1 ?_
    refine s51 sh43 (by decide) (by decide) rf43_11 ?_
    refine s4 (x := x6) rfl ?_
    obtain ⟨g4, hE⟩ := hE
    refine s43 (o := R 56 x6.toNat) sh56 g4 rfl (rfN rfl) ?_
    refine s9o (ls' := [.ref 77, .int (oI x1), .int (oI x2), .int (oI x3), .int (oI x4), .int (oI x5), .int (oI x6), vR (R 56 x6.toNat)]) (Nat.le_of_ble_eq_true rfl) rfl ?_
    refine s6o (o := R 56 x6.toNat) rfl ?_
    refine s73o (fun n6 => ?_) (fun p5 n6 => ?_)
    · replace hE := hE.1 n6
      (try rw [n6])
      show Wp _ _ [.ref 77, .int (oI x1), .int (oI x2), .int (oI x3), .int (oI x4), .int (oI x5), .int (oI x6), .null] [] _ _
      refine xG gb173.2.2.2.1 ?_
      refine s10 (x := x6) (ls' := [.ref 77, .int (oI x1), .int (oI x2), .int (oI x3), .int (oI x4), .int (oI x5), .int (oI (x6 + 1)), .null]) rfl rfl ?_
      refine s60 ?_
      exact hE
    · replace hE := hE.2 p5 n6
      (try rw [n6])
      show Wp _ _ [.ref 77, .int (oI x1), .int (oI x2), .int (oI x3), .int (oI x4), .int (oI x5), .int (oI x6), .ref p5] [] _ _
      refine s6 (p := p5) rfl ?_
      obtain ⟨o7, hE⟩ := hE
      refine s50 (v := ld I p5 3) o7.sh o7.sp (by decide) (oI_ld _ _ _) ?_
      refine s0 ?_
      refine s62 (ld_inR _ _ _) (inRd rfl) (fun c8 => ?_) (fun c8 => ?_)
      · replace hE := hE.1 c8
        refine s6 (p := p5) rfl ?_
        refine s50 (v := ld I p5 2) o7.sh o7.sp (by decide) (oI_ld _ _ _) ?_
        refine s4 (x := x1) rfl ?_
        obtain ⟨g9, hE⟩ := hE
        refine s62 (ld_inR _ _ _) g9 (fun c10 => ?_) (fun c10 => ?_)
        · replace hE := hE.1 c10
          refine s6 (p := p5) rfl ?_
          refine s6 (p := 77) rfl ?_
          refine s51 sh77 (by decide) (by decide) rf77_2 ?_
          refine s51 sh59 (by decide) (by decide) rf59_0 ?_
          obtain ⟨b11, r12, hE⟩ := hE
          refine sI (rcvO o7 rfl rfl) rfl (Nat.le_of_ble_eq_true rfl) ?_
          refine r12 _ ?_
          refine s67 (bI_in _) (fun c13 => ?_) (fun c13 => ?_)
          · replace hE := hE.1 c13
            refine xG gb173.2.2.2.1 ?_
            refine s10 (x := x6) (ls' := [.ref 77, .int (oI x1), .int (oI x2), .int (oI x3), .int (oI x4), .int (oI x5), .int (oI (x6 + 1)), .ref p5]) rfl rfl ?_
            refine s60 ?_
            exact hE
          · replace hE := hE.2 c13
            refine s4 (x := x5) rfl ?_
            refine s6 (p := p5) rfl ?_
            refine s50 (v := ld I p5 4) o7.sh o7.sp (by decide) (oI_ld _ _ _) ?_
            refine s16 ?_
            refine s7 (ls' := [.ref 77, .int (oI x1), .int (oI x2), .int (oI x3), .int (oI x4), .int (oI (x5 + (ld I p5 4))), .int (oI x6), .ref p5]) (Nat.le_of_ble_eq_true rfl) rfl ?_
            refine s79 ?_
            refine xG gb173.2.2.2.1 ?_
            refine s10 (x := x6) (ls' := [.ref 77, .int (oI x1), .int (oI x2), .int (oI x3), .int (oI x4), .int (oI (x5 + (ld I p5 4))), .int (oI (x6 + 1)), .ref p5]) rfl rfl ?_
            refine s60 ?_
            exact hE
        · replace hE := hE.2 c10
          refine xG gb173.2.2.2.1 ?_
          refine s10 (x := x6) (ls' := [.ref 77, .int (oI x1), .int (oI x2), .int (oI x3), .int (oI x4), .int (oI x5), .int (oI (x6 + 1)), .ref p5]) rfl rfl ?_
          refine s60 ?_
          exact hE
      · replace hE := hE.2 c8
        refine xG gb173.2.2.2.1 ?_
        refine s10 (x := x6) (ls' := [.ref 77, .int (oI x1), .int (oI x2), .int (oI x3), .int (oI x4), .int (oI x5), .int (oI (x6 + 1)), .ref p5]) rfl rfl ?_
        refine s60 ?_
        exact hE
  · replace hE := hE.2 c3
    refine xG gb173.2.2.2.2.1 ?_
    refine s6 (p := 77) rfl ?_
    refine s51 sh77 (by decide) (by decide) rf77_9 ?_
    refine s4 (x := x1) rfl ?_
    refine s0 ?_
    refine s18 ?_
    refine s4 (x := x4) rfl ?_
    refine s16 ?_
    refine s4 (x := x5) rfl ?_
    obtain ⟨g14, hE⟩ := hE
    refine s44 sh84 (by decide) g14 rfl ?_
    refine s10 (x := x4) (ls' := [.ref 77, .int (oI x1), .int (oI x2), .int (oI x3), .int (oI (x4 + 1)), .int (oI x5), .int (oI x6), w7]) rfl rfl ?_
    refine s60 ?_
    exact hE
set_option maxRecDepth 4000 in
theorem e173 {d L : Nat} {I : Nat → Nat → Int32} {R : Nat → Nat → Option Nat} {S : List (Nat × Nat)} {K : mM → Prop} {A : aS} (hC : RC R S I A) {x1 : Int} {x2 : Int} (hE : (0 ≤ (((x2 * 16) + 135) - 130) + 1 ∧ (((x2 * 16) + 135) - 130) + 1 < 128) ∧ (h173_1 (d + 1) L I R S (rqV K) x1 x2 (ld I 57 ((((x2 * 16) + 135) - 130) + 1).toNat) 1 mUn mUn mUn)) : CallV (d + 1) 173 [.ref 77, .int (oI x1), .int (oI x2)] (bd L I R S) K := by
  refine cV_of (ls := [.ref 77, .int (oI x1), .int (oI x2), mUn, mUn, mUn, mUn, mUn]) rfl ?_
  refine xG gb173.1 ?_
  refine s6 (p := 77) rfl ?_
  refine s51 sh77 (by decide) (by decide) rf77_1 ?_
  refine s4 (x := x2) rfl ?_
  refine s0 ?_
  refine sI rc98 rfl (Nat.le_of_ble_eq_true rfl) ?_
  refine cI_of (ls := [.ref 43, .int (oI x2), .int (oI 135)]) rfl ?_
  refine xG gb98 ?_
  refine s6 (p := 43) rfl ?_
  refine s51 sh43 (by decide) (by decide) rf43_12 ?_
  refine s4 (x := x2) rfl ?_
  refine s0 ?_
  refine s18 ?_
  refine s4 (x := 135) rfl ?_
  refine s16 ?_
  refine s0 ?_
  refine s17 ?_
  refine s0 ?_
  refine s16 ?_
  obtain ⟨g1, hE⟩ := hE
  refine s40 (v := ld I 57 ((((x2 * 16) + 135) - 130) + 1).toNat) sh57 g1 rfl (oI_ld _ _ _) ?_
  refine s80 ?_
  refine rqI_of ?_
  refine s7 (ls' := [.ref 77, .int (oI x1), .int (oI x2), .int (oI (ld I 57 ((((x2 * 16) + 135) - 130) + 1).toNat)), mUn, mUn, mUn, mUn]) (Nat.le_of_ble_eq_true rfl) rfl ?_
  refine s0 ?_
  refine s7 (ls' := [.ref 77, .int (oI x1), .int (oI x2), .int (oI (ld I 57 ((((x2 * 16) + 135) - 130) + 1).toNat)), .int (oI 1), mUn, mUn, mUn]) (Nat.le_of_ble_eq_true rfl) rfl ?_
  refine s79 ?_
  exact hE
def h172_1 (d L : Nat) (I : Nat → Nat → Int32) (R : Nat → Nat → Option Nat) (S : List (Nat × Nat)) (Q : Option Value → mM → Prop) (x1 : Int) (x2 : Int) (w3 : Value) (x4 : Int) (x5 : Int) (x6 : Int) (w7 : Value) : Prop := Wp d (gb 172 1) [.ref 77, .int (oI x1), .int (oI x2), w3, .int (oI x4), .int (oI x5), .int (oI x6), w7] [] (bd L I R S) Q
def h172_4 (d L : Nat) (I : Nat → Nat → Int32) (R : Nat → Nat → Option Nat) (S : List (Nat × Nat)) (Q : Option Value → mM → Prop) (x1 : Int) (x2 : Int) (w3 : Value) (w4 : Value) (w5 : Value) (x6 : Int) (w7 : Value) : Prop := Wp d (gb 172 4) [.ref 77, .int (oI x1), .int (oI x2), w3, w4, w5, .int (oI x6), w7] [] (bd L I R S) Q
def h172_6 (d L : Nat) (I : Nat → Nat → Int32) (R : Nat → Nat → Option Nat) (S : List (Nat × Nat)) (Q : Option Value → mM → Prop) (w1 : Value) (w2 : Value) (w3 : Value) (w4 : Value) (w5 : Value) (x6 : Int) (w7 : Value) : Prop := Wp d (gb 172 6) [.ref 77, w1, w2, w3, w4, w5, .int (oI x6), w7] [] (bd L I R S) Q
set_option maxRecDepth 4000 in
theorem e172_1 {d L : Nat} {I : Nat → Nat → Int32} {R : Nat → Nat → Option Nat} {S : List (Nat × Nat)} {Q : Option Value → mM → Prop} {A : aS} (hC : RC R S I A) {x1 : Int} {x2 : Int} {w3 : Value} {x4 : Int} {x5 : Int} {x6 : Int} {w7 : Value} (hE : inR x6 ∧ (((x6 < 6) → (0 ≤ (x2 * 6) + x6 ∧ (x2 * 6) + x6 < 240) ∧ (((A 97 ((x2 * 6) + x6).toNat = (-1)) → h172_1 (d + 26) L I R S Q x1 x2 w3 x4 x5 (x6 + 1) (.int (oI (A 97 ((x2 * 6) + x6).toNat)))) ∧ (¬ (A 97 ((x2 * 6) + x6).toNat = (-1)) → WfC A ∧ ((0 ≤ x6 ∧ x6 < 6) ∧ ((0 ≤ A 97 ((x2 * 6) + x6).toNat ∧ A 97 ((x2 * 6) + x6).toNat ≤ 100) ∧ ((0 ≤ x1 ∧ x1 ≤ 7) ∧ (∃ e5 : Nat → Int, EnvC 60 I e5 ∧ e5 9 = 0 ∧ e5 10 = 0 ∧ (((wpS A e5 x1 x6 (A 97 ((x2 * 6) + x6).toNat) = true) → ∀ (I14 : mI), (Fr [60] [] I I14) → (EnvC 60 I14 e5) → h172_1 (d + 26) L I14 R S Q x1 x2 w3 x4 (iOr x5 (iShl 1 x6)) (x6 + 1) (.int (oI (A 97 ((x2 * 6) + x6).toNat)))) ∧ (¬ (wpS A e5 x1 x6 (A 97 ((x2 * 6) + x6).toNat) = true) → ∀ (I14 : mI), (Fr [60] [] I I14) → (EnvC 60 I14 e5) → h172_1 (d + 26) L I14 R S Q x1 x2 w3 x4 x5 (x6 + 1) (.int (oI (A 97 ((x2 * 6) + x6).toNat)))))))))))) ∧ (¬ (x6 < 6) → (0 ≤ ld I 77 10 ∧ ld I 77 10 < 40) ∧ (h172_4 (d + 26) L (u2 (u2 I 79 (ld I 77 10).toNat (oI x5)) 60 8 (oI x4)) R S Q x1 x2 w3 (.int (oI x4)) (.int (oI x5)) 0 w7)))) : h172_1 (d + 26) L I R S Q x1 x2 w3 x4 x5 x6 w7 := by
  unfold h172_1
  refine xG gb172.2.1 ?_
  refine s4 (x := x6) rfl ?_
  refine s0 ?_
  obtain ⟨g1, hE⟩ := hE
  refine s64 g1 (inRd rfl) (fun c2 => ?_) (fun c2 => ?_)
  · replace hE := hE.1 c2
    refine s6 (p := 77) rfl ?_
    refine s51 sh77 (by decide) (by decide) rf77_0 ?_
    refine s51 sh21 (by decide) (by decide) rf21_5 ?_
    refine s4 (x := x2) rfl ?_
    refine s0 ?_
    refine s18 ?_
    refine s4 (x := x6) rfl ?_
    refine s16 ?_
    obtain ⟨g3, hE⟩ := hE
    refine s40 (v := A 97 ((x2 * 6) + x6).toNat) sh27 g3 rfl (rdC hC.1 rfl) ?_
    refine s7 (ls' := [.ref 77, .int (oI x1), .int (oI x2), w3, .int (oI x4), .int (oI x5), .int (oI x6), .int (oI (A 97 ((x2 * 6) + x6).toNat))]) (Nat.le_of_ble_eq_true rfl) rfl ?_
    refine s4 (x := A 97 ((x2 * 6) + x6).toNat) rfl ?_
    refine s0 ?_
    refine s61 (inC hC.1 (a := 27) (k := ((x2 * 6) + x6).toNat) rfl) (inRd rfl) (fun c4 => ?_) (fun c4 => ?_)
    · replace hE := hE.1 c4
      refine xG gb172.2.2.1 ?_
      refine s10 (x := x6) (ls' := [.ref 77, .int (oI x1), .int (oI x2), w3, .int (oI x4), .int (oI x5), .int (oI (x6 + 1)), .int (oI (A 97 ((x2 * 6) + x6).toNat))]) rfl rfl ?_
      refine s60 ?_
      exact hE
    · replace hE := hE.2 c4
      refine s6 (p := 77) rfl ?_
      refine s51 sh77 (by decide) (by decide) rf77_2 ?_
      refine s4 (x := x6) rfl ?_
      refine s4 (x := A 97 ((x2 * 6) + x6).toNat) rfl ?_
      refine s4 (x := x1) rfl ?_
      obtain ⟨g9, hE⟩ := hE
      obtain ⟨g10, hE⟩ := hE
      obtain ⟨g11, hE⟩ := hE
      obtain ⟨g12, hE⟩ := hE
      obtain ⟨e5, k6, k7, k8, hE⟩ := hE
      refine sI rc146 rfl (Nat.le_of_ble_eq_true rfl) ?_
      refine k146 hC k6 k7 k8 g9 g10 g11 g12 (fun c13 I14 q15 q16 => ?_) (fun c13 I14 q15 q16 => ?_)
      · replace hE := hE.1 c13 I14 q15 q16
        refine s67 (inRd rfl) (fun c17 => absurd c17 (by decide)) (fun _ => ?_)
        refine s4 (x := x5) rfl ?_
        refine s0 ?_
        refine s4 (x := x6) rfl ?_
        refine s22 ?_
        refine s26 ?_
        refine s7 (ls' := [.ref 77, .int (oI x1), .int (oI x2), w3, .int (oI x4), .int (oI (iOr x5 (iShl 1 x6))), .int (oI x6), .int (oI (A 97 ((x2 * 6) + x6).toNat))]) (Nat.le_of_ble_eq_true rfl) rfl ?_
        refine s79 ?_
        refine xG gb172.2.2.1 ?_
        refine s10 (x := x6) (ls' := [.ref 77, .int (oI x1), .int (oI x2), w3, .int (oI x4), .int (oI (iOr x5 (iShl 1 x6))), .int (oI (x6 + 1)), .int (oI (A 97 ((x2 * 6) + x6).toNat))]) rfl rfl ?_
        refine s60 ?_
        exact hE
      · replace hE := hE.2 c13 I14 q15 q16
        refine s67 (inRd rfl) (fun _ => ?_) (fun c18 => absurd (by decide) c18)
        refine xG gb172.2.2.1 ?_
        refine s10 (x := x6) (ls' := [.ref 77, .int (oI x1), .int (oI x2), w3, .int (oI x4), .int (oI x5), .int (oI (x6 + 1)), .int (oI (A 97 ((x2 * 6) + x6).toNat))]) rfl rfl ?_
        refine s60 ?_
        exact hE
  · replace hE := hE.2 c2
    refine xG gb172.2.2.2.1 ?_
    refine s6 (p := 77) rfl ?_
    refine s51 sh77 (by decide) (by decide) rf77_4 ?_
    refine s6 (p := 77) rfl ?_
    refine s50 (v := ld I 77 10) sh77 (by decide) (by decide) (oI_ld _ _ _) ?_
    refine s4 (x := x5) rfl ?_
    obtain ⟨g19, hE⟩ := hE
    refine s44 sh79 (by decide) g19 rfl ?_
    refine s6 (p := 77) rfl ?_
    refine s51 sh77 (by decide) (by decide) rf77_2 ?_
    refine s51 sh59 (by decide) (by decide) rf59_0 ?_
    refine s0 ?_
    refine s4 (x := x4) rfl ?_
    refine s44 sh60 (by decide) (⟨by decide, by decide⟩ : (0 : Int) ≤ 8 ∧ (8 : Int) < 12) rfl ?_
    refine s0 ?_
    refine s7 (ls' := [.ref 77, .int (oI x1), .int (oI x2), w3, .int (oI x4), .int (oI x5), .int (oI 0), w7]) (Nat.le_of_ble_eq_true rfl) rfl ?_
    refine s79 ?_
    exact hE
set_option maxRecDepth 4000 in
theorem e172_4 {d L : Nat} {I : Nat → Nat → Int32} {R : Nat → Nat → Option Nat} {S : List (Nat × Nat)} {Q : Option Value → mM → Prop} {A : aS} (hC : RC R S I A) {x1 : Int} {x2 : Int} {w3 : Value} {w4 : Value} {w5 : Value} {x6 : Int} {w7 : Value} (hE : inR x6 ∧ (((x6 < 6) → (0 ≤ (x2 * 6) + x6 ∧ (x2 * 6) + x6 < 240) ∧ (CallV d 173 [.ref 77, .int (oI x6), .int (oI x1)] (bd L (u2 (u2 I 60 9 (oI x6)) 60 10 (oI (A 97 ((x2 * 6) + x6).toNat))) R S) (fun s => ∃ (I4 : mI), s = bd L I4 R S ∧ RC R S I4 A ∧ (h172_4 (d + 1) L I4 R S Q x1 x2 w3 w4 (mNl w5) (x6 + 1) w7)))) ∧ (¬ (x6 < 6) → h172_6 (d + 1) L I R S Q (.int (oI x1)) (.int (oI x2)) w3 w4 (mNl w5) 0 w7))) : h172_4 (d + 1) L I R S Q x1 x2 w3 w4 w5 x6 w7 := by
  unfold h172_4
  refine xG gb172.2.2.2.2.1 ?_
  refine s4 (x := x6) rfl ?_
  refine s0 ?_
  obtain ⟨g1, hE⟩ := hE
  refine s64 g1 (inRd rfl) (fun c2 => ?_) (fun c2 => ?_)
  · replace hE := hE.1 c2
    refine s6 (p := 77) rfl ?_
    refine s51 sh77 (by decide) (by decide) rf77_2 ?_
    refine s4 (x := x6) rfl ?_
    refine s6 (p := 77) rfl ?_
    refine s51 sh77 (by decide) (by decide) rf77_0 ?_
    refine s51 sh21 (by decide) (by decide) rf21_5 ?_
    refine s4 (x := x2) rfl ?_
    refine s0 ?_
    refine s18 ?_
    refine s4 (x := x6) rfl ?_
    refine s16 ?_
    obtain ⟨g3, hE⟩ := hE
    refine s40 (v := A 97 ((x2 * 6) + x6).toNat) sh27 g3 rfl (rdC hC.1 rfl) ?_
    refine sV rc147 rfl (Nat.le_of_ble_eq_true rfl) ?_
    refine cV_of (ls := [.ref 59, .int (oI x6), .int (oI (A 97 ((x2 * 6) + x6).toNat))]) rfl ?_
    refine xG gb147 ?_
    refine s6 (p := 59) rfl ?_
    refine s51 sh59 (by decide) (by decide) rf59_0 ?_
    refine s0 ?_
    refine s4 (x := x6) rfl ?_
    refine s44 sh60 (by decide) (⟨by decide, by decide⟩ : (0 : Int) ≤ 9 ∧ (9 : Int) < 12) rfl ?_
    refine s6 (p := 59) rfl ?_
    refine s51 sh59 (by decide) (by decide) rf59_0 ?_
    refine s0 ?_
    refine s4 (x := A 97 ((x2 * 6) + x6).toNat) rfl ?_
    refine s44 sh60 (by decide) (⟨by decide, by decide⟩ : (0 : Int) ≤ 10 ∧ (10 : Int) < 12) rfl ?_
    refine s83 ?_
    refine rqV_of ?_
    refine s6 (p := 77) rfl ?_
    refine s4 (x := x6) rfl ?_
    refine s4 (x := x1) rfl ?_
    refine sV rc173 rfl (Nat.le_of_ble_eq_true rfl) ?_
    refine CallV.mono hE ?_
    rintro _ ⟨I4, rfl, q5, hE⟩
    refine s10 (x := x6) (ls' := [.ref 77, .int (oI x1), .int (oI x2), w3, w4, mNl w5, .int (oI (x6 + 1)), w7]) rfl rfl ?_
    refine s60 ?_
    exact hE
  · replace hE := hE.2 c2
    refine xG gb172.2.2.2.2.2.1 ?_
    refine s0 ?_
    refine s7 (ls' := [.ref 77, .int (oI x1), .int (oI x2), w3, w4, mNl w5, .int (oI 0), w7]) (Nat.le_of_ble_eq_true rfl) rfl ?_
    refine s79 ?_
    exact hE
set_option maxRecDepth 4000 in
theorem e172_6 {d L : Nat} {I : Nat → Nat → Int32} {R : Nat → Nat → Option Nat} {S : List (Nat × Nat)} {Q : Option Value → mM → Prop} {A : aS} (hC : RC R S I A) {w1 : Value} {w2 : Value} {w3 : Value} {w4 : Value} {w5 : Value} {x6 : Int} {w7 : Value} (hE : inR x6 ∧ (((x6 < 64) → CallI d 174 [.ref 77, .int (oI x6)] (bd L I R S) (fun y s => ∃ (y5 : Int) (I3 : mI), y = oI y5 ∧ s = bd L I3 R S ∧ inR y5 ∧ RC R S I3 A ∧ ((0 ≤ ((ld I 77 10) * 64) + x6 ∧ ((ld I 77 10) * 64) + x6 < 2560) ∧ (h172_6 (d + 1) L (u2 I3 80 (((ld I 77 10) * 64) + x6).toNat (oI y5)) R S Q w1 w2 w3 w4 (mNl w5) (x6 + 1) w7)))) ∧ (¬ (x6 < 64) → Q none (bd L I R S)))) : h172_6 (d + 1) L I R S Q w1 w2 w3 w4 w5 x6 w7 := by
  unfold h172_6
  refine xG gb172.2.2.2.2.2.2.1 ?_
  refine s4 (x := x6) rfl ?_
  refine s0 ?_
  obtain ⟨g1, hE⟩ := hE
  refine s64 g1 (inRd rfl) (fun c2 => ?_) (fun c2 => ?_)
  · replace hE := hE.1 c2
    refine s6 (p := 77) rfl ?_
    refine s51 sh77 (by decide) (by decide) rf77_5 ?_
    refine s6 (p := 77) rfl ?_
    refine s50 (v := ld I 77 10) sh77 (by decide) (by decide) (oI_ld _ _ _) ?_
    refine s0 ?_
    refine s18 ?_
    refine s4 (x := x6) rfl ?_
    refine s16 ?_
    refine s6 (p := 77) rfl ?_
    refine s4 (x := x6) rfl ?_
    refine sI rc174 rfl (Nat.le_of_ble_eq_true rfl) ?_
    refine CallI.mono hE ?_
    rintro _ _ ⟨y5, I3, rfl, rfl, gy5, q4, hE⟩
    obtain ⟨g6, hE⟩ := hE
    refine s44 sh80 (by decide) g6 rfl ?_
    refine s10 (x := x6) (ls' := [.ref 77, w1, w2, w3, w4, mNl w5, .int (oI (x6 + 1)), w7]) rfl rfl ?_
    refine s60 ?_
    exact hE
  · replace hE := hE.2 c2
    refine xG gb172.2.2.2.2.2.2.2 ?_
    refine s83 ?_
    exact hE
set_option maxRecDepth 4000 in
theorem e172 {d L : Nat} {I : Nat → Nat → Int32} {R : Nat → Nat → Option Nat} {S : List (Nat × Nat)} {K : mM → Prop} {A : aS} (hC : RC R S I A) {x1 : Int} (hE : (0 ≤ ld I 77 10 ∧ ld I 77 10 < 40) ∧ (WfA A ∧ (WfP A ∧ (WfC A ∧ ((0 ≤ ld I 78 (ld I 77 10).toNat ∧ ld I 78 (ld I 77 10).toNat < A 91 1) ∧ ((0 ≤ x1 ∧ x1 ≤ 7) ∧ ((0 ≤ ld I 59 15 ∧ ld I 59 15 ≤ 799) ∧ (∀ (I8 : mI), (Fr [60, 61, 69] [] I I8) → (∀ j : Nat, (j : Int) ≤ x1 → ld I8 69 j = stS A (ld I 78 (ld I 77 10).toNat) j (ld I 59 15)) → ∃ c11 y12 n13 s14 : Int, RgP A I8 c11 (100 * y12) (100 * y12 + 99) n13 ∧ (0 ≤ c11 ∧ c11 < A 91 1) ∧ (0 ≤ y12 ∧ y12 ≤ 7) ∧ (ld I8 69 y12.toNat = s14) ∧ (∀ (I19 : mI), (Fr [60] [] I8 I19) → inR (stS A (ld I 78 (ld I 77 10).toNat) x1 (ld I 59 15)) ∧ ((0 ≤ ld I19 59 15 ∧ ld I19 59 15 ≤ 799) ∧ (∀ (I23 : mI), (Fr [60] [] I19 I23) → (EnvC 60 I23 (psE A (ld I 78 (ld I 77 10).toNat) x1 (stS A (ld I 78 (ld I 77 10).toNat) x1 (ld I 59 15)) (ld I19 59 15))) → h172_1 (d + 28) L I23 R S (rqV K) x1 (ld I 78 (ld I 77 10).toNat) (.int (oI (stS A (ld I 78 (ld I 77 10).toNat) x1 (ld I 59 15)))) (yrS A c11 y12 x1 s14 n13) 0 0 mUn))))))))))) : CallV (d + 28) 172 [.ref 77, .int (oI x1)] (bd L I R S) K := by
  refine cV_of (ls := [.ref 77, .int (oI x1), mUn, mUn, mUn, mUn, mUn, mUn]) rfl ?_
  refine xG gb172.1 ?_
  refine s6 (p := 77) rfl ?_
  refine s51 sh77 (by decide) (by decide) rf77_3 ?_
  refine s6 (p := 77) rfl ?_
  refine s50 (v := ld I 77 10) sh77 (by decide) (by decide) (oI_ld _ _ _) ?_
  obtain ⟨g1, hE⟩ := hE
  refine s40 (v := ld I 78 (ld I 77 10).toNat) sh78 g1 rfl (oI_ld _ _ _) ?_
  refine s7 (ls' := [.ref 77, .int (oI x1), .int (oI (ld I 78 (ld I 77 10).toNat)), mUn, mUn, mUn, mUn, mUn]) (Nat.le_of_ble_eq_true rfl) rfl ?_
  refine s6 (p := 77) rfl ?_
  refine s51 sh77 (by decide) (by decide) rf77_2 ?_
  refine s4 (x := ld I 78 (ld I 77 10).toNat) rfl ?_
  refine s4 (x := x1) rfl ?_
  obtain ⟨g2, hE⟩ := hE
  obtain ⟨g3, hE⟩ := hE
  obtain ⟨g4, hE⟩ := hE
  obtain ⟨g5, hE⟩ := hE
  obtain ⟨g6, hE⟩ := hE
  obtain ⟨g7, hE⟩ := hE
  refine sI rc142 rfl (Nat.le_of_ble_eq_true rfl) ?_
  refine k142 hC g2 g3 g4 g5 g6 g7 (fun I8 q9 q10 => ?_)
  replace hE := hE I8 q9 q10
  refine s7 (ls' := [.ref 77, .int (oI x1), .int (oI (ld I 78 (ld I 77 10).toNat)), .int (oI (stS A (ld I 78 (ld I 77 10).toNat) x1 (ld I 59 15))), mUn, mUn, mUn, mUn]) (Nat.le_of_ble_eq_true rfl) rfl ?_
  refine s6 (p := 77) rfl ?_
  refine s51 sh77 (by decide) (by decide) rf77_2 ?_
  refine s4 (x := x1) rfl ?_
  obtain ⟨c11, y12, n13, s14, k15, k16, k17, k18, hE⟩ := hE
  refine sI rc154 rfl (Nat.le_of_ble_eq_true rfl) ?_
  refine k154 (RC.fr hC q9 rfl) g2 g4 g3 k15 k16 k17 k18 g6 (fun I19 q20 => ?_)
  replace hE := hE I19 q20
  refine s7 (ls' := [.ref 77, .int (oI x1), .int (oI (ld I 78 (ld I 77 10).toNat)), .int (oI (stS A (ld I 78 (ld I 77 10).toNat) x1 (ld I 59 15))), .int (oI (yrS A c11 y12 x1 s14 n13)), mUn, mUn, mUn]) (Nat.le_of_ble_eq_true rfl) rfl ?_
  refine s6 (p := 77) rfl ?_
  refine s51 sh77 (by decide) (by decide) rf77_2 ?_
  refine s4 (x := ld I 78 (ld I 77 10).toNat) rfl ?_
  refine s4 (x := x1) rfl ?_
  refine s4 (x := stS A (ld I 78 (ld I 77 10).toNat) x1 (ld I 59 15)) rfl ?_
  obtain ⟨g21, hE⟩ := hE
  obtain ⟨g22, hE⟩ := hE
  refine sV rc144 rfl (Nat.le_of_ble_eq_true rfl) ?_
  refine k144 (RC.fr (RC.fr hC q9 rfl) q20 rfl) g2 g3 g5 g6 g21 g22 (fun I23 q24 q25 => ?_)
  replace hE := hE I23 q24 q25
  refine s0 ?_
  refine s7 (ls' := [.ref 77, .int (oI x1), .int (oI (ld I 78 (ld I 77 10).toNat)), .int (oI (stS A (ld I 78 (ld I 77 10).toNat) x1 (ld I 59 15))), .int (oI (yrS A c11 y12 x1 s14 n13)), .int (oI 0), mUn, mUn]) (Nat.le_of_ble_eq_true rfl) rfl ?_
  refine s0 ?_
  refine s7 (ls' := [.ref 77, .int (oI x1), .int (oI (ld I 78 (ld I 77 10).toNat)), .int (oI (stS A (ld I 78 (ld I 77 10).toNat) x1 (ld I 59 15))), .int (oI (yrS A c11 y12 x1 s14 n13)), .int (oI 0), .int (oI 0), mUn]) (Nat.le_of_ble_eq_true rfl) rfl ?_
  refine s79 ?_
  exact hE
