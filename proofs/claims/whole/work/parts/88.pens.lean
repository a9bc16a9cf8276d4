/-! the reference: what it writes by -/
theorem CallV.mono {d m : Nat} {as : List Value} {σ : mM} {K K2 : mM → Prop} (h : CallV d m as σ K) (hk : ∀ s, K s → K2 s) : CallV d m as σ K2 := Wp.mono h (fun _ _ ⟨a, b⟩ => ⟨a, hk _ b⟩)
set_option maxRecDepth 4000 in
theorem e323 {d L : Nat} {I : Nat → Nat → Int32} {R : Nat → Nat → Option Nat} {S : List (Nat × Nat)} {K : mM → Prop} {A : aS} (hR : RM I A) {x1 : Int} (hE : (0 ≤ ld I 91 92 ∧ ld I 91 92 < 8000) ∧ (K (bd L (u2 (u2 (u2 I 154 (ld I 91 92).toNat (oI (iB (iB x1)))) 91 92 (oI (ld I 91 92 + 1))) 91 93 (oI 0)) R S))) : CallV d 323 [.ref 91, .int (oI x1)] (bd L I R S) K := by
  refine cV_of (ls := [.ref 91, .int (oI x1)]) rfl ?_
  refine xG gb323 ?_
  refine s6 (p := 91) rfl ?_
  refine s51 sh91 (by decide) (by decide) rf91_91 ?_
  refine s6 (p := 91) rfl ?_
  refine s50 (v := ld I 91 92) sh91 (by decide) (by decide) (oI_ld _ _ _) ?_
  refine s4 (x := x1) rfl ?_
  refine s28 ?_
  obtain ⟨g1, hE⟩ := hE
  refine s45 sh154 (by decide) g1 rfl ?_
  refine s6 (p := 91) rfl ?_
  refine s13r ?_
  refine s50 (v := ld I 91 92) sh91 (by decide) (by decide) ((v2_ne (by decide)).trans (oI_ld _ _ _)) ?_
  refine s0 ?_
  refine s16 ?_
  refine s52 sh91 (by decide) (by decide) ?_
  refine s6 (p := 91) rfl ?_
  refine s0 ?_
  refine s49 sh91 (by decide) (by decide) (by decide) ?_
  refine s83 ?_
  exact rqV_of hE
def h322_2 (d L : Nat) (I : Nat → Nat → Int32) (R : Nat → Nat → Option Nat) (S : List (Nat × Nat)) (Q : Option Value → mM → Prop) (X1 : Int64) (w2 : Value) (x3 : Int) : Prop := Wp d (gb 322 2) [.ref 91, .long X1, w2, .int (oI x3)] [] (bd L I R S) Q
set_option maxRecDepth 4000 in
theorem e322_2 {d L : Nat} {I : Nat → Nat → Int32} {R : Nat → Nat → Option Nat} {S : List (Nat × Nat)} {Q : Option Value → mM → Prop} {A : aS} (hR : RM I A) {X1 : Int64} {w2 : Value} {x3 : Int} (hE : inR x3 ∧ (((x3 < 0) → Q none (bd L (u2 I 91 93 (oI 1)) R S)) ∧ (¬ (x3 < 0) → inR (lCmp ((X1 >>> ((oI x3).toInt64 &&& 63)) &&& (Int64.ofInt 255)) (Int64.ofInt 0)) ∧ (((lCmp ((X1 >>> ((oI x3).toInt64 &&& 63)) &&& (Int64.ofInt 255)) (Int64.ofInt 0) = 0) → h322_2 (d + 1) L I R S Q X1 (mNl w2) (x3 + (-8))) ∧ (¬ (lCmp ((X1 >>> ((oI x3).toInt64 &&& 63)) &&& (Int64.ofInt 255)) (Int64.ofInt 0) = 0) → CallV d 323 [.ref 91, .int (oI (((X1 >>> ((oI x3).toInt64 &&& 63)) &&& (Int64.ofInt 255)).toInt32.toInt))] (bd L I R S) (fun s => ∃ (I5 : mI), s = bd L I5 R S ∧ RM I5 A ∧ (h322_2 (d + 1) L I5 R S Q X1 (mNl w2) (x3 + (-8))))))))) : h322_2 (d + 1) L I R S Q X1 w2 x3 := by
  unfold h322_2
  refine xG gb322.2.2.1 ?_
  refine s4 (x := x3) rfl ?_
  obtain ⟨g1, hE⟩ := hE
  refine s69 g1 (fun c2 => ?_) (fun c2 => ?_)
  · replace hE := hE.1 c2
    refine xG gb322.2.2.2.2 ?_
    refine s6 (p := 91) rfl ?_
    refine s0 ?_
    refine s49 sh91 (by decide) (by decide) (by decide) ?_
    refine s83 ?_
    exact hE
  · replace hE := hE.2 c2
    refine s5 (X := X1) rfl ?_
    refine s4 (x := x3) rfl ?_
    refine s33 ?_
    refine s2 ?_
    refine s34 ?_
    refine s2 ?_
    refine s36 ?_
    obtain ⟨g3, hE⟩ := hE
    refine s67 g3 (fun c4 => ?_) (fun c4 => ?_)
    · replace hE := hE.1 c4
      refine xG gb322.2.2.2.1 ?_
      refine s10 (x := x3) (ls' := [.ref 91, .long X1, mNl w2, .int (oI (x3 + (-8)))]) rfl rfl ?_
      refine s60 ?_
      exact hE
    · replace hE := hE.2 c4
      refine s6 (p := 91) rfl ?_
      refine s5 (X := X1) rfl ?_
      refine s4 (x := x3) rfl ?_
      refine s33 ?_
      refine s2 ?_
      refine s34 ?_
      refine s31 ?_
      refine sV rc323 rfl (Nat.le_of_ble_eq_true rfl) ?_
      refine CallV.mono hE ?_
      rintro _ ⟨I5, rfl, q6, hE⟩
      refine s79 ?_
      refine xG gb322.2.2.2.1 ?_
      refine s10 (x := x3) (ls' := [.ref 91, .long X1, mNl w2, .int (oI (x3 + (-8)))]) rfl rfl ?_
      refine s60 ?_
      exact hE
set_option maxRecDepth 4000 in
theorem e322 {d L : Nat} {I : Nat → Nat → Int32} {R : Nat → Nat → Option Nat} {S : List (Nat × Nat)} {K : mM → Prop} {A : aS} (hR : RM I A) {X1 : Int64} (hE : ((ld I 91 93 = 0) → h322_2 (d + 1) L I R S (rqV K) X1 mUn 56) ∧ (¬ (ld I 91 93 = 0) → CallV d 323 [.ref 91, .int (oI 32)] (bd L I R S) (fun s => ∃ (I2 : mI), s = bd L I2 R S ∧ RM I2 A ∧ (h322_2 (d + 1) L I2 R S (rqV K) X1 mUn 56)))) : CallV (d + 1) 322 [.ref 91, .long X1] (bd L I R S) K := by
  refine cV_of (ls := [.ref 91, .long X1, mUn, mUn]) rfl ?_
  refine xG gb322.1 ?_
  refine s6 (p := 91) rfl ?_
  refine s50 (v := ld I 91 93) sh91 (by decide) (by decide) (oI_ld _ _ _) ?_
  refine s67 (ld_inR _ _ _) (fun c1 => ?_) (fun c1 => ?_)
  · replace hE := hE.1 c1
    refine xG gb322.2.1 ?_
    refine s0 ?_
    refine s7 (ls' := [.ref 91, .long X1, mUn, .int (oI 56)]) (Nat.le_of_ble_eq_true rfl) rfl ?_
    refine s79 ?_
    exact hE
  · replace hE := hE.2 c1
    refine s6 (p := 91) rfl ?_
    refine s0 ?_
    refine sV rc323 rfl (Nat.le_of_ble_eq_true rfl) ?_
    refine CallV.mono hE ?_
    rintro _ ⟨I2, rfl, q3, hE⟩
    refine s79 ?_
    refine xG gb322.2.1 ?_
    refine s0 ?_
    refine s7 (ls' := [.ref 91, .long X1, mUn, .int (oI 56)]) (Nat.le_of_ble_eq_true rfl) rfl ?_
    refine s79 ?_
    exact hE
def h324_2 (d L : Nat) (I : Nat → Nat → Int32) (R : Nat → Nat → Option Nat) (S : List (Nat × Nat)) (Q : Option Value → mM → Prop) (x1 : Int) (x2 : Int) : Prop := Wp d (gb 324 2) [.ref 91, .int (oI x1), .int (oI x2)] [] (bd L I R S) Q
def h324_3 (d L : Nat) (I : Nat → Nat → Int32) (R : Nat → Nat → Option Nat) (S : List (Nat × Nat)) (Q : Option Value → mM → Prop) (x1 : Int) (x2 : Int) : Prop := Wp d (gb 324 3) [.ref 91, .int (oI x1), .int (oI x2)] [] (bd L I R S) Q
set_option maxRecDepth 4000 in
theorem e324_2 {d L : Nat} {I : Nat → Nat → Int32} {R : Nat → Nat → Option Nat} {S : List (Nat × Nat)} {Q : Option Value → mM → Prop} {A : aS} (hR : RM I A) {x1 : Int} {x2 : Int} (hE : inR x1 ∧ (inR x2 ∧ (0 < x2 ∧ (inR (Int.tdiv x1 x2) ∧ (((9 < Int.tdiv x1 x2) → h324_2 d L I R S Q x1 (x2 * 10)) ∧ (¬ (9 < Int.tdiv x1 x2) → h324_3 d L I R S Q x1 x2)))))) : h324_2 d L I R S Q x1 x2 := by
  unfold h324_2
  refine xG gb324.2.2.1 ?_
  refine s4 (x := x1) rfl ?_
  refine s4 (x := x2) rfl ?_
  obtain ⟨g1, hE⟩ := hE
  obtain ⟨g2, hE⟩ := hE
  obtain ⟨g3, hE⟩ := hE
  refine s19 g1 ⟨g2, g3⟩ ?_
  refine s0 ?_
  obtain ⟨g4, hE⟩ := hE
  refine s66 g4 (inRd rfl) (fun c5 => ?_) (fun c5 => ?_)
  · replace hE := hE.1 c5
    refine s4 (x := x2) rfl ?_
    refine s0 ?_
    refine s18 ?_
    refine s7 (ls' := [.ref 91, .int (oI x1), .int (oI (x2 * 10))]) (Nat.le_of_ble_eq_true rfl) rfl ?_
    refine s60 ?_
    exact hE
  · replace hE := hE.2 c5
    exact hE
set_option maxRecDepth 4000 in
theorem e324_3 {d L : Nat} {I : Nat → Nat → Int32} {R : Nat → Nat → Option Nat} {S : List (Nat × Nat)} {Q : Option Value → mM → Prop} {A : aS} (hR : RM I A) {x1 : Int} {x2 : Int} (hE : inR x2 ∧ (((0 < x2) → inR x1 ∧ (0 < x2 ∧ (inR (Int.tdiv x1 x2) ∧ (CallV d 323 [.ref 91, .int (oI (48 + (Int.tdiv x1 x2 - Int.tdiv (Int.tdiv x1 x2) 10 * 10)))] (bd L I R S) (fun s => ∃ (I6 : mI), s = bd L I6 R S ∧ RM I6 A ∧ (h324_3 (d + 1) L I6 R S Q x1 (Int.tdiv x2 10))))))) ∧ (¬ (0 < x2) → Q none (bd L (u2 I 91 93 (oI 1)) R S)))) : h324_3 (d + 1) L I R S Q x1 x2 := by
  unfold h324_3
  refine xG gb324.2.2.2.1 ?_
  refine s4 (x := x2) rfl ?_
  obtain ⟨g1, hE⟩ := hE
  refine s72 g1 (fun c2 => ?_) (fun c2 => ?_)
  · replace hE := hE.1 c2
    refine s6 (p := 91) rfl ?_
    refine s0 ?_
    refine s4 (x := x1) rfl ?_
    refine s4 (x := x2) rfl ?_
    obtain ⟨g3, hE⟩ := hE
    obtain ⟨g4, hE⟩ := hE
    refine s19 g3 ⟨g1, g4⟩ ?_
    refine s0 ?_
    obtain ⟨g5, hE⟩ := hE
    refine s20 g5 ⟨(inRd rfl), by decide⟩ ?_
    refine s16 ?_
    refine sV rc323 rfl (Nat.le_of_ble_eq_true rfl) ?_
    refine CallV.mono hE ?_
    rintro _ ⟨I6, rfl, q7, hE⟩
    refine s4 (x := x2) rfl ?_
    refine s0 ?_
    refine s19 g1 ⟨(inRd rfl), by decide⟩ ?_
    refine s7 (ls' := [.ref 91, .int (oI x1), .int (oI (Int.tdiv x2 10))]) (Nat.le_of_ble_eq_true rfl) rfl ?_
    refine s60 ?_
    exact hE
  · replace hE := hE.2 c2
    refine xG gb324.2.2.2.2 ?_
    refine s6 (p := 91) rfl ?_
    refine s0 ?_
    refine s49 sh91 (by decide) (by decide) (by decide) ?_
    refine s83 ?_
    exact hE
set_option maxRecDepth 4000 in
theorem e324 {d L : Nat} {I : Nat → Nat → Int32} {R : Nat → Nat → Option Nat} {S : List (Nat × Nat)} {K : mM → Prop} {A : aS} (hR : RM I A) {x1 : Int} (hE : ((ld I 91 93 = 0) → h324_2 (d + 1) L I R S (rqV K) x1 1) ∧ (¬ (ld I 91 93 = 0) → CallV d 323 [.ref 91, .int (oI 32)] (bd L I R S) (fun s => ∃ (I2 : mI), s = bd L I2 R S ∧ RM I2 A ∧ (h324_2 (d + 1) L I2 R S (rqV K) x1 1)))) : CallV (d + 1) 324 [.ref 91, .int (oI x1)] (bd L I R S) K := by
  refine cV_of (ls := [.ref 91, .int (oI x1), mUn]) rfl ?_
  refine xG gb324.1 ?_
  refine s6 (p := 91) rfl ?_
  refine s50 (v := ld I 91 93) sh91 (by decide) (by decide) (oI_ld _ _ _) ?_
  refine s67 (ld_inR _ _ _) (fun c1 => ?_) (fun c1 => ?_)
  · replace hE := hE.1 c1
    refine xG gb324.2.1 ?_
    refine s0 ?_
    refine s7 (ls' := [.ref 91, .int (oI x1), .int (oI 1)]) (Nat.le_of_ble_eq_true rfl) rfl ?_
    refine s79 ?_
    exact hE
  · replace hE := hE.2 c1
    refine s6 (p := 91) rfl ?_
    refine s0 ?_
    refine sV rc323 rfl (Nat.le_of_ble_eq_true rfl) ?_
    refine CallV.mono hE ?_
    rintro _ ⟨I2, rfl, q3, hE⟩
    refine s79 ?_
    refine xG gb324.2.1 ?_
    refine s0 ?_
    refine s7 (ls' := [.ref 91, .int (oI x1), .int (oI 1)]) (Nat.le_of_ble_eq_true rfl) rfl ?_
    refine s79 ?_
    exact hE
