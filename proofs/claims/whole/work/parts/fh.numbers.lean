def h343_2 (d L : Nat) (I : Nat → Nat → Int32) (R : Nat → Nat → Option Nat) (S : List (Nat × Nat)) (Q : Option Value → mM → Prop) (x0 : Int) (x1 : Int) (x2 : Int) (x3 : Int) : Prop := Wp d (gb 343 2) [.int (oI x0), .int (oI x1), .int (oI x2), .int (oI x3)] [] (bd L I R S) Q
set_option maxRecDepth 4000 in
theorem e343_2 {d L : Nat} {I : Nat → Nat → Int32} {R : Nat → Nat → Option Nat} {S : List (Nat × Nat)} {Q : Option Value → mM → Prop}  {x0 : Int} {x1 : Int} {x2 : Int} {x3 : Int} (hE : inR x3 ∧ (((x3 < 10) → inR x0 ∧ (inR x2 ∧ (((x2 < x0) → Q (some (.int (oI (x3 + x1)))) (bd L I R S)) ∧ (¬ (x2 < x0) → h343_2 d L I R S Q x0 x1 (10 * x2) (x3 + 1))))) ∧ (¬ (x3 < 10) → Q (some (.int (oI (10 + x1)))) (bd L I R S)))) : h343_2 d L I R S Q x0 x1 x2 x3 := by
  unfold h343_2
  refine xG gb343.2.2.1 ?_
  refine s4 (x := x3) rfl ?_
  refine s0 ?_
  obtain ⟨g1, hE⟩ := hE
  refine s64 g1 (inRd rfl) (fun c2 => ?_) (fun c2 => ?_)
  · replace hE := hE.1 c2
    refine s4 (x := x0) rfl ?_
    refine s4 (x := x2) rfl ?_
    obtain ⟨g3, hE⟩ := hE
    obtain ⟨g4, hE⟩ := hE
    refine s66 g3 g4 (fun c5 => ?_) (fun c5 => ?_)
    · replace hE := hE.1 c5
      refine s4 (x := x3) rfl ?_
      refine s4 (x := x1) rfl ?_
      refine s16 ?_
      refine s80 ?_
      exact hE
    · replace hE := hE.2 c5
      refine xG gb343.2.2.2.1 ?_
      refine s0 ?_
      refine s4 (x := x2) rfl ?_
      refine s18 ?_
      refine s7 (ls' := [.int (oI x0), .int (oI x1), .int (oI (10 * x2)), .int (oI x3)]) (Nat.le_of_ble_eq_true rfl) rfl ?_
      refine s10 (x := x3) (ls' := [.int (oI x0), .int (oI x1), .int (oI (10 * x2)), .int (oI (x3 + 1))]) rfl rfl ?_
      refine s60 ?_
      exact hE
  · replace hE := hE.2 c2
    refine xG gb343.2.2.2.2 ?_
    refine s0 ?_
    refine s4 (x := x1) rfl ?_
    refine s16 ?_
    refine s80 ?_
    exact hE
set_option maxRecDepth 4000 in
theorem e343 {d L : Nat} {I : Nat → Nat → Int32} {R : Nat → Nat → Option Nat} {S : List (Nat × Nat)} {K : Int32 → mM → Prop}  {x0 : Int} (hE : inR x0 ∧ (((x0 < 0) → h343_2 d L I R S (rqI K) x0 1 (-10) 1) ∧ (¬ (x0 < 0) → h343_2 d L I R S (rqI K) (-x0) 0 (-10) 1))) : CallI d 343 [.int (oI x0)] (bd L I R S) K := by
  refine cI_of (ls := [.int (oI x0), mUn, mUn, mUn]) rfl ?_
  refine xG gb343.1 ?_
  refine s0 ?_
  refine s7 (ls' := [.int (oI x0), .int (oI 1), mUn, mUn]) (Nat.le_of_ble_eq_true rfl) rfl ?_
  refine s4 (x := x0) rfl ?_
  obtain ⟨g1, hE⟩ := hE
  refine s69 g1 (fun c2 => ?_) (fun c2 => ?_)
  · replace hE := hE.1 c2
    refine xG gb343.2.1 ?_
    refine s0 ?_
    refine s7 (ls' := [.int (oI x0), .int (oI 1), .int (oI (-10)), mUn]) (Nat.le_of_ble_eq_true rfl) rfl ?_
    refine s0 ?_
    refine s7 (ls' := [.int (oI x0), .int (oI 1), .int (oI (-10)), .int (oI 1)]) (Nat.le_of_ble_eq_true rfl) rfl ?_
    refine s79 ?_
    exact hE
  · replace hE := hE.2 c2
    refine s0 ?_
    refine s7 (ls' := [.int (oI x0), .int (oI 0), mUn, mUn]) (Nat.le_of_ble_eq_true rfl) rfl ?_
    refine s4 (x := x0) rfl ?_
    refine s21 ?_
    refine s7 (ls' := [.int (oI (-x0)), .int (oI 0), mUn, mUn]) (Nat.le_of_ble_eq_true rfl) rfl ?_
    refine s79 ?_
    refine xG gb343.2.1 ?_
    refine s0 ?_
    refine s7 (ls' := [.int (oI (-x0)), .int (oI 0), .int (oI (-10)), mUn]) (Nat.le_of_ble_eq_true rfl) rfl ?_
    refine s0 ?_
    refine s7 (ls' := [.int (oI (-x0)), .int (oI 0), .int (oI (-10)), .int (oI 1)]) (Nat.le_of_ble_eq_true rfl) rfl ?_
    refine s79 ?_
    exact hE
def h344_3 (d L : Nat) (I : Nat → Nat → Int32) (R : Nat → Nat → Option Nat) (S : List (Nat × Nat)) (Q : Option Value → mM → Prop) (b1 : Nat) (x0 : Int) (w1 : Value) (w3 : Value) (w4 : Value) (x5 : Int) (x6 : Int) : Prop := Wp d (gb 344 3) [.int (oI x0), w1, .ref b1, w3, w4, .int (oI x5), .int (oI x6)] [] (bd L I R S) Q
set_option maxRecDepth 4000 in
theorem e344_3 {d L : Nat} {I : Nat → Nat → Int32} {b1 n1 : Nat} {R : Nat → Nat → Option Nat} {S : List (Nat × Nat)} {Q : Option Value → mM → Prop}  {x0 : Int} {w1 : Value} {w3 : Value} {w4 : Value} {x5 : Int} {x6 : Int} (hE : inR x0 ∧ ((((-100) < x0) → (0 ≤ -x0 ∧ -x0 < 100) ∧ ((arB S b1 n1) ∧ ((0 ≤ x5 + (-1) ∧ x5 + (-1) < (n1 : Int)) ∧ (((x0 < (-9)) → (0 ≤ x5 + (-1) + (-1) ∧ x5 + (-1) + (-1) < (n1 : Int)) ∧ (inR x6 ∧ (((x6 = 0) → Q (some (.int (oI (x5 + (-1) + (-1))))) (bd L (u2 (u2 I b1 (x5 + (-1)).toNat (oI (iB (ld I 6 (-x0).toNat)))) b1 (x5 + (-1) + (-1)).toNat (oI (iB (ld I 7 (-x0).toNat)))) R S)) ∧ (¬ (x6 = 0) → (0 ≤ x5 + (-1) + (-1) + (-1) ∧ x5 + (-1) + (-1) + (-1) < (n1 : Int)) ∧ (Q (some (.int (oI (x5 + (-1) + (-1) + (-1))))) (bd L (u2 (u2 (u2 I b1 (x5 + (-1)).toNat (oI (iB (ld I 6 (-x0).toNat)))) b1 (x5 + (-1) + (-1)).toNat (oI (iB (ld I 7 (-x0).toNat)))) b1 (x5 + (-1) + (-1) + (-1)).toNat (oI (iB 45))) R S)))))) ∧ (¬ (x0 < (-9)) → inR x6 ∧ (((x6 = 0) → Q (some (.int (oI (x5 + (-1))))) (bd L (u2 I b1 (x5 + (-1)).toNat (oI (iB (ld I 6 (-x0).toNat)))) R S)) ∧ (¬ (x6 = 0) → (0 ≤ x5 + (-1) + (-1) ∧ x5 + (-1) + (-1) < (n1 : Int)) ∧ (Q (some (.int (oI (x5 + (-1) + (-1))))) (bd L (u2 (u2 I b1 (x5 + (-1)).toNat (oI (iB (ld I 6 (-x0).toNat)))) b1 (x5 + (-1) + (-1)).toNat (oI (iB 45))) R S))))))))) ∧ (¬ ((-100) < x0) → (0 ≤ ((Int.tdiv x0 100) * 100) - x0 ∧ ((Int.tdiv x0 100) * 100) - x0 < 100) ∧ ((arB S b1 n1) ∧ ((0 ≤ x5 + (-1) ∧ x5 + (-1) < (n1 : Int)) ∧ ((0 ≤ x5 + (-1) + (-1) ∧ x5 + (-1) + (-1) < (n1 : Int)) ∧ (h344_3 d L (u2 (u2 I b1 (x5 + (-1)).toNat (oI (iB (ld I 6 (((Int.tdiv x0 100) * 100) - x0).toNat)))) b1 (x5 + (-1) + (-1)).toNat (oI (iB (ld I 7 (((Int.tdiv x0 100) * 100) - x0).toNat)))) R S Q b1 (Int.tdiv x0 100) w1 (.int (oI (Int.tdiv x0 100))) (.int (oI (((Int.tdiv x0 100) * 100) - x0))) (x5 + (-1) + (-1)) x6))))))) : h344_3 d L I R S Q b1 x0 w1 w3 w4 x5 x6 := by
  unfold h344_3
  refine xG gb344.2.2.2.1 ?_
  refine s4 (x := x0) rfl ?_
  refine s0 ?_
  obtain ⟨g1, hE⟩ := hE
  refine s65 g1 (inRd rfl) (fun c2 => ?_) (fun c2 => ?_)
  · replace hE := hE.1 c2
    refine xG gb344.2.2.2.2.1 ?_
    refine s6 (p := b1) rfl ?_
    refine s10 (x := x5) (ls' := [.int (oI x0), w1, .ref b1, w3, mNl w4, .int (oI (x5 + (-1))), .int (oI x6)]) rfl rfl ?_
    refine s4 (x := x5 + (-1)) rfl ?_
    refine s55 ?_
    refine s4 (x := x0) rfl ?_
    refine s21 ?_
    obtain ⟨g3, hE⟩ := hE
    refine s41 (v := ld I 6 (-x0).toNat) sh6 g3 rfl (oI_ld _ _ _) ?_
    obtain ⟨k4, hE⟩ := hE
    obtain ⟨g5, hE⟩ := hE
    refine s45a k4.sh k4.sp g5 k4.le ?_
    refine s4 (x := x0) rfl ?_
    refine s0 ?_
    refine s64 g1 (inRd rfl) (fun c6 => ?_) (fun c6 => ?_)
    · replace hE := hE.1 c6
      refine s6 (p := b1) rfl ?_
      refine s10 (x := x5 + (-1)) (ls' := [.int (oI x0), w1, .ref b1, w3, mNl (mNl w4), .int (oI (x5 + (-1) + (-1))), .int (oI x6)]) rfl rfl ?_
      refine s4 (x := x5 + (-1) + (-1)) rfl ?_
      refine s55 ?_
      refine s4 (x := x0) rfl ?_
      refine s21 ?_
      refine s41 (v := ld I 7 (-x0).toNat) sh7 g3 rfl ((v2_ne (k4.en (by decide))).trans (oI_ld _ _ _)) ?_
      obtain ⟨g7, hE⟩ := hE
      refine s45a k4.sh k4.sp g7 k4.le ?_
      refine s79 ?_
      refine xG gb344.2.2.2.2.2.1 ?_
      refine s4 (x := x6) rfl ?_
      obtain ⟨g8, hE⟩ := hE
      refine s67 g8 (fun c9 => ?_) (fun c9 => ?_)
      · replace hE := hE.1 c9
        refine xG gb344.2.2.2.2.2.2 ?_
        refine s4 (x := x5 + (-1) + (-1)) rfl ?_
        refine s80 ?_
        exact hE
      · replace hE := hE.2 c9
        refine s6 (p := b1) rfl ?_
        refine s10 (x := x5 + (-1) + (-1)) (ls' := [.int (oI x0), w1, .ref b1, w3, mNl (mNl (mNl w4)), .int (oI (x5 + (-1) + (-1) + (-1))), .int (oI x6)]) rfl rfl ?_
        refine s4 (x := x5 + (-1) + (-1) + (-1)) rfl ?_
        refine s0 ?_
        obtain ⟨g10, hE⟩ := hE
        refine s45a k4.sh k4.sp g10 k4.le ?_
        refine s79 ?_
        refine xG gb344.2.2.2.2.2.2 ?_
        refine s4 (x := x5 + (-1) + (-1) + (-1)) rfl ?_
        refine s80 ?_
        exact hE
    · replace hE := hE.2 c6
      refine xG gb344.2.2.2.2.2.1 ?_
      refine s4 (x := x6) rfl ?_
      obtain ⟨g11, hE⟩ := hE
      refine s67 g11 (fun c12 => ?_) (fun c12 => ?_)
      · replace hE := hE.1 c12
        refine xG gb344.2.2.2.2.2.2 ?_
        refine s4 (x := x5 + (-1)) rfl ?_
        refine s80 ?_
        exact hE
      · replace hE := hE.2 c12
        refine s6 (p := b1) rfl ?_
        refine s10 (x := x5 + (-1)) (ls' := [.int (oI x0), w1, .ref b1, w3, mNl (mNl w4), .int (oI (x5 + (-1) + (-1))), .int (oI x6)]) rfl rfl ?_
        refine s4 (x := x5 + (-1) + (-1)) rfl ?_
        refine s0 ?_
        obtain ⟨g13, hE⟩ := hE
        refine s45a k4.sh k4.sp g13 k4.le ?_
        refine s79 ?_
        refine xG gb344.2.2.2.2.2.2 ?_
        refine s4 (x := x5 + (-1) + (-1)) rfl ?_
        refine s80 ?_
        exact hE
  · replace hE := hE.2 c2
    refine s4 (x := x0) rfl ?_
    refine s0 ?_
    refine s19 g1 ⟨(inRd rfl), by decide⟩ ?_
    refine s7 (ls' := [.int (oI x0), w1, .ref b1, .int (oI (Int.tdiv x0 100)), w4, .int (oI x5), .int (oI x6)]) (Nat.le_of_ble_eq_true rfl) rfl ?_
    refine s4 (x := Int.tdiv x0 100) rfl ?_
    refine s0 ?_
    refine s18 ?_
    refine s4 (x := x0) rfl ?_
    refine s17 ?_
    refine s7 (ls' := [.int (oI x0), w1, .ref b1, .int (oI (Int.tdiv x0 100)), .int (oI (((Int.tdiv x0 100) * 100) - x0)), .int (oI x5), .int (oI x6)]) (Nat.le_of_ble_eq_true rfl) rfl ?_
    refine s4 (x := Int.tdiv x0 100) rfl ?_
    refine s7 (ls' := [.int (oI (Int.tdiv x0 100)), w1, .ref b1, .int (oI (Int.tdiv x0 100)), .int (oI (((Int.tdiv x0 100) * 100) - x0)), .int (oI x5), .int (oI x6)]) (Nat.le_of_ble_eq_true rfl) rfl ?_
    refine s6 (p := b1) rfl ?_
    refine s10 (x := x5) (ls' := [.int (oI (Int.tdiv x0 100)), w1, .ref b1, .int (oI (Int.tdiv x0 100)), .int (oI (((Int.tdiv x0 100) * 100) - x0)), .int (oI (x5 + (-1))), .int (oI x6)]) rfl rfl ?_
    refine s4 (x := x5 + (-1)) rfl ?_
    refine s55 ?_
    refine s4 (x := ((Int.tdiv x0 100) * 100) - x0) rfl ?_
    obtain ⟨g14, hE⟩ := hE
    refine s41 (v := ld I 6 (((Int.tdiv x0 100) * 100) - x0).toNat) sh6 g14 rfl (oI_ld _ _ _) ?_
    obtain ⟨k15, hE⟩ := hE
    obtain ⟨g16, hE⟩ := hE
    refine s45a k15.sh k15.sp g16 k15.le ?_
    refine s6 (p := b1) rfl ?_
    refine s10 (x := x5 + (-1)) (ls' := [.int (oI (Int.tdiv x0 100)), w1, .ref b1, .int (oI (Int.tdiv x0 100)), .int (oI (((Int.tdiv x0 100) * 100) - x0)), .int (oI (x5 + (-1) + (-1))), .int (oI x6)]) rfl rfl ?_
    refine s4 (x := x5 + (-1) + (-1)) rfl ?_
    refine s55 ?_
    refine s4 (x := ((Int.tdiv x0 100) * 100) - x0) rfl ?_
    refine s41 (v := ld I 7 (((Int.tdiv x0 100) * 100) - x0).toNat) sh7 g14 rfl ((v2_ne (k15.en (by decide))).trans (oI_ld _ _ _)) ?_
    obtain ⟨g17, hE⟩ := hE
    refine s45a k15.sh k15.sp g17 k15.le ?_
    refine s60 ?_
    exact hE
set_option maxRecDepth 4000 in
theorem e344 {d L : Nat} {I : Nat → Nat → Int32} {R : Nat → Nat → Option Nat} {S : List (Nat × Nat)} {K : Int32 → mM → Prop} {b1 n1 : Nat} {x0 : Int} {x1 : Int} (hE : inR x0 ∧ (((x0 < 0) → h344_3 d L I R S (rqI K) b1 x0 (.int (oI x1)) mUn mUn x1 1) ∧ (¬ (x0 < 0) → h344_3 d L I R S (rqI K) b1 (-x0) (.int (oI x1)) mUn mUn x1 0))) : CallI d 344 [.int (oI x0), .int (oI x1), .ref b1] (bd L I R S) K := by
  refine cI_of (ls := [.int (oI x0), .int (oI x1), .ref b1, mUn, mUn, mUn, mUn]) rfl ?_
  refine xG gb344.1 ?_
  refine s4 (x := x1) rfl ?_
  refine s7 (ls' := [.int (oI x0), .int (oI x1), .ref b1, mUn, mUn, .int (oI x1), mUn]) (Nat.le_of_ble_eq_true rfl) rfl ?_
  refine s4 (x := x0) rfl ?_
  obtain ⟨g1, hE⟩ := hE
  refine s70 g1 (fun c2 => ?_) (fun c2 => ?_)
  · replace hE := hE.1 c2
    refine s0 ?_
    refine s60 ?_
    refine xG gb344.2.2.1 ?_
    refine s7 (ls' := [.int (oI x0), .int (oI x1), .ref b1, mUn, mUn, .int (oI x1), .int (oI 1)]) (Nat.le_of_ble_eq_true rfl) rfl ?_
    refine s4 (x := 1) rfl ?_
    refine s68 (inRd rfl) (fun c3 => absurd c3 (by decide)) (fun _ => ?_)
    exact hE
  · replace hE := hE.2 c2
    refine xG gb344.2.1 ?_
    refine s0 ?_
    refine s79 ?_
    refine xG gb344.2.2.1 ?_
    refine s7 (ls' := [.int (oI x0), .int (oI x1), .ref b1, mUn, mUn, .int (oI x1), .int (oI 0)]) (Nat.le_of_ble_eq_true rfl) rfl ?_
    refine s4 (x := 0) rfl ?_
    refine s68 (inRd rfl) (fun _ => ?_) (fun c4 => absurd (by decide) c4)
    refine s4 (x := x0) rfl ?_
    refine s21 ?_
    refine s7 (ls' := [.int (oI (-x0)), .int (oI x1), .ref b1, mUn, mUn, .int (oI x1), .int (oI 0)]) (Nat.le_of_ble_eq_true rfl) rfl ?_
    refine s79 ?_
    exact hE
set_option maxRecDepth 4000 in
theorem e339 {d L : Nat} {I : Nat → Nat → Int32} {R : Nat → Nat → Option Nat} {S : List (Nat × Nat)} {K : Option Nat → mM → Prop}  {x1 : Int} (hE : CallI d 343 [.int (oI x1)] (bd L I R S) (fun y s => ∃ (y2 : Int) (I1 : mI), y = oI y2 ∧ s = bd L I1 R S ∧ inR y2 ∧ (CallV d 333 [.ref 53, .int (oI (ld I 53 3 + y2))] (bd L I1 R S) (fun s => ∃ (I3 : mI) (R4 : mR) (S5 : mSh), s = bd L I3 R4 S5 ∧ (((ld I3 53 1 = 0) → ∃ (b9 m10 : Nat), (R4 53 0 = some b9) ∧ arB S5 b9 m10 ∧ (CallI d 344 [.int (oI x1), .int (oI (ld I 53 3 + y2)), .ref b9] (bd L I3 R4 S5) (fun y s => ∃ (y14 : Int) (I13 : mI), y = oI y14 ∧ s = bd L I13 R4 S5 ∧ inR y14 ∧ (K (some 53) (bd L (u2 I13 53 3 (oI (ld I 53 3 + y2))) R4 S5))))) ∧ (¬ (ld I3 53 1 = 0) → False)))))) : CallR (d + 1) 339 [.ref 53, .int (oI x1)] (bd L I R S) K := by
  refine cR_of (ls := [.ref 53, .int (oI x1), mUn, mUn]) rfl ?_
  refine xG gb339.1 ?_
  refine s6 (p := 53) rfl ?_
  refine s50 (v := ld I 53 3) sh53 (by decide) (by decide) (oI_ld _ _ _) ?_
  refine s7 (ls' := [.ref 53, .int (oI x1), .int (oI (ld I 53 3)), mUn]) (Nat.le_of_ble_eq_true rfl) rfl ?_
  refine s4 (x := ld I 53 3) rfl ?_
  refine s4 (x := x1) rfl ?_
  refine sI rc343 rfl (Nat.le_of_ble_eq_true rfl) ?_
  refine CallI.mono hE ?_
  rintro _ _ ⟨y2, I1, rfl, rfl, gy2, hE⟩
  refine s16 ?_
  refine s7 (ls' := [.ref 53, .int (oI x1), .int (oI (ld I 53 3)), .int (oI (ld I 53 3 + y2))]) (Nat.le_of_ble_eq_true rfl) rfl ?_
  refine s6 (p := 53) rfl ?_
  refine s4 (x := ld I 53 3 + y2) rfl ?_
  refine sV rc333 rfl (Nat.le_of_ble_eq_true rfl) ?_
  refine CallV.mono hE ?_
  rintro _ ⟨I3, R4, S5, rfl, hE⟩
  refine s6 (p := 53) rfl ?_
  refine sI rc335 rfl (Nat.le_of_ble_eq_true rfl) ?_
  refine cI_of (ls := [.ref 53]) rfl ?_
  refine xG gb335.1 ?_
  refine s54 ?_
  refine s67 (inRd rfl) (fun c6 => absurd c6 (by decide)) (fun _ => ?_)
  refine s6 (p := 53) rfl ?_
  refine s50 (v := ld I3 53 1) sh53 (by decide) (by decide) (oI_ld _ _ _) ?_
  refine s68 (ld_inR _ _ _) (fun c7 => ?_) (fun c7 => ?_)
  · replace hE := hE.1 c7
    refine s0 ?_
    refine s60 ?_
    refine xG gb335.2.2 ?_
    refine s84 (by decide) ?_
    refine rqI_of ?_
    refine s67 (inRd rfl) (fun c8 => absurd c8 (by decide)) (fun _ => ?_)
    refine s4 (x := x1) rfl ?_
    refine s4 (x := ld I 53 3 + y2) rfl ?_
    refine s6 (p := 53) rfl ?_
    obtain ⟨b9, m10, k11, k12, hE⟩ := hE
    refine s51o (o := some b9) sh53 (by decide) (by decide) (rf53p.trans k11) ?_
    refine sI rc344 rfl (Nat.le_of_ble_eq_true rfl) ?_
    refine CallI.mono hE ?_
    rintro _ _ ⟨y14, I13, rfl, rfl, gy14, hE⟩
    refine s12i ?_
    refine s60 ?_
    refine xG gb339.2.2 ?_
    refine s6 (p := 53) rfl ?_
    refine s4 (x := ld I 53 3 + y2) rfl ?_
    refine s52 sh53 (by decide) (by decide) ?_
    refine s6 (p := 53) rfl ?_
    refine s82o (o := some 53) ?_
    exact rqR_of (x := (some 53)) hE
  · replace hE := hE.2 c7
    refine xG gb335.2.1 ?_
    refine s0 ?_
    refine s79 ?_
    refine xG gb335.2.2 ?_
    refine s84 (by decide) ?_
    refine rqI_of ?_
    refine s67 (inRd rfl) (fun _ => ?_) (fun c15 => absurd (by decide) c15)
    refine xG gb339.2.1 ?_
    exact hE.elim
set_option maxRecDepth 4000 in
theorem e131 {d L : Nat} {I : Nat → Nat → Int32} {R : Nat → Nat → Option Nat} {S : List (Nat × Nat)} {K : Option Nat → mM → Prop}  {x1 : Int} (hE : CallR d 339 [.ref 53, .int (oI x1)] (bd L I R S) (fun o4 s => ∃ (I1 : mI) (R2 : mR) (S3 : mSh), s = bd L I1 R2 S3 ∧ (K (some 53) (bd L I1 R2 S3)))) : CallR (d + 1) 131 [.ref 53, .int (oI x1)] (bd L I R S) K := by
  refine cR_of (ls := [.ref 53, .int (oI x1)]) rfl ?_
  refine xG gb131 ?_
  refine s6 (p := 53) rfl ?_
  refine s4 (x := x1) rfl ?_
  refine sR rc339 rfl (Nat.le_of_ble_eq_true rfl) ?_
  refine CallR.mono hE ?_
  rintro o4 _ ⟨I1, R2, S3, rfl, hE⟩
  refine s12o ?_
  refine s6 (p := 53) rfl ?_
  refine s82o (o := some 53) ?_
  exact rqR_of (x := (some 53)) hE
section
variable {d L : Nat} {I I1 I2 : mI} {R R1 R2 : mR} {S S1 S2 : mSh} {bs : List Int} {n n1 n2 b k e : Nat} {x c v : Int} {K : mM → Prop}
theorem dB_c (v : Int) : (9 < v → 99 < v → 999 < v → dB v = [dg1 v 1000, dg1 v 100, dg1 v 10, dg1 v 1]) ∧ (9 < v → 99 < v → ¬ 999 < v → dB v = [dg1 v 100, dg1 v 10, dg1 v 1]) ∧ (9 < v → ¬ 99 < v → dB v = [dg1 v 10, dg1 v 1]) ∧ (¬ 9 < v → dB v = [dg1 v 1]) := by
  unfold dB
  refine ⟨fun a b c => ?_, fun a b c => ?_, fun a b => ?_, fun a => ?_⟩
  · rw [if_pos a, if_pos b, if_pos c]; rfl
  · rw [if_pos a, if_pos b, if_neg c]; rfl
  · rw [if_pos a, if_neg b]; rfl
  · rw [if_neg a]; rfl
theorem k343 {K : Int32 → mM → Prop} (hv : 0 ≤ v ∧ v ≤ 9999) (hK : K (oI ((dB v).length : Int)) (bd L I R S)) : CallI (d + 1) 343 [.int (oI v)] (bd L I R S) K := by
  obtain ⟨q4, q3, q2, q1⟩ := dB_c v
  refine e343 (d := d + 1) ⟨⟨by omega, by omega⟩, fun c => absurd c (by omega), fun _ => ?_⟩
  refine e343_2 (d := d + 1) ⟨⟨by omega, by omega⟩, fun _ => ⟨⟨by omega, by omega⟩, ⟨by omega, by omega⟩, fun c => ?_, fun c => ?_⟩, fun c => absurd (by decide) c⟩
  · rw [q1 (by omega)] at hK; exact rqI_of hK
  refine e343_2 (d := d + 1) ⟨⟨by omega, by omega⟩, fun _ => ⟨⟨by omega, by omega⟩, ⟨by omega, by omega⟩, fun c => ?_, fun c => ?_⟩, fun c => absurd (by decide) c⟩
  · rw [q2 (by omega) (by omega)] at hK; exact rqI_of hK
  refine e343_2 (d := d + 1) ⟨⟨by omega, by omega⟩, fun _ => ⟨⟨by omega, by omega⟩, ⟨by omega, by omega⟩, fun c => ?_, fun c => ?_⟩, fun c => absurd (by decide) c⟩
  · rw [q3 (by omega) (by omega) (by omega)] at hK; exact rqI_of hK
  refine e343_2 (d := d + 1) ⟨⟨by omega, by omega⟩, fun _ => ⟨⟨by omega, by omega⟩, ⟨by omega, by omega⟩, fun c => ?_, fun c => absurd c (by omega)⟩, fun c => absurd (by decide) c⟩
  rw [q4 (by omega) (by omega) (by omega)] at hK; exact rqI_of hK
/-- the figures of v end at e -/
def Fig (I I1 : mI) (b e : Nat) (v : Int) : Prop := (∀ a k, ¬ a = b → I1 a k = I a k) ∧ (∀ (j : Nat) (u : Int), (dB v)[j]? = some u → ld I1 b (e - (dB v).length + j) = u) ∧ ∀ k, (k < e - (dB v).length ∨ e ≤ k) → I1 b k = I b k
theorem dg_vals (hv : 0 ≤ v ∧ v ≤ 9999) : dg1 v 1 = 48 + v % 10 ∧ dg1 v 10 = 48 + v / 10 % 10 ∧ dg1 v 100 = 48 + v / 100 % 10 ∧ dg1 v 1000 = 48 + v / 1000 % 10 := by
  have h : ∀ u : Int, 0 < u → dg1 v u = 48 + v / u % 10 := fun u hu => by
    unfold dg1
    have h1 : Int.tdiv v u = v / u := Int.tdiv_eq_ediv_of_nonneg (by omega)
    have h2 : 0 ≤ v / u := Int.ediv_nonneg (by omega) (by omega)
    rw [h1, Int.tdiv_eq_ediv_of_nonneg h2]
    omega
  refine ⟨?_, h 10 (by decide), h 100 (by decide), h 1000 (by decide)⟩
  rw [h 1 (by decide), Int.ediv_one]
theorem dig_ld (hc : CsC I) {z : Int} (hz : 0 ≤ z ∧ z < 100) : iB (ld I 6 z.toNat) = 48 + z % 10 ∧ iB (ld I 7 z.toNat) = 48 + z / 10 := by
  obtain ⟨h6, h7⟩ := hc.2 z.toNat (by omega)
  rw [h6, h7]
  have e1 : ((48 + z.toNat % 10 : Nat) : Int) = 48 + z % 10 := by omega
  have e2 : ((48 + z.toNat / 10 : Nat) : Int) = 48 + z / 10 := by omega
  rw [e1, e2, iB_id (by omega), iB_id (by omega)]
  exact ⟨rfl, rfl⟩
theorem k344 {K : Int32 → mM → Prop} (hcs : CsC I) (ha : arB S b n) (hv : 0 ≤ v ∧ v ≤ 9999) (he : (dB v).length ≤ e ∧ e ≤ n) (hK : ∀ I1 (y : Int), Fig I I1 b e v → inR y → K (oI y) (bd L I1 R S)) : CallI (d + 1) 344 [.int (oI v), .int (oI (e : Int)), .ref b] (bd L I R S) K := by
  have hn4 := ha.2
  have hb := ha.n53
  obtain ⟨q4, q3, q2, q1⟩ := dB_c v
  obtain ⟨d1, d2, d3, d4⟩ := dg_vals hv
  have n6 : ¬ 6 = b := fun h => hb.2 (by omega)
  have n7 : ¬ 7 = b := fun h => hb.2 (by omega)
  refine e344 (d := d + 1) (n1 := n) ⟨⟨by omega, by omega⟩, fun c => absurd c (by omega), fun _ => ?_⟩
  by_cases c2 : 99 < v
  · have et : Int.tdiv (-v) 100 = -(v / 100) := by rw [Int.neg_tdiv, Int.tdiv_eq_ediv_of_nonneg (by omega)]
    have er : -(v / 100) * 100 - -v = v % 100 := by omega
    have hlen : 3 ≤ (dB v).length := by
      by_cases c3 : 999 < v
      · rw [q4 (by omega) (by omega) c3]; show 3 ≤ 4; decide
      · rw [q3 (by omega) (by omega) c3]; show 3 ≤ 3; decide
    obtain ⟨z1, z2⟩ := dig_ld hcs (z := v % 100) (by omega)
    refine e344_3 (d := d + 1) (n1 := n) ⟨⟨by omega, by omega⟩, fun c => absurd c (by omega), fun _ => ?_⟩
    rw [et, er]
    refine ⟨⟨by omega, by omega⟩, ha, ⟨by omega, by omega⟩, ⟨by omega, by omega⟩, ?_⟩
    rw [z1, z2, show ((e : Int) + (-1)).toNat = e - 1 by omega, show ((e : Int) + (-1) + (-1)).toNat = e - 2 by omega]
    have cs2 : CsC (u2 (u2 I b (e - 1) (oI (48 + v % 100 % 10))) b (e - 2) (oI (48 + v % 100 / 10))) := hcs.ag (fun a k h9 => (v2_ne (by omega)).trans (v2_ne (by omega)))
    obtain ⟨y1, y2⟩ := dig_ld cs2 (z := v / 100) (by omega)
    refine e344_3 (d := d + 1) (n1 := n) ⟨⟨by omega, by omega⟩, fun c => ?_, fun c => absurd (by omega) c⟩
    rw [show - -(v / 100) = v / 100 by omega, y1, y2, show ((e : Int) + (-1) + (-1) + (-1)).toNat = e - 3 by omega, show ((e : Int) + (-1) + (-1) + (-1) + (-1)).toNat = e - 4 by omega]
    have i1 : inR (48 + v % 100 % 10) := ⟨by omega, by omega⟩
    have i2 : inR (48 + v % 100 / 10) := ⟨by omega, by omega⟩
    have i3 : inR (48 + v / 100 % 10) := ⟨by omega, by omega⟩
    have i4 : inR (48 + v / 100 / 10) := ⟨by omega, by omega⟩
    refine ⟨⟨by omega, by omega⟩, ha, ⟨by omega, by omega⟩, fun c4 => ?_, fun c4 => ?_⟩
    · rw [q4 (by omega) (by omega) (by omega)] at he
      have he4 : 4 ≤ e := he.1
      refine ⟨⟨by omega, by omega⟩, inRd rfl, fun _ => rqI_of (hK _ _ ⟨fun a k h9 => ?_, fun j u hj => ?_, fun k hk => ?_⟩ ⟨by omega, by omega⟩), fun c => absurd rfl c⟩
      · rw [v2_ne h9, v2_ne h9, v2_ne h9, v2_ne h9]
      · rw [q4 (by omega) (by omega) (by omega)] at hj ⊢
        show ld _ b (e - 4 + j) = u
        rw [ld_w i4, ld_w i3, ld_w i2, ld_w i1]
        match j, hj with
        | 0, hj => rw [if_pos (by omega), ← Option.some.inj hj, d4]; omega
        | 1, hj => rw [if_neg (by omega), if_pos (by omega), ← Option.some.inj hj, d3]
        | 2, hj => rw [if_neg (by omega), if_neg (by omega), if_pos (by omega), ← Option.some.inj hj, d2]; omega
        | 3, hj => rw [if_neg (by omega), if_neg (by omega), if_neg (by omega), if_pos (by omega), ← Option.some.inj hj, d1]; omega
        | j + 4, hj => exact absurd hj (by simp)
      · rw [q4 (by omega) (by omega) (by omega)] at hk
        have hk2 : k < e - 4 ∨ e ≤ k := hk
        rw [v2_nk (by omega), v2_nk (by omega), v2_nk (by omega), v2_nk (by omega)]
    · rw [q3 (by omega) (by omega) (by omega)] at he
      have he3 : 3 ≤ e := he.1
      refine ⟨inRd rfl, fun _ => rqI_of (hK _ _ ⟨fun a k h9 => ?_, fun j u hj => ?_, fun k hk => ?_⟩ ⟨by omega, by omega⟩), fun c => absurd rfl c⟩
      · rw [v2_ne h9, v2_ne h9, v2_ne h9]
      · rw [q3 (by omega) (by omega) (by omega)] at hj ⊢
        show ld _ b (e - 3 + j) = u
        rw [ld_w i3, ld_w i2, ld_w i1]
        match j, hj with
        | 0, hj => rw [if_pos (by omega), ← Option.some.inj hj, d3]
        | 1, hj => rw [if_neg (by omega), if_pos (by omega), ← Option.some.inj hj, d2]; omega
        | 2, hj => rw [if_neg (by omega), if_neg (by omega), if_pos (by omega), ← Option.some.inj hj, d1]; omega
        | j + 3, hj => exact absurd hj (by simp)
      · rw [q3 (by omega) (by omega) (by omega)] at hk
        have hk2 : k < e - 3 ∨ e ≤ k := hk
        rw [v2_nk (by omega), v2_nk (by omega), v2_nk (by omega)]
  · have hlen : 1 ≤ (dB v).length := by
      by_cases c3 : 9 < v
      · rw [q2 c3 c2]; show 1 ≤ 2; decide
      · rw [q1 c3]; show 1 ≤ 1; decide
    obtain ⟨y1, y2⟩ := dig_ld hcs (z := v) (by omega)
    refine e344_3 (d := d + 1) (n1 := n) ⟨⟨by omega, by omega⟩, fun c => ?_, fun c => absurd (by omega) c⟩
    rw [show - -v = v by omega, y1, y2, show ((e : Int) + (-1)).toNat = e - 1 by omega, show ((e : Int) + (-1) + (-1)).toNat = e - 2 by omega]
    have i3 : inR (48 + v % 10) := ⟨by omega, by omega⟩
    have i4 : inR (48 + v / 10) := ⟨by omega, by omega⟩
    refine ⟨⟨by omega, by omega⟩, ha, ⟨by omega, by omega⟩, fun c4 => ?_, fun c4 => ?_⟩
    · rw [q2 (by omega) (by omega)] at he
      have he4 : 2 ≤ e := he.1
      refine ⟨⟨by omega, by omega⟩, inRd rfl, fun _ => rqI_of (hK _ _ ⟨fun a k h9 => ?_, fun j u hj => ?_, fun k hk => ?_⟩ ⟨by omega, by omega⟩), fun c => absurd rfl c⟩
      · rw [v2_ne h9, v2_ne h9]
      · rw [q2 (by omega) (by omega)] at hj ⊢
        show ld _ b (e - 2 + j) = u
        rw [ld_w i4, ld_w i3]
        match j, hj with
        | 0, hj => rw [if_pos (by omega), ← Option.some.inj hj, d2]; omega
        | 1, hj => rw [if_neg (by omega), if_pos (by omega), ← Option.some.inj hj, d1]
        | j + 2, hj => exact absurd hj (by simp)
      · rw [q2 (by omega) (by omega)] at hk
        have hk2 : k < e - 2 ∨ e ≤ k := hk
        rw [v2_nk (by omega), v2_nk (by omega)]
    · rw [q1 (by omega)] at he
      have he3 : 1 ≤ e := he.1
      refine ⟨inRd rfl, fun _ => rqI_of (hK _ _ ⟨fun a k h9 => ?_, fun j u hj => ?_, fun k hk => ?_⟩ ⟨by omega, by omega⟩), fun c => absurd rfl c⟩
      · rw [v2_ne h9]
      · rw [q1 (by omega)] at hj ⊢
        show ld _ b (e - 1 + j) = u
        rw [ld_w i3]
        match j, hj with
        | 0, hj => rw [if_pos (by omega), ← Option.some.inj hj, d1]
        | j + 1, hj => exact absurd hj (by simp)
      · rw [q1 (by omega)] at hk
        have hk2 : k < e - 1 ∨ e ≤ k := hk
        rw [v2_nk (by omega)]
theorem dB_in (hv : 0 ≤ v ∧ v ≤ 9999) {j : Nat} {u : Int} (h : (dB v)[j]? = some u) : 48 ≤ u ∧ u ≤ 57 := by
  obtain ⟨q4, q3, q2, q1⟩ := dB_c v
  have g : ∀ w : Int, 0 < w → 48 ≤ dg1 v w ∧ dg1 v w ≤ 57 := fun w hw => dg1_in hv.1 hw
  have hm : u ∈ dB v := List.mem_of_getElem? h
  have g1 := g 1 (by decide)
  have g2 := g 10 (by decide)
  have g3 := g 100 (by decide)
  have g4 := g 1000 (by decide)
  by_cases c1 : 9 < v
  · by_cases c2 : 99 < v
    · by_cases c3 : 999 < v
      · rw [q4 c1 c2 c3] at hm
        simp only [List.mem_cons, List.not_mem_nil, or_false] at hm
        rcases hm with e | e | e | e <;> rw [e] <;> assumption
      · rw [q3 c1 c2 c3] at hm
        simp only [List.mem_cons, List.not_mem_nil, or_false] at hm
        rcases hm with e | e | e <;> rw [e] <;> assumption
    · rw [q2 c1 c2] at hm
      simp only [List.mem_cons, List.not_mem_nil, or_false] at hm
      rcases hm with e | e <;> rw [e] <;> assumption
  · rw [q1 c1] at hm
    simp only [List.mem_cons, List.not_mem_nil, or_false] at hm
    rw [hm]; exact g1
theorem dB_pos : 1 ≤ (dB v).length := by
  obtain ⟨q4, q3, q2, q1⟩ := dB_c v
  by_cases c1 : 9 < v
  · by_cases c2 : 99 < v
    · by_cases c3 : 999 < v
      · rw [q4 c1 c2 c3]; show 1 ≤ 4; decide
      · rw [q3 c1 c2 c3]; show 1 ≤ 3; decide
    · rw [q2 c1 c2]; show 1 ≤ 2; decide
  · rw [q1 c1]; show 1 ≤ 1; decide
theorem k339 {K : Option Nat → mM → Prop} (hp : PenS I R S bs n) (hl : bs.length ≤ 1900) (hv : 0 ≤ v ∧ v ≤ 9999) (hK : ∀ I1 R1 S1 n1, Gp I R S I1 R1 S1 n n1 → PenS I1 R1 S1 (bs ++ dB v) n1 → K (some 53) (bd L I1 R1 S1)) : CallR (d + 4) 339 [.ref 53, .int (oI v)] (bd L I R S) K := by
  have hlen := dB_len (v := v)
  refine e339 (d := d + 3) (k343 hv ⟨_, I, rfl, rfl, ⟨by omega, by omega⟩, ?_⟩)
  rw [hp.2.1, show (bs.length : Int) + ((dB v).length : Int) = ((bs.length + (dB v).length : Nat) : Int) by omega]
  refine k333 hp (by omega) hl (fun I1 R1 S1 n1 g p1 hx => ⟨I1, R1, S1, rfl, fun _ => ?_, fun c => absurd p1.1 c⟩)
  obtain ⟨h1, h3, hln, h16, hcs, b, hb, ha, hbv, hr⟩ := p1
  have hn4 := ha.2
  have hb53 := ha.n53
  refine ⟨b, n1, hb, ha, k344 hcs ha hv ⟨by omega, hx⟩ (fun I2 y hf hy => ⟨y, I2, rfl, rfl, hy, hK _ R1 S1 n1 ((g.mm hb (fun a k h9 _ => hf.1 a k h9)).wr (Or.inr rfl)) ?_⟩)⟩
  obtain ⟨f1, f2, f3⟩ := hf
  have hin : inR ((bs.length + (dB v).length : Nat) : Int) := ⟨by omega, by omega⟩
  have e53 : ∀ k, ld I2 53 k = ld I1 53 k := fun k => by unfold ld; rw [f1 53 k (fun e => hb53.1 e.symm)]
  refine ⟨?_, ?_, ?_, h16, hcs.ag (fun a k h9 => (v2_ne (by omega)).trans (f1 a k (by omega))), b, hb, ha, fun j u hj => ?_, fun j => ?_⟩
  · rw [ld_w hin, if_neg (by decide), e53]; exact h1
  · rw [ld_w hin, if_pos rfl, List.length_append]
  · rw [List.length_append]; exact hx
  · rw [ld_o hb53.1]
    by_cases hjl : j < bs.length
    · rw [List.getElem?_append_left hjl] at hj
      rw [← hbv j u hj]
      show (I2 b j).toInt = (I1 b j).toInt
      rw [f3 j (by omega)]
    · rw [List.getElem?_append_right (by omega)] at hj
      have := f2 _ _ hj
      rw [show bs.length + (dB v).length - (dB v).length + (j - bs.length) = j by omega] at this
      exact this
  · rw [ld_o hb53.1]
    by_cases c1 : j < bs.length ∨ bs.length + (dB v).length ≤ j
    · show 0 ≤ (I2 b j).toInt ∧ (I2 b j).toInt ≤ 127
      rw [f3 j (by omega)]; exact hr j
    · obtain ⟨u, hu⟩ : ∃ u, (dB v)[j - bs.length]? = some u := ⟨_, List.getElem?_eq_getElem (by omega)⟩
      have := f2 _ _ hu
      rw [show bs.length + (dB v).length - (dB v).length + (j - bs.length) = j by omega] at this
      rw [this]
      have := dB_in hv hu
      omega
theorem k131 {K : Option Nat → mM → Prop} (hp : PenS I R S bs n) (hl : bs.length ≤ 1900) (hv : 0 ≤ v ∧ v ≤ 9999) (hK : ∀ I1 R1 S1 n1, Gp I R S I1 R1 S1 n n1 → PenS I1 R1 S1 (bs ++ dB v) n1 → K (some 53) (bd L I1 R1 S1)) : CallR (d + 5) 131 [.ref 53, .int (oI v)] (bd L I R S) K :=
  e131 (d := d + 4) (k339 hp hl hv (fun I1 R1 S1 n1 g p1 => ⟨I1, R1, S1, rfl, hK I1 R1 S1 n1 g p1⟩))
end
