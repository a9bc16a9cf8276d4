/-! the reference: act, as it is walked -/
def h301_4 (d L : Nat) (I : Nat → Nat → Int32) (R : Nat → Nat → Option Nat) (S : List (Nat × Nat)) (Q : Option Value → mM → Prop) (x1 : Int) (x2 : Int) (x3 : Int) (w4 : Value) : Prop := Wp d (gb 301 4) [.ref 91, .int (oI x1), .int (oI x2), .int (oI x3), w4] [] (bd L I R S) Q
def h301_6 (d L : Nat) (I : Nat → Nat → Int32) (R : Nat → Nat → Option Nat) (S : List (Nat × Nat)) (Q : Option Value → mM → Prop) (w1 : Value) (x2 : Int) (x3 : Int) (x4 : Int) : Prop := Wp d (gb 301 6) [.ref 91, w1, .int (oI x2), .int (oI x3), .int (oI x4)] [] (bd L I R S) Q
set_option maxRecDepth 4000 in
theorem e301_4 {d L : Nat} {I : Nat → Nat → Int32} {R : Nat → Nat → Option Nat} {S : List (Nat × Nat)} {Q : Option Value → mM → Prop} {A : aS} (hR : RM I A) {x1 : Int} {x2 : Int} {x3 : Int} {w4 : Value} (hE : inR x3 ∧ (inR x1 ∧ (((x3 < x1) → (0 ≤ x3 ∧ x3 < 800) ∧ (h301_4 (d + 1) L (u2 I 153 x3.toNat (oI (iB (A 152 x3.toNat)))) R S Q x1 x2 (x3 + 1) w4)) ∧ (¬ (x3 < x1) → (0 ≤ A 91 65 ∧ A 91 65 < 9) ∧ (WfC (u2 A 91 67 0) ∧ ((((137 = 137 ∨ 137 = 138) ∧ ((u2 A 91 67 0) 91 65).toNat ≤ (A 91 65).toNat) ∨ ((137 = 139 ∨ 137 = 140) ∧ 40 * ((u2 A 91 67 0) 91 65).toNat ≤ (A 91 65).toNat)) ∧ (∀ (I8 : mI) (A9 : aS), (I8 = (u2 (u2 (u2 (u2 I 91 68 (oI x1)) 91 67 (oI 0)) 91 69 (oI 0)) 137 (A 91 65).toNat (oI 0))) → (A9 = (u2 (u2 A 91 67 0) 137 (A 91 65).toNat 0)) → (RM I8 A9) → ∃ (T13 : Nat → Int) (N14 p15 : Nat), Tx I8 T13 N14 p15 ∧ (∀ (I17 : mI), (Fr [] [(91, 69)] I8 I17) → (RM I17 A9) → (Tx I17 T13 N14 (bl T13 N14 p15)) → h301_6 (d + 1) L I17 R S Q (.int (oI x1)) x2 (A 91 66) 1)))))))) : h301_4 (d + 1) L I R S Q x1 x2 x3 w4 := by
  unfold h301_4
  refine xG gb301.2.2.2.2.1 ?_
  refine s4 (x := x3) rfl ?_
  refine s4 (x := x1) rfl ?_
  obtain ⟨g1, hE⟩ := hE
  obtain ⟨g2, hE⟩ := hE
  refine s64 g1 g2 (fun c3 => ?_) (fun c3 => ?_)
  · replace hE := hE.1 c3
    refine s6 (p := 91) rfl ?_
    refine s51 sh91 (by decide) (by decide) rf91_89 ?_
    refine s4 (x := x3) rfl ?_
    refine s6 (p := 91) rfl ?_
    refine s51 sh91 (by decide) (by decide) rf91_88 ?_
    refine s4 (x := x3) rfl ?_
    obtain ⟨g4, hE⟩ := hE
    refine s41 (v := A 152 x3.toNat) sh152 g4 rfl (rdM hR.1 rfl) ?_
    refine s45 sh153 (by decide) g4 rfl ?_
    refine s10 (x := x3) (ls' := [.ref 91, .int (oI x1), .int (oI x2), .int (oI (x3 + 1)), w4]) rfl rfl ?_
    refine s60 ?_
    exact hE
  · replace hE := hE.2 c3
    refine xG gb301.2.2.2.2.2.1 ?_
    refine s6 (p := 91) rfl ?_
    refine s4 (x := x1) rfl ?_
    refine s52 sh91 (by decide) (by decide) ?_
    refine s6 (p := 91) rfl ?_
    refine s0 ?_
    refine s52 sh91 (by decide) (by decide) ?_
    refine s6 (p := 91) rfl ?_
    refine s0 ?_
    refine s52 sh91 (by decide) (by decide) ?_
    refine s6 (p := 91) rfl ?_
    refine s50 (v := A 91 66) sh91 (by decide) (by decide) ((v2_nk (by decide)).trans ((v2_nk (by decide)).trans ((v2_nk (by decide)).trans (rdM hR.1 rfl)))) ?_
    refine s7 (ls' := [.ref 91, .int (oI x1), .int (oI x2), .int (oI (A 91 66)), w4]) (Nat.le_of_ble_eq_true rfl) rfl ?_
    refine s6 (p := 91) rfl ?_
    refine s51 sh91 (by decide) (by decide) rf91_72 ?_
    refine s6 (p := 91) rfl ?_
    refine s50 (v := A 91 65) sh91 (by decide) (by decide) ((v2_nk (by decide)).trans ((v2_nk (by decide)).trans ((v2_nk (by decide)).trans (rdM hR.1 rfl)))) ?_
    refine s0 ?_
    obtain ⟨g5, hE⟩ := hE
    refine s44 sh137 (by decide) g5 rfl ?_
    refine s0 ?_
    refine s7 (ls' := [.ref 91, .int (oI x1), .int (oI x2), .int (oI (A 91 66)), .int (oI 1)]) (Nat.le_of_ble_eq_true rfl) rfl ?_
    refine s6 (p := 91) rfl ?_
    obtain ⟨g6, hE⟩ := hE
    obtain ⟨g7, hE⟩ := hE
    obtain ⟨I8, q10⟩ : ∃ i : mI, i = (u2 (u2 (u2 (u2 I 91 68 (oI x1)) 91 67 (oI 0)) 91 69 (oI 0)) 137 (A 91 65).toNat (oI 0)) := ⟨_, rfl⟩
    obtain ⟨A9, q11⟩ : ∃ i : aS, i = (u2 (u2 A 91 67 0) 137 (A 91 65).toNat 0) := ⟨_, rfl⟩
    have q12 : RM I8 A9 := by rw [q10, q11]; exact (RM.setS (RM.scr (RM.set (RM.scr hR rfl) 91 67 (inRd rfl) rfl) rfl) g6 137 (A 91 65).toNat (inRd rfl) g7)
    replace hE := hE I8 A9 q10 q11 q12
    obtain ⟨T13, N14, p15, k16, hE⟩ := hE
    refine sV rc302 rfl (Nat.le_of_ble_eq_true rfl) ?_
    rw [← q10]
    refine k302 q12 k16 (fun I17 q18 q19 q20 => ?_)
    replace hE := hE I17 q18 q19 q20
    refine s79 ?_
    exact hE
set_option maxRecDepth 4000 in
theorem e301_6 {d L : Nat} {I : Nat → Nat → Int32} {R : Nat → Nat → Option Nat} {S : List (Nat × Nat)} {Q : Option Value → mM → Prop} {A : aS} (hR : RM I A) {w1 : Value} {x2 : Int} {x3 : Int} {x4 : Int} (hE : inR x4 ∧ (((x4 = 0) → Q (some (.int (oI (-1)))) (bd L (u2 (u2 I 91 71 (oI (ld I 91 69))) 91 66 (oI x3)) R S)) ∧ (¬ (x4 = 0) → ((ld I 91 69 < ld I 91 68) → (0 ≤ A 91 65 ∧ A 91 65 < 9) ∧ (((A 137 (A 91 65).toNat < 40) → CallI d 303 [.ref 91, .int (oI ((40 * (A 91 65)) + (A 137 (A 91 65).toNat)))] (bd L I R S) (fun y s => ∃ (y8 : Int) (I9 : mI) (A10 : aS), y = oI y8 ∧ s = bd L I9 R S ∧ inR y8 ∧ RM I9 A10 ∧ (((y8 = 0) → h301_6 (d + 1) L I9 R S Q w1 x2 x3 0) ∧ (¬ (y8 = 0) → (0 ≤ A10 91 65 ∧ A10 91 65 < 9) ∧ (inR (A10 137 (A10 91 65).toNat + 1) ∧ (WfC A10 ∧ ((((137 = 137 ∨ 137 = 138) ∧ (A10 91 65).toNat ≤ (A10 91 65).toNat) ∨ ((137 = 139 ∨ 137 = 140) ∧ 40 * (A10 91 65).toNat ≤ (A10 91 65).toNat)) ∧ (∀ (I19 : mI) (A20 : aS), (I19 = (u2 I9 137 (A10 91 65).toNat (oI (A10 137 (A10 91 65).toNat + 1)))) → (A20 = (u2 A10 137 (A10 91 65).toNat (A10 137 (A10 91 65).toNat + 1))) → (RM I19 A20) → ∃ (T24 : Nat → Int) (N25 p26 : Nat), Tx I19 T24 N25 p26 ∧ (∀ (I28 : mI), (Fr [] [(91, 69)] I19 I28) → (RM I28 A20) → (Tx I28 T24 N25 (bl T24 N25 p26)) → h301_6 (d + 1) L I28 R S Q w1 x2 x3 1))))))))) ∧ (¬ (A 137 (A 91 65).toNat < 40) → h301_6 (d + 1) L I R S Q w1 x2 x3 0))) ∧ (¬ (ld I 91 69 < ld I 91 68) → (0 ≤ A 91 65 ∧ A 91 65 < 9) ∧ (Q (some (.int (oI (A 91 65 + 1 - 1)))) (bd L (u2 (u2 (u2 (u2 I 91 71 (oI (-1))) 138 (A 91 65).toNat (oI x2)) 91 65 (oI (A 91 65 + 1))) 91 87 (oI 0)) R S)))))) : h301_6 (d + 1) L I R S Q w1 x2 x3 x4 := by
  unfold h301_6
  refine xG gb301.2.2.2.2.2.2.1 ?_
  refine s4 (x := x4) rfl ?_
  obtain ⟨g1, hE⟩ := hE
  refine s67 g1 (fun c2 => ?_) (fun c2 => ?_)
  · replace hE := hE.1 c2
    refine xG gb301.2.2.2.2.2.2.2.2.2.2.1 ?_
    refine s6 (p := 91) rfl ?_
    refine s4 (x := x4) rfl ?_
    refine s67 g1 (fun _ => ?_) (fun c3 => absurd c2 c3)
    refine xG gb301.2.2.2.2.2.2.2.2.2.2.2.1 ?_
    refine s6 (p := 91) rfl ?_
    refine s50 (v := ld I 91 69) sh91 (by decide) (by decide) (oI_ld _ _ _) ?_
    refine s79 ?_
    refine xG gb301.2.2.2.2.2.2.2.2.2.2.2.2.1 ?_
    refine s52 sh91 (by decide) (by decide) ?_
    refine s4 (x := x4) rfl ?_
    refine s68 g1 (fun _ => ?_) (fun c4 => absurd c2 c4)
    refine s6 (p := 91) rfl ?_
    refine s4 (x := x3) rfl ?_
    refine s52 sh91 (by decide) (by decide) ?_
    refine s0 ?_
    refine s80 ?_
    exact hE
  · replace hE := hE.2 c2
    refine s6 (p := 91) rfl ?_
    refine s50 (v := ld I 91 69) sh91 (by decide) (by decide) (oI_ld _ _ _) ?_
    refine s6 (p := 91) rfl ?_
    refine s50 (v := ld I 91 68) sh91 (by decide) (by decide) (oI_ld _ _ _) ?_
    refine s64 (ld_inR _ _ _) (ld_inR _ _ _) (fun c5 => ?_) (fun c5 => ?_)
    · replace hE := hE.1 c5
      refine s6 (p := 91) rfl ?_
      refine s51 sh91 (by decide) (by decide) rf91_72 ?_
      refine s6 (p := 91) rfl ?_
      refine s50 (v := A 91 65) sh91 (by decide) (by decide) (rdM hR.1 rfl) ?_
      obtain ⟨g6, hE⟩ := hE
      refine s40 (v := A 137 (A 91 65).toNat) sh137 g6 rfl (rdM hR.1 rfl) ?_
      refine s0 ?_
      refine s64 (inA hR.1 (a := 137) (k := (A 91 65).toNat) rfl) (inRd rfl) (fun c7 => ?_) (fun c7 => ?_)
      · replace hE := hE.1 c7
        refine s6 (p := 91) rfl ?_
        refine s0 ?_
        refine s6 (p := 91) rfl ?_
        refine s50 (v := A 91 65) sh91 (by decide) (by decide) (rdM hR.1 rfl) ?_
        refine s18 ?_
        refine s6 (p := 91) rfl ?_
        refine s51 sh91 (by decide) (by decide) rf91_72 ?_
        refine s6 (p := 91) rfl ?_
        refine s50 (v := A 91 65) sh91 (by decide) (by decide) (rdM hR.1 rfl) ?_
        refine s40 (v := A 137 (A 91 65).toNat) sh137 g6 rfl (rdM hR.1 rfl) ?_
        refine s16 ?_
        refine sI rc303 rfl (Nat.le_of_ble_eq_true rfl) ?_
        refine CallI.mono hE ?_
        rintro _ _ ⟨y8, I9, A10, rfl, rfl, gy8, q11, hE⟩
        refine s67 gy8 (fun c12 => ?_) (fun c12 => ?_)
        · replace hE := hE.1 c12
          refine xG gb301.2.2.2.2.2.2.2.1 ?_
          refine s0 ?_
          refine s79 ?_
          refine xG gb301.2.2.2.2.2.2.2.2.1 ?_
          refine s7 (ls' := [.ref 91, w1, .int (oI x2), .int (oI x3), .int (oI 0)]) (Nat.le_of_ble_eq_true rfl) rfl ?_
          refine s4 (x := 0) rfl ?_
          refine s68 (inRd rfl) (fun _ => ?_) (fun c13 => absurd (by decide) c13)
          refine s60 ?_
          exact hE
        · replace hE := hE.2 c12
          refine s0 ?_
          refine s60 ?_
          refine xG gb301.2.2.2.2.2.2.2.2.1 ?_
          refine s7 (ls' := [.ref 91, w1, .int (oI x2), .int (oI x3), .int (oI 1)]) (Nat.le_of_ble_eq_true rfl) rfl ?_
          refine s4 (x := 1) rfl ?_
          refine s68 (inRd rfl) (fun c14 => absurd c14 (by decide)) (fun _ => ?_)
          refine xG gb301.2.2.2.2.2.2.2.2.2.1 ?_
          refine s6 (p := 91) rfl ?_
          refine s51 sh91 (by decide) (by decide) rf91_72 ?_
          refine s6 (p := 91) rfl ?_
          refine s50 (v := A10 91 65) sh91 (by decide) (by decide) (rdM q11.1 rfl) ?_
          refine s14 ?_
          obtain ⟨g15, hE⟩ := hE
          refine s40 (v := A10 137 (A10 91 65).toNat) sh137 g15 rfl (rdM q11.1 rfl) ?_
          refine s0 ?_
          refine s16 ?_
          refine s44 sh137 (by decide) g15 rfl ?_
          refine s6 (p := 91) rfl ?_
          obtain ⟨g16, hE⟩ := hE
          obtain ⟨g17, hE⟩ := hE
          obtain ⟨g18, hE⟩ := hE
          obtain ⟨I19, q21⟩ : ∃ i : mI, i = (u2 I9 137 (A10 91 65).toNat (oI (A10 137 (A10 91 65).toNat + 1))) := ⟨_, rfl⟩
          obtain ⟨A20, q22⟩ : ∃ i : aS, i = (u2 A10 137 (A10 91 65).toNat (A10 137 (A10 91 65).toNat + 1)) := ⟨_, rfl⟩
          have q23 : RM I19 A20 := by rw [q21, q22]; exact (RM.setS q11 g17 137 (A10 91 65).toNat g16 g18)
          replace hE := hE I19 A20 q21 q22 q23
          obtain ⟨T24, N25, p26, k27, hE⟩ := hE
          refine sV rc302 rfl (Nat.le_of_ble_eq_true rfl) ?_
          rw [← q21]
          refine k302 q23 k27 (fun I28 q29 q30 q31 => ?_)
          replace hE := hE I28 q29 q30 q31
          refine s60 ?_
          exact hE
      · replace hE := hE.2 c7
        refine xG gb301.2.2.2.2.2.2.2.1 ?_
        refine s0 ?_
        refine s79 ?_
        refine xG gb301.2.2.2.2.2.2.2.2.1 ?_
        refine s7 (ls' := [.ref 91, w1, .int (oI x2), .int (oI x3), .int (oI 0)]) (Nat.le_of_ble_eq_true rfl) rfl ?_
        refine s4 (x := 0) rfl ?_
        refine s68 (inRd rfl) (fun _ => ?_) (fun c32 => absurd (by decide) c32)
        refine s60 ?_
        exact hE
    · replace hE := hE.2 c5
      refine xG gb301.2.2.2.2.2.2.2.2.2.2.1 ?_
      refine s6 (p := 91) rfl ?_
      refine s4 (x := x4) rfl ?_
      refine s67 g1 (fun c33 => absurd c33 c2) (fun _ => ?_)
      refine s0 ?_
      refine s60 ?_
      refine xG gb301.2.2.2.2.2.2.2.2.2.2.2.2.1 ?_
      refine s52 sh91 (by decide) (by decide) ?_
      refine s4 (x := x4) rfl ?_
      refine s68 g1 (fun c34 => absurd c34 c2) (fun _ => ?_)
      refine xG gb301.2.2.2.2.2.2.2.2.2.2.2.2.2 ?_
      refine s6 (p := 91) rfl ?_
      refine s51 sh91 (by decide) (by decide) rf91_73 ?_
      refine s6 (p := 91) rfl ?_
      refine s50 (v := A 91 65) sh91 (by decide) (by decide) ((v2_nk (by decide)).trans (rdM hR.1 rfl)) ?_
      refine s4 (x := x2) rfl ?_
      obtain ⟨g35, hE⟩ := hE
      refine s44 sh138 (by decide) g35 rfl ?_
      refine s6 (p := 91) rfl ?_
      refine s13r ?_
      refine s50 (v := A 91 65) sh91 (by decide) (by decide) ((v2_ne (by decide)).trans ((v2_nk (by decide)).trans (rdM hR.1 rfl))) ?_
      refine s0 ?_
      refine s16 ?_
      refine s52 sh91 (by decide) (by decide) ?_
      refine s6 (p := 91) rfl ?_
      refine s0 ?_
      refine s49 sh91 (by decide) (by decide) (by decide) ?_
      refine s6 (p := 91) rfl ?_
      refine s50 (v := A 91 65 + 1) sh91 (by decide) (by decide) ((v2_nk (by decide)).trans (v2_eq)) ?_
      refine s0 ?_
      refine s17 ?_
      refine s80 ?_
      exact hE
set_option maxRecDepth 4000 in
theorem e301 {d L : Nat} {I : Nat → Nat → Int32} {R : Nat → Nat → Option Nat} {S : List (Nat × Nat)} {K : Int32 → mM → Prop} {A : aS} (hR : RM I A) {x1 : Int} {x2 : Int} (hE : inR x1 ∧ (((0 ≤ x1 ∧ x1 ≤ A 91 67) → inR x2 ∧ (inR (Int.tdiv (A 91 0) 100) ∧ (((Int.tdiv (A 91 0) 100 ≤ x2 ∧ x2 ≤ 7) → ((A 91 65 = 8) → K (oI (-3)) (bd L I R S)) ∧ (¬ (A 91 65 = 8) → h301_4 (d + 1) L I R S (rqI K) x1 x2 0 mUn)) ∧ (¬ (Int.tdiv (A 91 0) 100 ≤ x2 ∧ x2 ≤ 7) → K (oI (-2)) (bd L I R S))))) ∧ (¬ (0 ≤ x1 ∧ x1 ≤ A 91 67) → K (oI (-2)) (bd L I R S)))) : CallI (d + 1) 301 [.ref 91, .int (oI x1), .int (oI x2)] (bd L I R S) K := by
  refine cI_of (ls := [.ref 91, .int (oI x1), .int (oI x2), mUn, mUn]) rfl ?_
  refine xG gb301.1 ?_
  refine s4 (x := x1) rfl ?_
  refine s0 ?_
  refine s6 (p := 91) rfl ?_
  refine s50 (v := A 91 67) sh91 (by decide) (by decide) (rdM hR.1 rfl) ?_
  obtain ⟨g1, hE⟩ := hE
  refine sI rc210 rfl (Nat.le_of_ble_eq_true rfl) ?_
  refine k210 g1 (inRd rfl) (inA hR.1 (a := 91) (k := 67) rfl) (fun c2 => ?_) (fun c2 => ?_)
  · replace hE := hE.1 c2
    refine s67 (inRd rfl) (fun c3 => absurd c3 (by decide)) (fun _ => ?_)
    refine s4 (x := x2) rfl ?_
    refine s6 (p := 91) rfl ?_
    refine s50 (v := A 91 0) sh91 (by decide) (by decide) (rdM hR.1 rfl) ?_
    refine s0 ?_
    refine s19 (inA hR.1 (a := 91) (k := 0) rfl) ⟨(inRd rfl), by decide⟩ ?_
    refine s0 ?_
    obtain ⟨g4, hE⟩ := hE
    obtain ⟨g5, hE⟩ := hE
    refine sI rc210 rfl (Nat.le_of_ble_eq_true rfl) ?_
    refine k210 g4 g5 (inRd rfl) (fun c6 => ?_) (fun c6 => ?_)
    · replace hE := hE.1 c6
      refine s68 (inRd rfl) (fun c7 => absurd c7 (by decide)) (fun _ => ?_)
      refine xG gb301.2.2.1 ?_
      refine s6 (p := 91) rfl ?_
      refine s50 (v := A 91 65) sh91 (by decide) (by decide) (rdM hR.1 rfl) ?_
      refine s0 ?_
      refine s62 (inA hR.1 (a := 91) (k := 65) rfl) (inRd rfl) (fun c8 => ?_) (fun c8 => ?_)
      · replace hE := hE.1 c8
        refine s0 ?_
        refine s80 ?_
        exact rqI_of hE
      · replace hE := hE.2 c8
        refine xG gb301.2.2.2.1 ?_
        refine s0 ?_
        refine s7 (ls' := [.ref 91, .int (oI x1), .int (oI x2), .int (oI 0), mUn]) (Nat.le_of_ble_eq_true rfl) rfl ?_
        refine s79 ?_
        exact hE
    · replace hE := hE.2 c6
      refine s68 (inRd rfl) (fun _ => ?_) (fun c9 => absurd (by decide) c9)
      refine s79 ?_
      refine xG gb301.2.1 ?_
      refine s0 ?_
      refine s80 ?_
      exact rqI_of hE
  · replace hE := hE.2 c2
    refine s67 (inRd rfl) (fun _ => ?_) (fun c10 => absurd (by decide) c10)
    refine xG gb301.2.1 ?_
    refine s0 ?_
    refine s80 ?_
    exact rqI_of hE
