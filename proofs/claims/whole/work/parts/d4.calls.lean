section
variable {R : mR} {S : mSh} {I I1 : mI} {A : aS} {n : Nat}
theorem CX.gr {sc year code kn : Int} (h : CX R S I A n) (r1 : RC R S I1 A) (g1 : GrC A I1 sc year code kn) (k1 : GrK I1 sc year code kn (ld I 8 9)) (hk : ∀ a k, a = 8 ∨ a = 77 ∨ a = 81 ∨ a = 82 ∨ a = 83 → I1 a k = I a k) : CX R S I1 A n := by
  have l : ∀ a k, a = 8 ∨ a = 77 ∨ a = 81 ∨ a = 82 ∨ a = 83 → ld I1 a k = ld I a k := fun a k ha => by unfold ld; rw [hk a k ha]
  have e9 := l 8 9 (by omega)
  obtain ⟨a1, a2, a3, a4, a5⟩ := k1
  refine ⟨r1, fun sc' y' c' k' _ hg => ?_, ⟨(l 81 0 (by omega)).trans h.2.2.1.1, fun sc' hours hs hg => ?_⟩, ⟨by rw [e9]; exact h.2.2.2.1, by rw [e9, a5]; omega, by rw [e9, l 77 15 (by omega)]; exact h.2.2.2.2.2⟩⟩
  · obtain ⟨b1, b2, b3, b4, -⟩ := hg
    rw [← b1, ← b2, ← b3, ← b4, a1, a2, a3, a4]
    exact g1
  · have hg2 : EnK I sc' hours (ld I 8 9) := by
      unfold EnK at hg
      rw [e9, l 77 13 (by omega), l 77 14 (by omega), l 77 15 (by omega)] at hg
      exact hg
    have := h.2.2.1.2 sc' hours hs hg2
    unfold EnC
    rw [l 82 _ (by omega), l 77 11 (by omega), l 77 12 (by omega)]
    exact ⟨this.1, this.2.1, this.2.2.1, fun c hc => (l 83 c (by omega)).trans (this.2.2.2 c hc)⟩
theorem CX.en {sc hours : Int} (h : CX R S I A n) (r1 : RC R S I1 A) (g1 : EnC A sc hours I1) (k1 : EnK I1 sc hours (ld I 8 9)) (h81 : ld I1 81 0 = 0) (hk : ∀ a k, a = 8 ∨ (70 ≤ a ∧ a ≤ 73) → I1 a k = I a k) : CX R S I1 A n := by
  have l : ∀ a k, a = 8 ∨ (70 ≤ a ∧ a ≤ 73) → ld I1 a k = ld I a k := fun a k ha => by unfold ld; rw [hk a k ha]
  have e9 := l 8 9 (by omega)
  obtain ⟨a1, a2, a3⟩ := k1
  refine ⟨r1, fun sc' y' c' k' hs hg => ?_, ⟨h81, fun sc' hours' hs hg => ?_⟩, ⟨by rw [e9]; exact h.2.2.2.1, by rw [e9, l 70 19 (by omega)]; exact h.2.2.2.2.1, by rw [e9, a3]; omega⟩⟩
  · have hg2 : GrK I sc' y' c' k' (ld I 8 9) := by
      unfold GrK at hg
      rw [e9, l 70 15 (by omega), l 70 16 (by omega), l 70 17 (by omega), l 70 18 (by omega), l 70 19 (by omega)] at hg
      exact hg
    have := h.2.1 sc' y' c' k' hs hg2
    refine ⟨⟨(l 70 9 (by omega)).trans this.1.1, this.1.2.1, (hk 70 14 (by omega)).trans this.1.2.2.1, fun i hi => ?_⟩, ?_⟩
    · rw [l 71 _ (by omega), l 72 _ (by omega), l 73 _ (by omega)]
      exact this.1.2.2.2 i hi
    · rw [l 70 10 (by omega), l 70 11 (by omega), l 70 12 (by omega), l 70 13 (by omega)]
      exact this.2
  · obtain ⟨b1, b2, -⟩ := hg
    rw [← b1, ← b2, a1, a2]
    exact g1
theorem fwS_in {c d : Int} (hC : WfC A) : 0 ≤ fwS A c d ∧ fwS A c d ≤ 9999 := by
  have e := tlS_one (A := A) (h := fwE A c d) (y := Int.tdiv d 100) (ow := 0) (b := 8) hC (by omega)
  have i := tlS_in (A := A) (h := fwE A c d) (y := Int.tdiv d 100) (kd := ckd 8) (mask := 1) (ow := 0) hC
  unfold fwS
  split
  · omega
  · rw [← e]; omega
theorem fesL_in {c : Int} (hC : WfC A) : ∀ w : Nat, 0 ≤ fesL A c w ∧ fesL A c w ≤ 9999 * w
  | 0 => by show (0 : Int) ≤ 0 ∧ (0 : Int) ≤ _; omega
  | w + 1 => by
    have ih := fesL_in (c := c) hC w
    have i := fwS_in (c := c) (d := (5 * w : Nat)) hC
    show 0 ≤ fesL A c w + fwS A c (5 * w : Nat) ∧ fesL A c w + fwS A c (5 * w : Nat) ≤ _
    omega
end
set_option maxRecDepth 4000 in
theorem e26 {d L : Nat} {I : Nat → Nat → Int32} {R : Nat → Nat → Option Nat} {S : List (Nat × Nat)} {K : Int32 → mM → Prop} {A : aS} (hC : RC R S I A) {x1 : Int} {x2 : Int} {x3 : Int} {x4 : Int} {x5 : Int} (hE : inR x1 ∧ (inR (A 91 2 - 1) ∧ (((0 ≤ x1 ∧ x1 ≤ A 91 2 - 1) → inR x2 ∧ (((0 ≤ x2 ∧ x2 ≤ 7) → inR x3 ∧ (((0 ≤ x3 ∧ x3 ≤ 7) → inR x4 ∧ (((0 ≤ x4 ∧ x4 ≤ 799) → CallV (d + 2) 161 [.ref 70, .int (oI x1), .int (oI x2), .int (oI x3), .int (oI x4), .int (oI (ld I 8 9))] (bd L I R S) (fun s => ∃ (I15 : mI), s = bd L I15 R S ∧ RC R S I15 A ∧ (inR x5 ∧ ((x5 = 0 → K (oI (ld I15 70 10)) (bd L I15 R S)) ∧ (x5 = 1 → K (oI (ld I15 70 11)) (bd L I15 R S)) ∧ (x5 = 2 → K (oI (ld I15 70 12)) (bd L I15 R S)) ∧ (x5 = 3 → K (oI (ld I15 70 13)) (bd L I15 R S)) ∧ (x5 = 4 → K (oI (ld I15 70 14)) (bd L I15 R S)) ∧ (x5 = 5 → K (oI (ld I15 70 9)) (bd L I15 R S)) ∧ (¬ x5 = 0 ∧ ¬ x5 = 1 ∧ ¬ x5 = 2 ∧ ¬ x5 = 3 ∧ ¬ x5 = 4 ∧ ¬ x5 = 5 → K (oI (-1)) (bd L I15 R S)))))) ∧ (¬ (0 ≤ x4 ∧ x4 ≤ 799) → K (oI (-1)) (bd L I R S)))) ∧ (¬ (0 ≤ x3 ∧ x3 ≤ 7) → K (oI (-1)) (bd L I R S)))) ∧ (¬ (0 ≤ x2 ∧ x2 ≤ 7) → K (oI (-1)) (bd L I R S)))) ∧ (¬ (0 ≤ x1 ∧ x1 ≤ A 91 2 - 1) → K (oI (-1)) (bd L I R S))))) : CallI (d + 3) 26 [.ref 8, .int (oI x1), .int (oI x2), .int (oI x3), .int (oI x4), .int (oI x5)] (bd L I R S) K := by
  refine cI_of (ls := [.ref 8, .int (oI x1), .int (oI x2), .int (oI x3), .int (oI x4), .int (oI x5)]) rfl ?_
  refine xG gb26.1 ?_
  refine s6 (p := 8) rfl ?_
  refine s4 (x := x1) rfl ?_
  refine s4 (x := x2) rfl ?_
  refine s4 (x := x3) rfl ?_
  refine s4 (x := x4) rfl ?_
  refine sI rc27 rfl (Nat.le_of_ble_eq_true rfl) ?_
  refine cI_of (ls := [.ref 8, .int (oI x1), .int (oI x2), .int (oI x3), .int (oI x4)]) rfl ?_
  refine xG gb27.1 ?_
  refine s6 (p := 8) rfl ?_
  refine s4 (x := x1) rfl ?_
  refine sI rc9 rfl (Nat.le_of_ble_eq_true rfl) ?_
  refine cI_of (ls := [.ref 8, .int (oI x1)]) rfl ?_
  refine xG gb9 ?_
  refine s4 (x := x1) rfl ?_
  refine s0 ?_
  refine s6 (p := 8) rfl ?_
  refine s51 sh8 (by decide) (by decide) rf8_0 ?_
  refine s50 (v := A 91 2) sh9 (by decide) (by decide) (rdC hC.1 rfl) ?_
  refine s0 ?_
  refine s17 ?_
  obtain ⟨g1, hE⟩ := hE
  obtain ⟨g2, hE⟩ := hE
  refine sI rc3 rfl (Nat.le_of_ble_eq_true rfl) ?_
  refine k3 g1 (inRd rfl) g2 (fun c3 => ?_) (fun c3 => ?_)
  · replace hE := hE.1 c3
    refine s84 (by decide) ?_
    refine rqI_of ?_
    refine s67 (inRd rfl) (fun c4 => absurd c4 (by decide)) (fun _ => ?_)
    refine s4 (x := x2) rfl ?_
    refine sI rc22 rfl (Nat.le_of_ble_eq_true rfl) ?_
    refine cI_of (ls := [.int (oI x2)]) rfl ?_
    refine xG gb22 ?_
    refine s4 (x := x2) rfl ?_
    refine s0 ?_
    refine s0 ?_
    obtain ⟨g5, hE⟩ := hE
    refine sI rc3 rfl (Nat.le_of_ble_eq_true rfl) ?_
    refine k3 g5 (inRd rfl) (inRd rfl) (fun c6 => ?_) (fun c6 => ?_)
    · replace hE := hE.1 c6
      refine s84 (by decide) ?_
      refine rqI_of ?_
      refine s67 (inRd rfl) (fun c7 => absurd c7 (by decide)) (fun _ => ?_)
      refine s4 (x := x3) rfl ?_
      refine sI rc22 rfl (Nat.le_of_ble_eq_true rfl) ?_
      refine cI_of (ls := [.int (oI x3)]) rfl ?_
      refine xG gb22 ?_
      refine s4 (x := x3) rfl ?_
      refine s0 ?_
      refine s0 ?_
      obtain ⟨g8, hE⟩ := hE
      refine sI rc3 rfl (Nat.le_of_ble_eq_true rfl) ?_
      refine k3 g8 (inRd rfl) (inRd rfl) (fun c9 => ?_) (fun c9 => ?_)
      · replace hE := hE.1 c9
        refine s84 (by decide) ?_
        refine rqI_of ?_
        refine s67 (inRd rfl) (fun c10 => absurd c10 (by decide)) (fun _ => ?_)
        refine s4 (x := x4) rfl ?_
        refine sI rc13 rfl (Nat.le_of_ble_eq_true rfl) ?_
        refine cI_of (ls := [.int (oI x4)]) rfl ?_
        refine xG gb13 ?_
        refine s4 (x := x4) rfl ?_
        refine s0 ?_
        refine s0 ?_
        obtain ⟨g11, hE⟩ := hE
        refine sI rc3 rfl (Nat.le_of_ble_eq_true rfl) ?_
        refine k3 g11 (inRd rfl) (inRd rfl) (fun c12 => ?_) (fun c12 => ?_)
        · replace hE := hE.1 c12
          refine s84 (by decide) ?_
          refine rqI_of ?_
          refine s67 (inRd rfl) (fun c13 => absurd c13 (by decide)) (fun _ => ?_)
          refine s0 ?_
          refine s60 ?_
          refine xG gb27.2.2 ?_
          refine s84 (by decide) ?_
          refine rqI_of ?_
          refine s68 (inRd rfl) (fun c14 => absurd c14 (by decide)) (fun _ => ?_)
          refine xG gb26.2 ?_
          refine s6 (p := 8) rfl ?_
          refine s51 sh8 (by decide) (by decide) rf8_5 ?_
          refine s4 (x := x1) rfl ?_
          refine s4 (x := x2) rfl ?_
          refine s4 (x := x3) rfl ?_
          refine s4 (x := x4) rfl ?_
          refine s6 (p := 8) rfl ?_
          refine s50 (v := ld I 8 9) sh8 (by decide) (by decide) (oI_ld _ _ _) ?_
          refine sV rc161 rfl (Nat.le_of_ble_eq_true rfl) ?_
          refine CallV.mono hE ?_
          rintro _ ⟨I15, rfl, q16, hE⟩
          refine s6 (p := 8) rfl ?_
          refine s51 sh8 (by decide) (by decide) rf8_5 ?_
          refine s4 (x := x5) rfl ?_
          refine sI rc167 rfl (Nat.le_of_ble_eq_true rfl) ?_
          refine cI_of (ls := [.ref 70, .int (oI x5)]) rfl ?_
          refine xG gb167.1 ?_
          refine s4 (x := x5) rfl ?_
          obtain ⟨g18, hE⟩ := hE
          refine s76 g18 ?_
          by_cases c19 : x5 = 0
          · replace hE := hE.1 c19
            rw [show mSel ((jSW.getD 167 []).getD 0 []) (x5 - 0) = 1 by rw [c19]; rfl]
            refine xG gb167.2.1 ?_
            refine s6 (p := 70) rfl ?_
            refine s50 (v := ld I15 70 10) sh70 (by decide) (by decide) (oI_ld _ _ _) ?_
            refine s80 ?_
            refine rqI_of ?_
            refine s80 ?_
            exact rqI_of hE
          replace hE := hE.2
          by_cases c20 : x5 = 1
          · replace hE := hE.1 c20
            rw [show mSel ((jSW.getD 167 []).getD 0 []) (x5 - 0) = 2 by rw [c20]; rfl]
            refine xG gb167.2.2.1 ?_
            refine s6 (p := 70) rfl ?_
            refine s50 (v := ld I15 70 11) sh70 (by decide) (by decide) (oI_ld _ _ _) ?_
            refine s80 ?_
            refine rqI_of ?_
            refine s80 ?_
            exact rqI_of hE
          replace hE := hE.2
          by_cases c21 : x5 = 2
          · replace hE := hE.1 c21
            rw [show mSel ((jSW.getD 167 []).getD 0 []) (x5 - 0) = 3 by rw [c21]; rfl]
            refine xG gb167.2.2.2.1 ?_
            refine s6 (p := 70) rfl ?_
            refine s50 (v := ld I15 70 12) sh70 (by decide) (by decide) (oI_ld _ _ _) ?_
            refine s80 ?_
            refine rqI_of ?_
            refine s80 ?_
            exact rqI_of hE
          replace hE := hE.2
          by_cases c22 : x5 = 3
          · replace hE := hE.1 c22
            rw [show mSel ((jSW.getD 167 []).getD 0 []) (x5 - 0) = 4 by rw [c22]; rfl]
            refine xG gb167.2.2.2.2.1 ?_
            refine s6 (p := 70) rfl ?_
            refine s50 (v := ld I15 70 13) sh70 (by decide) (by decide) (oI_ld _ _ _) ?_
            refine s80 ?_
            refine rqI_of ?_
            refine s80 ?_
            exact rqI_of hE
          replace hE := hE.2
          by_cases c23 : x5 = 4
          · replace hE := hE.1 c23
            rw [show mSel ((jSW.getD 167 []).getD 0 []) (x5 - 0) = 5 by rw [c23]; rfl]
            refine xG gb167.2.2.2.2.2.1 ?_
            refine s6 (p := 70) rfl ?_
            refine s50 (v := ld I15 70 14) sh70 (by decide) (by decide) (oI_ld _ _ _) ?_
            refine s80 ?_
            refine rqI_of ?_
            refine s80 ?_
            exact rqI_of hE
          replace hE := hE.2
          by_cases c24 : x5 = 5
          · replace hE := hE.1 c24
            rw [show mSel ((jSW.getD 167 []).getD 0 []) (x5 - 0) = 6 by rw [c24]; rfl]
            refine xG gb167.2.2.2.2.2.2.1 ?_
            refine s6 (p := 70) rfl ?_
            refine s50 (v := ld I15 70 9) sh70 (by decide) (by decide) (oI_ld _ _ _) ?_
            refine s80 ?_
            refine rqI_of ?_
            refine s80 ?_
            exact rqI_of hE
          replace hE := hE.2
          replace hE := hE ⟨c19, c20, c21, c22, c23, c24⟩
          rw [show mSel ((jSW.getD 167 []).getD 0 []) (x5 - 0) = 7 by exact mSel_def (lo := 0) (vs := [0, 1, 2, 3, 4, 5]) rfl (by intro v hv; simp only [List.mem_cons, List.not_mem_nil, or_false] at hv; omega)]
          refine xG gb167.2.2.2.2.2.2.2 ?_
          refine s0 ?_
          refine s80 ?_
          refine rqI_of ?_
          refine s80 ?_
          exact rqI_of hE
        · replace hE := hE.2 c12
          refine s84 (by decide) ?_
          refine rqI_of ?_
          refine s67 (inRd rfl) (fun _ => ?_) (fun c25 => absurd (by decide) c25)
          refine xG gb27.2.1 ?_
          refine s0 ?_
          refine s79 ?_
          refine xG gb27.2.2 ?_
          refine s84 (by decide) ?_
          refine rqI_of ?_
          refine s68 (inRd rfl) (fun _ => ?_) (fun c26 => absurd (by decide) c26)
          refine s0 ?_
          refine s80 ?_
          exact rqI_of hE
      · replace hE := hE.2 c9
        refine s84 (by decide) ?_
        refine rqI_of ?_
        refine s67 (inRd rfl) (fun _ => ?_) (fun c27 => absurd (by decide) c27)
        refine xG gb27.2.1 ?_
        refine s0 ?_
        refine s79 ?_
        refine xG gb27.2.2 ?_
        refine s84 (by decide) ?_
        refine rqI_of ?_
        refine s68 (inRd rfl) (fun _ => ?_) (fun c28 => absurd (by decide) c28)
        refine s0 ?_
        refine s80 ?_
        exact rqI_of hE
    · replace hE := hE.2 c6
      refine s84 (by decide) ?_
      refine rqI_of ?_
      refine s67 (inRd rfl) (fun _ => ?_) (fun c29 => absurd (by decide) c29)
      refine xG gb27.2.1 ?_
      refine s0 ?_
      refine s79 ?_
      refine xG gb27.2.2 ?_
      refine s84 (by decide) ?_
      refine rqI_of ?_
      refine s68 (inRd rfl) (fun _ => ?_) (fun c30 => absurd (by decide) c30)
      refine s0 ?_
      refine s80 ?_
      exact rqI_of hE
  · replace hE := hE.2 c3
    refine s84 (by decide) ?_
    refine rqI_of ?_
    refine s67 (inRd rfl) (fun _ => ?_) (fun c31 => absurd (by decide) c31)
    refine xG gb27.2.1 ?_
    refine s0 ?_
    refine s79 ?_
    refine xG gb27.2.2 ?_
    refine s84 (by decide) ?_
    refine rqI_of ?_
    refine s68 (inRd rfl) (fun _ => ?_) (fun c32 => absurd (by decide) c32)
    refine s0 ?_
    refine s80 ?_
    exact rqI_of hE
set_option maxRecDepth 4000 in
theorem q26 {d L n : Nat} {I : mI} {R : mR} {S : mSh} {A : aS} {K : Int32 → mM → Prop} {x1 : Int} {x2 : Int} {x3 : Int} {x4 : Int} {x5 : Int} (hX : CX R S I A n) (hW : WF A) (hn : n ≤ 100000) (rx1 : inR x1) (rx2 : inR x2) (rx3 : inR x3) (rx4 : inR x4) (rx5 : inR x5) (hK : ∀ I1, FK I I1 → CX R S I1 (o259 A x1 x2 x3 x4 x5).2 (n + 1) → K (oI (o259 A x1 x2 x3 x4 x5).1) (bd L I1 R S)) : CallI (d + 30) 26 [.ref 8, .int (oI x1), .int (oI x2), .int (oI x3), .int (oI x4), .int (oI x5)] (bd L I R S) K := by
  have hC := hX.1
  have hA := hW.1
  have w0 := hA.1
  have w1 := hA.2.1
  have w2 := hA.2.2.1
  have w3 : 0 ≤ A 91 3 ∧ A 91 3 ≤ 850 := hA.2.2.2.1
  have ty := today_year hA
  have c9 := hX.2.2.2.1
  refine e26 (d := d + 27) hC ?_
  refine ⟨by first | assumption | exact inRd rfl | omega | exact ⟨by omega, by omega⟩ | (unfold WnOk; omega) | exact hW.1 | exact hW.2.1 | exact hW.2.2.1 | exact hW.2.2.2.1 | exact hW.2.2.2.2.1 | exact hW.2.2.2.2.2.2.2.2.2.1 | exact hW.2.2.2.2.2.2.2.2.2.2.1 | (constructor <;> omega), ?_⟩
  refine ⟨by first | assumption | exact inRd rfl | omega | exact ⟨by omega, by omega⟩ | (unfold WnOk; omega) | exact hW.1 | exact hW.2.1 | exact hW.2.2.1 | exact hW.2.2.2.1 | exact hW.2.2.2.2.1 | exact hW.2.2.2.2.2.2.2.2.2.1 | exact hW.2.2.2.2.2.2.2.2.2.2.1 | (constructor <;> omega), ?_⟩
  refine ⟨fun c1 => ?_, fun c1 => ?_⟩
  · refine ⟨by first | assumption | exact inRd rfl | omega | exact ⟨by omega, by omega⟩ | (unfold WnOk; omega) | exact hW.1 | exact hW.2.1 | exact hW.2.2.1 | exact hW.2.2.2.1 | exact hW.2.2.2.2.1 | exact hW.2.2.2.2.2.2.2.2.2.1 | exact hW.2.2.2.2.2.2.2.2.2.2.1 | (constructor <;> omega), ?_⟩
    refine ⟨fun c2 => ?_, fun c2 => ?_⟩
    · refine ⟨by first | assumption | exact inRd rfl | omega | exact ⟨by omega, by omega⟩ | (unfold WnOk; omega) | exact hW.1 | exact hW.2.1 | exact hW.2.2.1 | exact hW.2.2.2.1 | exact hW.2.2.2.2.1 | exact hW.2.2.2.2.2.2.2.2.2.1 | exact hW.2.2.2.2.2.2.2.2.2.2.1 | (constructor <;> omega), ?_⟩
      refine ⟨fun c3 => ?_, fun c3 => ?_⟩
      · refine ⟨by first | assumption | exact inRd rfl | omega | exact ⟨by omega, by omega⟩ | (unfold WnOk; omega) | exact hW.1 | exact hW.2.1 | exact hW.2.2.1 | exact hW.2.2.2.1 | exact hW.2.2.2.2.1 | exact hW.2.2.2.2.2.2.2.2.2.1 | exact hW.2.2.2.2.2.2.2.2.2.2.1 | (constructor <;> omega), ?_⟩
        refine ⟨fun c4 => ?_, fun c4 => ?_⟩
        · have hch : inR (ld I 8 9) := ld_inR I 8 9
          refine k161 (d := d) hC hA hW.2.1 hW.2.2.2.2.2.2.2.2.2.2.1 hW.2.2.1 (by omega) (by omega) (by omega) (by omega) hch (fun hg => hX.2.1 x1 x2 x3 x4 (by omega) hg) (fun I1 q1 r1 g1 k1 => ?_)
          refine ⟨I1, rfl, r1, ?_⟩
          have hX1 := CX.up (hX.gr r1 g1 k1 (fun a k ha => by rcases ha with rfl | rfl | rfl | rfl | rfl <;> exact q1 _ k rfl)) (Nat.le_succ n)
          have hF : FK I I1 := Fr.FK q1 rfl
          have e14 : oI (ld I1 70 14) = oI (lnSum (gtL A x1 x2 x3 x4)) := (oI_ld I1 70 14).symm.trans g1.1.2.2.1
          refine ⟨rx5, fun c => ?_, fun c => ?_, fun c => ?_, fun c => ?_, fun c => ?_, fun c => ?_, fun c => ?_⟩
          · rw [g1.2.1]
            have ho : o259 A x1 x2 x3 x4 x5 = (avS A x1 x2 x3 x4, A) := by
              unfold o259
              rw [if_pos (by omega), if_pos (by omega), if_pos (by omega), if_pos (by omega), if_pos (by omega), if_pos (by omega)]
            rw [ho] at hK
            exact hK I1 hF hX1
          · rw [g1.2.2.1]
            have ho : o259 A x1 x2 x3 x4 x5 = (opS A x1 x2 x4, A) := by
              unfold o259
              rw [if_pos (by omega), if_pos (by omega), if_pos (by omega), if_pos (by omega), if_pos (by omega), if_neg (by omega), if_pos (by omega)]
            rw [ho] at hK
            exact hK I1 hF hX1
          · rw [g1.2.2.2.1]
            have ho : o259 A x1 x2 x3 x4 x5 = (puL A x1 x2 x4 (A 91 1).toNat, A) := by
              unfold o259
              rw [if_pos (by omega), if_pos (by omega), if_pos (by omega), if_pos (by omega), if_pos (by omega), if_neg (by omega), if_neg (by omega), if_pos (by omega)]
            rw [ho] at hK
            exact hK I1 hF hX1
          · rw [g1.2.2.2.2]
            have ho : o259 A x1 x2 x3 x4 x5 = (sfS A x1 x2 x3, A) := by
              unfold o259
              rw [if_pos (by omega), if_pos (by omega), if_pos (by omega), if_pos (by omega), if_pos (by omega), if_neg (by omega), if_neg (by omega), if_neg (by omega), if_pos (by omega)]
            rw [ho] at hK
            exact hK I1 hF hX1
          · rw [e14]
            have ho : o259 A x1 x2 x3 x4 x5 = (lnSum (gtL A x1 x2 x3 x4), A) := by
              unfold o259
              rw [if_pos (by omega), if_pos (by omega), if_pos (by omega), if_pos (by omega), if_pos (by omega), if_neg (by omega), if_neg (by omega), if_neg (by omega), if_neg (by omega), if_pos (by omega)]
            rw [ho] at hK
            exact hK I1 hF hX1
          · rw [g1.1.1]
            have ho : o259 A x1 x2 x3 x4 x5 = (((gtL A x1 x2 x3 x4).length : Int), A) := by
              unfold o259
              rw [if_pos (by omega), if_pos (by omega), if_pos (by omega), if_pos (by omega), if_pos (by omega), if_neg (by omega), if_neg (by omega), if_neg (by omega), if_neg (by omega), if_neg (by omega)]
            rw [ho] at hK
            exact hK I1 hF hX1
          · have ho : o259 A x1 x2 x3 x4 x5 = (-1, A) := by
              unfold o259
              rw [if_pos (by omega), if_pos (by omega), if_pos (by omega), if_pos (by omega), if_neg (by omega)]
            rw [ho] at hK
            exact hK I1 hF hX1
        · have ho : o259 A x1 x2 x3 x4 x5 = ((-1), A) := by
            unfold o259
            repeat' split
            all_goals first | (exfalso; omega) | with_reducible rfl
          rw [ho] at hK
          exact hK I (FK.refl I) (hX.up (Nat.le_succ n))
      · have ho : o259 A x1 x2 x3 x4 x5 = ((-1), A) := by
          unfold o259
          repeat' split
          all_goals first | (exfalso; omega) | with_reducible rfl
        rw [ho] at hK
        exact hK I (FK.refl I) (hX.up (Nat.le_succ n))
    · have ho : o259 A x1 x2 x3 x4 x5 = ((-1), A) := by
        unfold o259
        repeat' split
        all_goals first | (exfalso; omega) | with_reducible rfl
      rw [ho] at hK
      exact hK I (FK.refl I) (hX.up (Nat.le_succ n))
  · have ho : o259 A x1 x2 x3 x4 x5 = ((-1), A) := by
      unfold o259
      repeat' split
      all_goals first | (exfalso; omega) | with_reducible rfl
    rw [ho] at hK
    exact hK I (FK.refl I) (hX.up (Nat.le_succ n))
set_option maxRecDepth 4000 in
theorem e28 {d L : Nat} {I : Nat → Nat → Int32} {R : Nat → Nat → Option Nat} {S : List (Nat × Nat)} {K : Int32 → mM → Prop} {A : aS} (hC : RC R S I A) {x1 : Int} {x2 : Int} {x3 : Int} {x4 : Int} {x5 : Int} {x6 : Int} (hE : inR x1 ∧ (inR (A 91 2 - 1) ∧ (((0 ≤ x1 ∧ x1 ≤ A 91 2 - 1) → inR x2 ∧ (((0 ≤ x2 ∧ x2 ≤ 7) → inR x3 ∧ (((0 ≤ x3 ∧ x3 ≤ 7) → inR x4 ∧ (((0 ≤ x4 ∧ x4 ≤ 799) → CallV (d + 2) 161 [.ref 70, .int (oI x1), .int (oI x2), .int (oI x3), .int (oI x4), .int (oI (ld I 8 9))] (bd L I R S) (fun s => ∃ (I15 : mI), s = bd L I15 R S ∧ RC R S I15 A ∧ (inR x5 ∧ (inR (ld I15 70 9 - 1) ∧ (((0 ≤ x5 ∧ x5 ≤ ld I15 70 9 - 1) → inR x6 ∧ ((x6 = 0 → (0 ≤ x5 ∧ x5 < 2461) ∧ (K (oI (ld I15 71 x5.toNat)) (bd L I15 R S))) ∧ (x6 = 1 → (0 ≤ x5 ∧ x5 < 2461) ∧ (K (oI (ld I15 72 x5.toNat)) (bd L I15 R S))) ∧ (x6 = 2 → (0 ≤ x5 ∧ x5 < 2461) ∧ (K (oI (ld I15 73 x5.toNat)) (bd L I15 R S))) ∧ (¬ x6 = 0 ∧ ¬ x6 = 1 ∧ ¬ x6 = 2 → K (oI (-1000000)) (bd L I15 R S)))) ∧ (¬ (0 ≤ x5 ∧ x5 ≤ ld I15 70 9 - 1) → K (oI (-1000000)) (bd L I15 R S))))))) ∧ (¬ (0 ≤ x4 ∧ x4 ≤ 799) → K (oI (-1000000)) (bd L I R S)))) ∧ (¬ (0 ≤ x3 ∧ x3 ≤ 7) → K (oI (-1000000)) (bd L I R S)))) ∧ (¬ (0 ≤ x2 ∧ x2 ≤ 7) → K (oI (-1000000)) (bd L I R S)))) ∧ (¬ (0 ≤ x1 ∧ x1 ≤ A 91 2 - 1) → K (oI (-1000000)) (bd L I R S))))) : CallI (d + 3) 28 [.ref 8, .int (oI x1), .int (oI x2), .int (oI x3), .int (oI x4), .int (oI x5), .int (oI x6)] (bd L I R S) K := by
  refine cI_of (ls := [.ref 8, .int (oI x1), .int (oI x2), .int (oI x3), .int (oI x4), .int (oI x5), .int (oI x6)]) rfl ?_
  refine xG gb28.1 ?_
  refine s6 (p := 8) rfl ?_
  refine s4 (x := x1) rfl ?_
  refine s4 (x := x2) rfl ?_
  refine s4 (x := x3) rfl ?_
  refine s4 (x := x4) rfl ?_
  refine sI rc27 rfl (Nat.le_of_ble_eq_true rfl) ?_
  refine cI_of (ls := [.ref 8, .int (oI x1), .int (oI x2), .int (oI x3), .int (oI x4)]) rfl ?_
  refine xG gb27.1 ?_
  refine s6 (p := 8) rfl ?_
  refine s4 (x := x1) rfl ?_
  refine sI rc9 rfl (Nat.le_of_ble_eq_true rfl) ?_
  refine cI_of (ls := [.ref 8, .int (oI x1)]) rfl ?_
  refine xG gb9 ?_
  refine s4 (x := x1) rfl ?_
  refine s0 ?_
  refine s6 (p := 8) rfl ?_
  refine s51 sh8 (by decide) (by decide) rf8_0 ?_
  refine s50 (v := A 91 2) sh9 (by decide) (by decide) (rdC hC.1 rfl) ?_
  refine s0 ?_
  refine s17 ?_
  obtain ⟨g1, hE⟩ := hE
  obtain ⟨g2, hE⟩ := hE
  refine sI rc3 rfl (Nat.le_of_ble_eq_true rfl) ?_
  refine k3 g1 (inRd rfl) g2 (fun c3 => ?_) (fun c3 => ?_)
  · replace hE := hE.1 c3
    refine s84 (by decide) ?_
    refine rqI_of ?_
    refine s67 (inRd rfl) (fun c4 => absurd c4 (by decide)) (fun _ => ?_)
    refine s4 (x := x2) rfl ?_
    refine sI rc22 rfl (Nat.le_of_ble_eq_true rfl) ?_
    refine cI_of (ls := [.int (oI x2)]) rfl ?_
    refine xG gb22 ?_
    refine s4 (x := x2) rfl ?_
    refine s0 ?_
    refine s0 ?_
    obtain ⟨g5, hE⟩ := hE
    refine sI rc3 rfl (Nat.le_of_ble_eq_true rfl) ?_
    refine k3 g5 (inRd rfl) (inRd rfl) (fun c6 => ?_) (fun c6 => ?_)
    · replace hE := hE.1 c6
      refine s84 (by decide) ?_
      refine rqI_of ?_
      refine s67 (inRd rfl) (fun c7 => absurd c7 (by decide)) (fun _ => ?_)
      refine s4 (x := x3) rfl ?_
      refine sI rc22 rfl (Nat.le_of_ble_eq_true rfl) ?_
      refine cI_of (ls := [.int (oI x3)]) rfl ?_
      refine xG gb22 ?_
      refine s4 (x := x3) rfl ?_
      refine s0 ?_
      refine s0 ?_
      obtain ⟨g8, hE⟩ := hE
      refine sI rc3 rfl (Nat.le_of_ble_eq_true rfl) ?_
      refine k3 g8 (inRd rfl) (inRd rfl) (fun c9 => ?_) (fun c9 => ?_)
      · replace hE := hE.1 c9
        refine s84 (by decide) ?_
        refine rqI_of ?_
        refine s67 (inRd rfl) (fun c10 => absurd c10 (by decide)) (fun _ => ?_)
        refine s4 (x := x4) rfl ?_
        refine sI rc13 rfl (Nat.le_of_ble_eq_true rfl) ?_
        refine cI_of (ls := [.int (oI x4)]) rfl ?_
        refine xG gb13 ?_
        refine s4 (x := x4) rfl ?_
        refine s0 ?_
        refine s0 ?_
        obtain ⟨g11, hE⟩ := hE
        refine sI rc3 rfl (Nat.le_of_ble_eq_true rfl) ?_
        refine k3 g11 (inRd rfl) (inRd rfl) (fun c12 => ?_) (fun c12 => ?_)
        · replace hE := hE.1 c12
          refine s84 (by decide) ?_
          refine rqI_of ?_
          refine s67 (inRd rfl) (fun c13 => absurd c13 (by decide)) (fun _ => ?_)
          refine s0 ?_
          refine s60 ?_
          refine xG gb27.2.2 ?_
          refine s84 (by decide) ?_
          refine rqI_of ?_
          refine s68 (inRd rfl) (fun c14 => absurd c14 (by decide)) (fun _ => ?_)
          refine xG gb28.2 ?_
          refine s6 (p := 8) rfl ?_
          refine s51 sh8 (by decide) (by decide) rf8_5 ?_
          refine s4 (x := x1) rfl ?_
          refine s4 (x := x2) rfl ?_
          refine s4 (x := x3) rfl ?_
          refine s4 (x := x4) rfl ?_
          refine s6 (p := 8) rfl ?_
          refine s50 (v := ld I 8 9) sh8 (by decide) (by decide) (oI_ld _ _ _) ?_
          refine sV rc161 rfl (Nat.le_of_ble_eq_true rfl) ?_
          refine CallV.mono hE ?_
          rintro _ ⟨I15, rfl, q16, hE⟩
          refine s6 (p := 8) rfl ?_
          refine s51 sh8 (by decide) (by decide) rf8_5 ?_
          refine s4 (x := x5) rfl ?_
          refine s4 (x := x6) rfl ?_
          refine sI rc168 rfl (Nat.le_of_ble_eq_true rfl) ?_
          refine cI_of (ls := [.ref 70, .int (oI x5), .int (oI x6)]) rfl ?_
          refine xG gb168.1 ?_
          refine s4 (x := x5) rfl ?_
          refine s0 ?_
          refine s6 (p := 70) rfl ?_
          refine s50 (v := ld I15 70 9) sh70 (by decide) (by decide) (oI_ld _ _ _) ?_
          refine s0 ?_
          refine s17 ?_
          obtain ⟨g18, hE⟩ := hE
          obtain ⟨g19, hE⟩ := hE
          refine sI rc3 rfl (Nat.le_of_ble_eq_true rfl) ?_
          refine k3 g18 (inRd rfl) g19 (fun c20 => ?_) (fun c20 => ?_)
          · replace hE := hE.1 c20
            refine s68 (inRd rfl) (fun c21 => absurd c21 (by decide)) (fun _ => ?_)
            refine xG gb168.2.1 ?_
            refine s4 (x := x6) rfl ?_
            obtain ⟨g22, hE⟩ := hE
            refine s76 g22 ?_
            by_cases c23 : x6 = 0
            · replace hE := hE.1 c23
              rw [show mSel ((jSW.getD 168 []).getD 0 []) (x6 - 0) = 2 by rw [c23]; rfl]
              refine xG gb168.2.2.1 ?_
              refine s6 (p := 70) rfl ?_
              refine s51 sh70 (by decide) (by decide) rf70_3 ?_
              refine s4 (x := x5) rfl ?_
              obtain ⟨g24, hE⟩ := hE
              refine s40 (v := ld I15 71 x5.toNat) sh71 g24 rfl (oI_ld _ _ _) ?_
              refine s80 ?_
              refine rqI_of ?_
              refine s80 ?_
              exact rqI_of hE
            replace hE := hE.2
            by_cases c25 : x6 = 1
            · replace hE := hE.1 c25
              rw [show mSel ((jSW.getD 168 []).getD 0 []) (x6 - 0) = 3 by rw [c25]; rfl]
              refine xG gb168.2.2.2.1 ?_
              refine s6 (p := 70) rfl ?_
              refine s51 sh70 (by decide) (by decide) rf70_4 ?_
              refine s4 (x := x5) rfl ?_
              obtain ⟨g26, hE⟩ := hE
              refine s40 (v := ld I15 72 x5.toNat) sh72 g26 rfl (oI_ld _ _ _) ?_
              refine s80 ?_
              refine rqI_of ?_
              refine s80 ?_
              exact rqI_of hE
            replace hE := hE.2
            by_cases c27 : x6 = 2
            · replace hE := hE.1 c27
              rw [show mSel ((jSW.getD 168 []).getD 0 []) (x6 - 0) = 4 by rw [c27]; rfl]
              refine xG gb168.2.2.2.2.1 ?_
              refine s6 (p := 70) rfl ?_
              refine s51 sh70 (by decide) (by decide) rf70_5 ?_
              refine s4 (x := x5) rfl ?_
              obtain ⟨g28, hE⟩ := hE
              refine s40 (v := ld I15 73 x5.toNat) sh73 g28 rfl (oI_ld _ _ _) ?_
              refine s80 ?_
              refine rqI_of ?_
              refine s80 ?_
              exact rqI_of hE
            replace hE := hE.2
            replace hE := hE ⟨c23, c25, c27⟩
            rw [show mSel ((jSW.getD 168 []).getD 0 []) (x6 - 0) = 5 by exact mSel_def (lo := 0) (vs := [0, 1, 2]) rfl (by intro v hv; simp only [List.mem_cons, List.not_mem_nil, or_false] at hv; omega)]
            refine xG gb168.2.2.2.2.2 ?_
            refine s0 ?_
            refine s80 ?_
            refine rqI_of ?_
            refine s80 ?_
            exact rqI_of hE
          · replace hE := hE.2 c20
            refine s68 (inRd rfl) (fun _ => ?_) (fun c29 => absurd (by decide) c29)
            refine s0 ?_
            refine s80 ?_
            refine rqI_of ?_
            refine s80 ?_
            exact rqI_of hE
        · replace hE := hE.2 c12
          refine s84 (by decide) ?_
          refine rqI_of ?_
          refine s67 (inRd rfl) (fun _ => ?_) (fun c30 => absurd (by decide) c30)
          refine xG gb27.2.1 ?_
          refine s0 ?_
          refine s79 ?_
          refine xG gb27.2.2 ?_
          refine s84 (by decide) ?_
          refine rqI_of ?_
          refine s68 (inRd rfl) (fun _ => ?_) (fun c31 => absurd (by decide) c31)
          refine s0 ?_
          refine s80 ?_
          exact rqI_of hE
      · replace hE := hE.2 c9
        refine s84 (by decide) ?_
        refine rqI_of ?_
        refine s67 (inRd rfl) (fun _ => ?_) (fun c32 => absurd (by decide) c32)
        refine xG gb27.2.1 ?_
        refine s0 ?_
        refine s79 ?_
        refine xG gb27.2.2 ?_
        refine s84 (by decide) ?_
        refine rqI_of ?_
        refine s68 (inRd rfl) (fun _ => ?_) (fun c33 => absurd (by decide) c33)
        refine s0 ?_
        refine s80 ?_
        exact rqI_of hE
    · replace hE := hE.2 c6
      refine s84 (by decide) ?_
      refine rqI_of ?_
      refine s67 (inRd rfl) (fun _ => ?_) (fun c34 => absurd (by decide) c34)
      refine xG gb27.2.1 ?_
      refine s0 ?_
      refine s79 ?_
      refine xG gb27.2.2 ?_
      refine s84 (by decide) ?_
      refine rqI_of ?_
      refine s68 (inRd rfl) (fun _ => ?_) (fun c35 => absurd (by decide) c35)
      refine s0 ?_
      refine s80 ?_
      exact rqI_of hE
  · replace hE := hE.2 c3
    refine s84 (by decide) ?_
    refine rqI_of ?_
    refine s67 (inRd rfl) (fun _ => ?_) (fun c36 => absurd (by decide) c36)
    refine xG gb27.2.1 ?_
    refine s0 ?_
    refine s79 ?_
    refine xG gb27.2.2 ?_
    refine s84 (by decide) ?_
    refine rqI_of ?_
    refine s68 (inRd rfl) (fun _ => ?_) (fun c37 => absurd (by decide) c37)
    refine s0 ?_
    refine s80 ?_
    exact rqI_of hE
set_option maxRecDepth 4000 in
theorem q28 {d L n : Nat} {I : mI} {R : mR} {S : mSh} {A : aS} {K : Int32 → mM → Prop} {x1 : Int} {x2 : Int} {x3 : Int} {x4 : Int} {x5 : Int} {x6 : Int} (hX : CX R S I A n) (hW : WF A) (hn : n ≤ 100000) (rx1 : inR x1) (rx2 : inR x2) (rx3 : inR x3) (rx4 : inR x4) (rx5 : inR x5) (rx6 : inR x6) (hK : ∀ I1, FK I I1 → CX R S I1 (o265 A x1 x2 x3 x4 x5 x6).2 (n + 1) → K (oI (o265 A x1 x2 x3 x4 x5 x6).1) (bd L I1 R S)) : CallI (d + 30) 28 [.ref 8, .int (oI x1), .int (oI x2), .int (oI x3), .int (oI x4), .int (oI x5), .int (oI x6)] (bd L I R S) K := by
  have hC := hX.1
  have hA := hW.1
  have w0 := hA.1
  have w1 := hA.2.1
  have w2 := hA.2.2.1
  have w3 : 0 ≤ A 91 3 ∧ A 91 3 ≤ 850 := hA.2.2.2.1
  have ty := today_year hA
  have c9 := hX.2.2.2.1
  refine e28 (d := d + 27) hC ?_
  refine ⟨by first | assumption | exact inRd rfl | omega | exact ⟨by omega, by omega⟩ | (unfold WnOk; omega) | exact hW.1 | exact hW.2.1 | exact hW.2.2.1 | exact hW.2.2.2.1 | exact hW.2.2.2.2.1 | exact hW.2.2.2.2.2.2.2.2.2.1 | exact hW.2.2.2.2.2.2.2.2.2.2.1 | (constructor <;> omega), ?_⟩
  refine ⟨by first | assumption | exact inRd rfl | omega | exact ⟨by omega, by omega⟩ | (unfold WnOk; omega) | exact hW.1 | exact hW.2.1 | exact hW.2.2.1 | exact hW.2.2.2.1 | exact hW.2.2.2.2.1 | exact hW.2.2.2.2.2.2.2.2.2.1 | exact hW.2.2.2.2.2.2.2.2.2.2.1 | (constructor <;> omega), ?_⟩
  refine ⟨fun c1 => ?_, fun c1 => ?_⟩
  · refine ⟨by first | assumption | exact inRd rfl | omega | exact ⟨by omega, by omega⟩ | (unfold WnOk; omega) | exact hW.1 | exact hW.2.1 | exact hW.2.2.1 | exact hW.2.2.2.1 | exact hW.2.2.2.2.1 | exact hW.2.2.2.2.2.2.2.2.2.1 | exact hW.2.2.2.2.2.2.2.2.2.2.1 | (constructor <;> omega), ?_⟩
    refine ⟨fun c2 => ?_, fun c2 => ?_⟩
    · refine ⟨by first | assumption | exact inRd rfl | omega | exact ⟨by omega, by omega⟩ | (unfold WnOk; omega) | exact hW.1 | exact hW.2.1 | exact hW.2.2.1 | exact hW.2.2.2.1 | exact hW.2.2.2.2.1 | exact hW.2.2.2.2.2.2.2.2.2.1 | exact hW.2.2.2.2.2.2.2.2.2.2.1 | (constructor <;> omega), ?_⟩
      refine ⟨fun c3 => ?_, fun c3 => ?_⟩
      · refine ⟨by first | assumption | exact inRd rfl | omega | exact ⟨by omega, by omega⟩ | (unfold WnOk; omega) | exact hW.1 | exact hW.2.1 | exact hW.2.2.1 | exact hW.2.2.2.1 | exact hW.2.2.2.2.1 | exact hW.2.2.2.2.2.2.2.2.2.1 | exact hW.2.2.2.2.2.2.2.2.2.2.1 | (constructor <;> omega), ?_⟩
        refine ⟨fun c4 => ?_, fun c4 => ?_⟩
        · have hch : inR (ld I 8 9) := ld_inR I 8 9
          refine k161 (d := d) hC hA hW.2.1 hW.2.2.2.2.2.2.2.2.2.2.1 hW.2.2.1 (by omega) (by omega) (by omega) (by omega) hch (fun hg => hX.2.1 x1 x2 x3 x4 (by omega) hg) (fun I1 q1 r1 g1 k1 => ?_)
          refine ⟨I1, rfl, r1, ?_⟩
          have hX1 := CX.up (hX.gr r1 g1 k1 (fun a k ha => by rcases ha with rfl | rfl | rfl | rfl | rfl <;> exact q1 _ k rfl)) (Nat.le_succ n)
          have hF : FK I I1 := Fr.FK q1 rfl
          have e9 := g1.1.1
          have l9 := g1.1.2.1
          rw [e9]
          refine ⟨rx5, ⟨by omega, by omega⟩, fun c5 => ?_, fun c5 => ?_⟩
          · have li := g1.1.2.2.2 x5.toNat (by omega)
            refine ⟨rx6, fun c => ⟨by omega, ?_⟩, fun c => ⟨by omega, ?_⟩, fun c => ⟨by omega, ?_⟩, fun c => ?_⟩
            · rw [li.1]
              have ho : o265 A x1 x2 x3 x4 x5 x6 = (((gtL A x1 x2 x3 x4).getD x5.toNat (0, 0, 0)).1, A) := by
                unfold o265
                rw [if_pos (by omega), if_pos (by omega), if_pos (by omega), if_pos (by omega), if_pos (by omega), if_pos (by omega), if_pos (by omega)]
              rw [ho] at hK
              exact hK I1 hF hX1
            · rw [li.2.1]
              have ho : o265 A x1 x2 x3 x4 x5 x6 = (((gtL A x1 x2 x3 x4).getD x5.toNat (0, 0, 0)).2.1, A) := by
                unfold o265
                rw [if_pos (by omega), if_pos (by omega), if_pos (by omega), if_pos (by omega), if_pos (by omega), if_pos (by omega), if_neg (by omega), if_pos (by omega)]
              rw [ho] at hK
              exact hK I1 hF hX1
            · rw [li.2.2]
              have ho : o265 A x1 x2 x3 x4 x5 x6 = (((gtL A x1 x2 x3 x4).getD x5.toNat (0, 0, 0)).2.2, A) := by
                unfold o265
                rw [if_pos (by omega), if_pos (by omega), if_pos (by omega), if_pos (by omega), if_pos (by omega), if_pos (by omega), if_neg (by omega), if_neg (by omega)]
              rw [ho] at hK
              exact hK I1 hF hX1
            · have ho : o265 A x1 x2 x3 x4 x5 x6 = (-1000000, A) := by
                unfold o265
                rw [if_pos (by omega), if_pos (by omega), if_pos (by omega), if_pos (by omega), if_neg (by omega)]
              rw [ho] at hK
              exact hK I1 hF hX1
          · have ho : o265 A x1 x2 x3 x4 x5 x6 = (-1000000, A) := by
              unfold o265
              rw [if_pos (by omega), if_pos (by omega), if_pos (by omega), if_pos (by omega)]
              split
              all_goals first | rfl | rw [if_neg c5]
            rw [ho] at hK
            exact hK I1 hF hX1
        · have ho : o265 A x1 x2 x3 x4 x5 x6 = ((-1000000), A) := by
            unfold o265
            repeat' split
            all_goals first | (exfalso; omega) | with_reducible rfl
          rw [ho] at hK
          exact hK I (FK.refl I) (hX.up (Nat.le_succ n))
      · have ho : o265 A x1 x2 x3 x4 x5 x6 = ((-1000000), A) := by
          unfold o265
          repeat' split
          all_goals first | (exfalso; omega) | with_reducible rfl
        rw [ho] at hK
        exact hK I (FK.refl I) (hX.up (Nat.le_succ n))
    · have ho : o265 A x1 x2 x3 x4 x5 x6 = ((-1000000), A) := by
        unfold o265
        repeat' split
        all_goals first | (exfalso; omega) | with_reducible rfl
      rw [ho] at hK
      exact hK I (FK.refl I) (hX.up (Nat.le_succ n))
  · have ho : o265 A x1 x2 x3 x4 x5 x6 = ((-1000000), A) := by
      unfold o265
      repeat' split
      all_goals first | (exfalso; omega) | with_reducible rfl
    rw [ho] at hK
    exact hK I (FK.refl I) (hX.up (Nat.le_succ n))
set_option maxRecDepth 4000 in
theorem e29 {d L : Nat} {I : Nat → Nat → Int32} {R : Nat → Nat → Option Nat} {S : List (Nat × Nat)} {K : Int32 → mM → Prop} {A : aS} (hC : RC R S I A) {x1 : Int} {x2 : Int} {x3 : Int} (hE : inR x1 ∧ (inR (A 91 1 - 1) ∧ (((0 ≤ x1 ∧ x1 ≤ A 91 1 - 1) → inR x2 ∧ (((0 ≤ x2 ∧ x2 ≤ 799) → inR x3 ∧ (((0 ≤ x3 ∧ x3 ≤ 2) → ((x3 = 1) → (0 ≤ x1 ∧ x1 < 40) ∧ (K (oI (A 96 x1.toNat)) (bd L I R S))) ∧ (¬ (x3 = 1) → CallI (d + 1) 157 [.ref 59, .int (oI x1), .int (oI x2), .int (oI (A 91 0))] (bd L I R S) (fun y s => ∃ (y15 : Int) (I13 : mI), y = oI y15 ∧ s = bd L I13 R S ∧ inR y15 ∧ RC R S I13 A ∧ (((x3 = 0) → K (oI y15) (bd L I13 R S)) ∧ (¬ (x3 = 0) → (0 ≤ x1 ∧ x1 < 40) ∧ (K (oI (y15 - (A 96 x1.toNat))) (bd L I13 R S))))))) ∧ (¬ (0 ≤ x3 ∧ x3 ≤ 2) → K (oI (-1000000)) (bd L I R S)))) ∧ (¬ (0 ≤ x2 ∧ x2 ≤ 799) → K (oI (-1000000)) (bd L I R S)))) ∧ (¬ (0 ≤ x1 ∧ x1 ≤ A 91 1 - 1) → K (oI (-1000000)) (bd L I R S))))) : CallI (d + 2) 29 [.ref 8, .int (oI x1), .int (oI x2), .int (oI x3)] (bd L I R S) K := by
  refine cI_of (ls := [.ref 8, .int (oI x1), .int (oI x2), .int (oI x3), mUn]) rfl ?_
  refine xG gb29.1 ?_
  refine s6 (p := 8) rfl ?_
  refine s4 (x := x1) rfl ?_
  refine sI rc7 rfl (Nat.le_of_ble_eq_true rfl) ?_
  refine cI_of (ls := [.ref 8, .int (oI x1)]) rfl ?_
  refine xG gb7 ?_
  refine s4 (x := x1) rfl ?_
  refine s0 ?_
  refine s6 (p := 8) rfl ?_
  refine s51 sh8 (by decide) (by decide) rf8_1 ?_
  refine s50 (v := A 91 1) sh21 (by decide) (by decide) (rdC hC.1 rfl) ?_
  refine s0 ?_
  refine s17 ?_
  obtain ⟨g1, hE⟩ := hE
  obtain ⟨g2, hE⟩ := hE
  refine sI rc3 rfl (Nat.le_of_ble_eq_true rfl) ?_
  refine k3 g1 (inRd rfl) g2 (fun c3 => ?_) (fun c3 => ?_)
  · replace hE := hE.1 c3
    refine s84 (by decide) ?_
    refine rqI_of ?_
    refine s67 (inRd rfl) (fun c4 => absurd c4 (by decide)) (fun _ => ?_)
    refine s4 (x := x2) rfl ?_
    refine sI rc13 rfl (Nat.le_of_ble_eq_true rfl) ?_
    refine cI_of (ls := [.int (oI x2)]) rfl ?_
    refine xG gb13 ?_
    refine s4 (x := x2) rfl ?_
    refine s0 ?_
    refine s0 ?_
    obtain ⟨g5, hE⟩ := hE
    refine sI rc3 rfl (Nat.le_of_ble_eq_true rfl) ?_
    refine k3 g5 (inRd rfl) (inRd rfl) (fun c6 => ?_) (fun c6 => ?_)
    · replace hE := hE.1 c6
      refine s84 (by decide) ?_
      refine rqI_of ?_
      refine s67 (inRd rfl) (fun c7 => absurd c7 (by decide)) (fun _ => ?_)
      refine s4 (x := x3) rfl ?_
      refine s0 ?_
      refine s0 ?_
      obtain ⟨g8, hE⟩ := hE
      refine sI rc3 rfl (Nat.le_of_ble_eq_true rfl) ?_
      refine k3 g8 (inRd rfl) (inRd rfl) (fun c9 => ?_) (fun c9 => ?_)
      · replace hE := hE.1 c9
        refine s68 (inRd rfl) (fun c10 => absurd c10 (by decide)) (fun _ => ?_)
        refine xG gb29.2.2.1 ?_
        refine s4 (x := x3) rfl ?_
        refine s0 ?_
        refine s62 g8 (inRd rfl) (fun c11 => ?_) (fun c11 => ?_)
        · replace hE := hE.1 c11
          refine s6 (p := 8) rfl ?_
          refine s51 sh8 (by decide) (by decide) rf8_1 ?_
          refine s51 sh21 (by decide) (by decide) rf21_4 ?_
          refine s4 (x := x1) rfl ?_
          obtain ⟨g12, hE⟩ := hE
          refine s40 (v := A 96 x1.toNat) sh26 g12 rfl (rdC hC.1 rfl) ?_
          refine s80 ?_
          exact rqI_of hE
        · replace hE := hE.2 c11
          refine xG gb29.2.2.2.1 ?_
          refine s6 (p := 8) rfl ?_
          refine s51 sh8 (by decide) (by decide) rf8_4 ?_
          refine s4 (x := x1) rfl ?_
          refine s4 (x := x2) rfl ?_
          refine s6 (p := 8) rfl ?_
          refine s50 (v := A 91 0) sh8 (by decide) (by decide) (rdC hC.1 rfl) ?_
          refine sI rc157 rfl (Nat.le_of_ble_eq_true rfl) ?_
          refine CallI.mono hE ?_
          rintro _ _ ⟨y15, I13, rfl, rfl, gy15, q14, hE⟩
          refine s7 (ls' := [.ref 8, .int (oI x1), .int (oI x2), .int (oI x3), .int (oI y15)]) (Nat.le_of_ble_eq_true rfl) rfl ?_
          refine s4 (x := x3) rfl ?_
          refine s68 g8 (fun c16 => ?_) (fun c16 => ?_)
          · replace hE := hE.1 c16
            refine s4 (x := y15) rfl ?_
            refine s60 ?_
            refine xG gb29.2.2.2.2.2 ?_
            refine s80 ?_
            exact rqI_of hE
          · replace hE := hE.2 c16
            refine xG gb29.2.2.2.2.1 ?_
            refine s4 (x := y15) rfl ?_
            refine s6 (p := 8) rfl ?_
            refine s51 sh8 (by decide) (by decide) rf8_1 ?_
            refine s51 sh21 (by decide) (by decide) rf21_4 ?_
            refine s4 (x := x1) rfl ?_
            obtain ⟨g17, hE⟩ := hE
            refine s40 (v := A 96 x1.toNat) sh26 g17 rfl (rdC q14.1 rfl) ?_
            refine s17 ?_
            refine s79 ?_
            refine xG gb29.2.2.2.2.2 ?_
            refine s80 ?_
            exact rqI_of hE
      · replace hE := hE.2 c9
        refine s68 (inRd rfl) (fun _ => ?_) (fun c18 => absurd (by decide) c18)
        refine s79 ?_
        refine xG gb29.2.1 ?_
        refine s0 ?_
        refine s80 ?_
        exact rqI_of hE
    · replace hE := hE.2 c6
      refine s84 (by decide) ?_
      refine rqI_of ?_
      refine s67 (inRd rfl) (fun _ => ?_) (fun c19 => absurd (by decide) c19)
      refine xG gb29.2.1 ?_
      refine s0 ?_
      refine s80 ?_
      exact rqI_of hE
  · replace hE := hE.2 c3
    refine s84 (by decide) ?_
    refine rqI_of ?_
    refine s67 (inRd rfl) (fun _ => ?_) (fun c20 => absurd (by decide) c20)
    refine xG gb29.2.1 ?_
    refine s0 ?_
    refine s80 ?_
    exact rqI_of hE
set_option maxRecDepth 4000 in
theorem q29 {d L n : Nat} {I : mI} {R : mR} {S : mSh} {A : aS} {K : Int32 → mM → Prop} {x1 : Int} {x2 : Int} {x3 : Int} (hX : CX R S I A n) (hW : WF A) (hn : n ≤ 100000) (rx1 : inR x1) (rx2 : inR x2) (rx3 : inR x3) (hK : ∀ I1, FK I I1 → CX R S I1 (o266 A x1 x2 x3).2 (n + 1) → K (oI (o266 A x1 x2 x3).1) (bd L I1 R S)) : CallI (d + 29) 29 [.ref 8, .int (oI x1), .int (oI x2), .int (oI x3)] (bd L I R S) K := by
  have hC := hX.1
  have hA := hW.1
  have w0 := hA.1
  have w1 := hA.2.1
  have w2 := hA.2.2.1
  have w3 : 0 ≤ A 91 3 ∧ A 91 3 ≤ 850 := hA.2.2.2.1
  have ty := today_year hA
  have c9 := hX.2.2.2.1
  have wp : 0 ≤ x1 ∧ x1 ≤ A 91 1 - 1 → 0 ≤ A 96 x1.toNat ∧ A 96 x1.toNat ≤ 999999 := fun h => (hW.2.1 x1.toNat (by omega)).2.2.2.2
  have fi := fesL_in (A := A) (c := x1) hW.2.2.2.2.2.2.2.2.2.2.1 (x2.toNat / 5 + 1)
  have fe : fesS A x1 x2 = fesL A x1 (x2.toNat / 5 + 1) := rfl
  refine e29 (d := d + 27) hC ?_
  refine ⟨by first | assumption | exact inRd rfl | omega | exact ⟨by omega, by omega⟩ | (unfold WnOk; omega) | exact hW.1 | exact hW.2.1 | exact hW.2.2.1 | exact hW.2.2.2.1 | exact hW.2.2.2.2.1 | exact hW.2.2.2.2.2.2.2.2.2.1 | exact hW.2.2.2.2.2.2.2.2.2.2.1 | (constructor <;> omega), ?_⟩
  refine ⟨by first | assumption | exact inRd rfl | omega | exact ⟨by omega, by omega⟩ | (unfold WnOk; omega) | exact hW.1 | exact hW.2.1 | exact hW.2.2.1 | exact hW.2.2.2.1 | exact hW.2.2.2.2.1 | exact hW.2.2.2.2.2.2.2.2.2.1 | exact hW.2.2.2.2.2.2.2.2.2.2.1 | (constructor <;> omega), ?_⟩
  refine ⟨fun c1 => ?_, fun c1 => ?_⟩
  · refine ⟨by first | assumption | exact inRd rfl | omega | exact ⟨by omega, by omega⟩ | (unfold WnOk; omega) | exact hW.1 | exact hW.2.1 | exact hW.2.2.1 | exact hW.2.2.2.1 | exact hW.2.2.2.2.1 | exact hW.2.2.2.2.2.2.2.2.2.1 | exact hW.2.2.2.2.2.2.2.2.2.2.1 | (constructor <;> omega), ?_⟩
    refine ⟨fun c2 => ?_, fun c2 => ?_⟩
    · refine ⟨by first | assumption | exact inRd rfl | omega | exact ⟨by omega, by omega⟩ | (unfold WnOk; omega) | exact hW.1 | exact hW.2.1 | exact hW.2.2.1 | exact hW.2.2.2.1 | exact hW.2.2.2.2.1 | exact hW.2.2.2.2.2.2.2.2.2.1 | exact hW.2.2.2.2.2.2.2.2.2.2.1 | (constructor <;> omega), ?_⟩
      refine ⟨fun c3 => ?_, fun c3 => ?_⟩
      · refine ⟨fun c4 => ?_, fun c4 => ?_⟩
        · refine ⟨by first | assumption | exact inRd rfl | omega | exact ⟨by omega, by omega⟩ | (unfold WnOk; omega) | exact hW.1 | exact hW.2.1 | exact hW.2.2.1 | exact hW.2.2.2.1 | exact hW.2.2.2.2.1 | exact hW.2.2.2.2.2.2.2.2.2.1 | exact hW.2.2.2.2.2.2.2.2.2.2.1 | (constructor <;> omega), ?_⟩
          have ho : o266 A x1 x2 x3 = ((A 96 x1.toNat), A) := by
            unfold o266
            repeat' split
            all_goals first | (exfalso; omega) | with_reducible rfl
          rw [ho] at hK
          exact hK I (FK.refl I) (hX.up (Nat.le_succ n))
        · refine k157 (d := d) hC hA hW.2.2.2.2.2.2.2.2.2.2.1 hW.2.1 (by omega) (by omega) (fun I1 q1 => ?_)
          refine ⟨fesS A x1 x2, I1, rfl, rfl, ⟨by omega, by omega⟩, hC.fr q1 rfl, ?_⟩
          have hX1 := CX.up (hX.fr q1 rfl rfl) (Nat.le_succ n)
          have hF : FK I I1 := Fr.FK q1 rfl
          refine ⟨fun c => ?_, fun c => ⟨by omega, ?_⟩⟩
          · have ho : o266 A x1 x2 x3 = (fesS A x1 x2, A) := by
              unfold o266
              rw [if_pos (by omega), if_pos (by omega), if_pos (by omega), if_pos (by omega)]
            rw [ho] at hK
            exact hK I1 hF hX1
          · have ho : o266 A x1 x2 x3 = (fesS A x1 x2 - (A 96 x1.toNat), A) := by
              unfold o266
              rw [if_pos (by omega), if_pos (by omega), if_pos (by omega), if_neg (by omega), if_neg (by omega)]
            rw [ho] at hK
            exact hK I1 hF hX1
      · have ho : o266 A x1 x2 x3 = ((-1000000), A) := by
          unfold o266
          repeat' split
          all_goals first | (exfalso; omega) | with_reducible rfl
        rw [ho] at hK
        exact hK I (FK.refl I) (hX.up (Nat.le_succ n))
    · have ho : o266 A x1 x2 x3 = ((-1000000), A) := by
        unfold o266
        repeat' split
        all_goals first | (exfalso; omega) | with_reducible rfl
      rw [ho] at hK
      exact hK I (FK.refl I) (hX.up (Nat.le_succ n))
  · have ho : o266 A x1 x2 x3 = ((-1000000), A) := by
      unfold o266
      repeat' split
      all_goals first | (exfalso; omega) | with_reducible rfl
    rw [ho] at hK
    exact hK I (FK.refl I) (hX.up (Nat.le_succ n))
set_option maxRecDepth 4000 in
theorem e48 {d L : Nat} {I : Nat → Nat → Int32} {R : Nat → Nat → Option Nat} {S : List (Nat × Nat)} {K : Int32 → mM → Prop} {A : aS} (hC : RC R S I A) {x1 : Int} {x2 : Int} {x3 : Int} (hE : inR x3 ∧ (((0 ≤ x3 ∧ x3 ≤ 2) → inR x1 ∧ (inR (A 91 2 - 1) ∧ (((0 ≤ x1 ∧ x1 ≤ A 91 2 - 1) → inR x2 ∧ (((0 ≤ x2 ∧ x2 ≤ 200) → CallV (d + 1) 170 [.ref 77, .int (oI x1), .int (oI x2), .int (oI (A 91 0)), .int (oI (ld I 8 9))] (bd L I R S) (fun s => ∃ (I12 : mI), s = bd L I12 R S ∧ RC R S I12 A ∧ ((x3 = 0 → (0 ≤ ld I12 77 14 ∧ ld I12 77 14 < 8241) ∧ (K (oI (ld I12 82 (ld I12 77 14).toNat)) (bd L I12 R S))) ∧ (x3 = 1 → K (oI (ld I12 77 11)) (bd L I12 R S)) ∧ (x3 = 2 → K (oI (ld I12 77 12)) (bd L I12 R S)) ∧ (¬ x3 = 0 ∧ ¬ x3 = 1 ∧ ¬ x3 = 2 → inR (x3 - 10) ∧ (((0 ≤ x3 - 10 ∧ x3 - 10 ≤ 39) → (0 ≤ x3 - 10 ∧ x3 - 10 < 40) ∧ (K (oI (ld I12 83 (x3 - 10).toNat)) (bd L I12 R S))) ∧ (¬ (0 ≤ x3 - 10 ∧ x3 - 10 ≤ 39) → K (oI (-1)) (bd L I12 R S))))))) ∧ (¬ (0 ≤ x2 ∧ x2 ≤ 200) → K (oI (-1)) (bd L I R S)))) ∧ (¬ (0 ≤ x1 ∧ x1 ≤ A 91 2 - 1) → K (oI (-1)) (bd L I R S))))) ∧ (¬ (0 ≤ x3 ∧ x3 ≤ 2) → ((x3 < 10) → inR x1 ∧ (inR (A 91 2 - 1) ∧ (((0 ≤ x1 ∧ x1 ≤ A 91 2 - 1) → inR x2 ∧ (((0 ≤ x2 ∧ x2 ≤ 200) → K (oI (-1)) (bd L I R S)) ∧ (¬ (0 ≤ x2 ∧ x2 ≤ 200) → K (oI (-1)) (bd L I R S)))) ∧ (¬ (0 ≤ x1 ∧ x1 ≤ A 91 2 - 1) → K (oI (-1)) (bd L I R S))))) ∧ (¬ (x3 < 10) → inR (x3 - 10) ∧ (inR (A 91 1 - 1) ∧ (((0 ≤ x3 - 10 ∧ x3 - 10 ≤ A 91 1 - 1) → inR x1 ∧ (inR (A 91 2 - 1) ∧ (((0 ≤ x1 ∧ x1 ≤ A 91 2 - 1) → inR x2 ∧ (((0 ≤ x2 ∧ x2 ≤ 200) → CallV (d + 1) 170 [.ref 77, .int (oI x1), .int (oI x2), .int (oI (A 91 0)), .int (oI (ld I 8 9))] (bd L I R S) (fun s => ∃ (I50 : mI), s = bd L I50 R S ∧ RC R S I50 A ∧ ((x3 = 0 → (0 ≤ ld I50 77 14 ∧ ld I50 77 14 < 8241) ∧ (K (oI (ld I50 82 (ld I50 77 14).toNat)) (bd L I50 R S))) ∧ (x3 = 1 → K (oI (ld I50 77 11)) (bd L I50 R S)) ∧ (x3 = 2 → K (oI (ld I50 77 12)) (bd L I50 R S)) ∧ (¬ x3 = 0 ∧ ¬ x3 = 1 ∧ ¬ x3 = 2 → ((0 ≤ x3 - 10 ∧ x3 - 10 ≤ 39) → (0 ≤ x3 - 10 ∧ x3 - 10 < 40) ∧ (K (oI (ld I50 83 (x3 - 10).toNat)) (bd L I50 R S))) ∧ (¬ (0 ≤ x3 - 10 ∧ x3 - 10 ≤ 39) → K (oI (-1)) (bd L I50 R S)))))) ∧ (¬ (0 ≤ x2 ∧ x2 ≤ 200) → K (oI (-1)) (bd L I R S)))) ∧ (¬ (0 ≤ x1 ∧ x1 ≤ A 91 2 - 1) → K (oI (-1)) (bd L I R S))))) ∧ (¬ (0 ≤ x3 - 10 ∧ x3 - 10 ≤ A 91 1 - 1) → inR x1 ∧ (inR (A 91 2 - 1) ∧ (((0 ≤ x1 ∧ x1 ≤ A 91 2 - 1) → inR x2 ∧ (((0 ≤ x2 ∧ x2 ≤ 200) → K (oI (-1)) (bd L I R S)) ∧ (¬ (0 ≤ x2 ∧ x2 ≤ 200) → K (oI (-1)) (bd L I R S)))) ∧ (¬ (0 ≤ x1 ∧ x1 ≤ A 91 2 - 1) → K (oI (-1)) (bd L I R S))))))))))) : CallI (d + 2) 48 [.ref 8, .int (oI x1), .int (oI x2), .int (oI x3)] (bd L I R S) K := by
  refine cI_of (ls := [.ref 8, .int (oI x1), .int (oI x2), .int (oI x3), mUn]) rfl ?_
  refine xG gb48.1 ?_
  refine s4 (x := x3) rfl ?_
  refine s0 ?_
  refine s0 ?_
  obtain ⟨g1, hE⟩ := hE
  refine sI rc3 rfl (Nat.le_of_ble_eq_true rfl) ?_
  refine k3 g1 (inRd rfl) (inRd rfl) (fun c2 => ?_) (fun c2 => ?_)
  · replace hE := hE.1 c2
    refine s68 (inRd rfl) (fun c3 => absurd c3 (by decide)) (fun _ => ?_)
    refine xG gb48.2.1 ?_
    refine s0 ?_
    refine s60 ?_
    refine xG gb48.2.2.2.1 ?_
    refine s7 (ls' := [.ref 8, .int (oI x1), .int (oI x2), .int (oI x3), .int (oI 1)]) (Nat.le_of_ble_eq_true rfl) rfl ?_
    refine s6 (p := 8) rfl ?_
    refine s4 (x := x1) rfl ?_
    refine sI rc9 rfl (Nat.le_of_ble_eq_true rfl) ?_
    refine cI_of (ls := [.ref 8, .int (oI x1)]) rfl ?_
    refine xG gb9 ?_
    refine s4 (x := x1) rfl ?_
    refine s0 ?_
    refine s6 (p := 8) rfl ?_
    refine s51 sh8 (by decide) (by decide) rf8_0 ?_
    refine s50 (v := A 91 2) sh9 (by decide) (by decide) (rdC hC.1 rfl) ?_
    refine s0 ?_
    refine s17 ?_
    obtain ⟨g4, hE⟩ := hE
    obtain ⟨g5, hE⟩ := hE
    refine sI rc3 rfl (Nat.le_of_ble_eq_true rfl) ?_
    refine k3 g4 (inRd rfl) g5 (fun c6 => ?_) (fun c6 => ?_)
    · replace hE := hE.1 c6
      refine s84 (by decide) ?_
      refine rqI_of ?_
      refine s67 (inRd rfl) (fun c7 => absurd c7 (by decide)) (fun _ => ?_)
      refine s4 (x := x2) rfl ?_
      refine s0 ?_
      refine s0 ?_
      obtain ⟨g8, hE⟩ := hE
      refine sI rc3 rfl (Nat.le_of_ble_eq_true rfl) ?_
      refine k3 g8 (inRd rfl) (inRd rfl) (fun c9 => ?_) (fun c9 => ?_)
      · replace hE := hE.1 c9
        refine s67 (inRd rfl) (fun c10 => absurd c10 (by decide)) (fun _ => ?_)
        refine s4 (x := 1) rfl ?_
        refine s68 (inRd rfl) (fun c11 => absurd c11 (by decide)) (fun _ => ?_)
        refine xG gb48.2.2.2.2.2 ?_
        refine s6 (p := 8) rfl ?_
        refine s51 sh8 (by decide) (by decide) rf8_6 ?_
        refine s4 (x := x1) rfl ?_
        refine s4 (x := x2) rfl ?_
        refine s6 (p := 8) rfl ?_
        refine s50 (v := A 91 0) sh8 (by decide) (by decide) (rdC hC.1 rfl) ?_
        refine s6 (p := 8) rfl ?_
        refine s50 (v := ld I 8 9) sh8 (by decide) (by decide) (oI_ld _ _ _) ?_
        refine sV rc170 rfl (Nat.le_of_ble_eq_true rfl) ?_
        refine CallV.mono hE ?_
        rintro _ ⟨I12, rfl, q13, hE⟩
        refine s6 (p := 8) rfl ?_
        refine s51 sh8 (by decide) (by decide) rf8_6 ?_
        refine s4 (x := x3) rfl ?_
        refine sI rc179 rfl (Nat.le_of_ble_eq_true rfl) ?_
        refine cI_of (ls := [.ref 77, .int (oI x3)]) rfl ?_
        refine xG gb179.1 ?_
        refine s4 (x := x3) rfl ?_
        refine s76 g1 ?_
        by_cases c15 : x3 = 0
        · replace hE := hE.1 c15
          rw [show mSel ((jSW.getD 179 []).getD 0 []) (x3 - 0) = 1 by rw [c15]; rfl]
          refine xG gb179.2.1 ?_
          refine s6 (p := 77) rfl ?_
          refine s51 sh77 (by decide) (by decide) rf77_7 ?_
          refine s6 (p := 77) rfl ?_
          refine s50 (v := ld I12 77 14) sh77 (by decide) (by decide) (oI_ld _ _ _) ?_
          obtain ⟨g16, hE⟩ := hE
          refine s40 (v := ld I12 82 (ld I12 77 14).toNat) sh82 g16 rfl (oI_ld _ _ _) ?_
          refine s80 ?_
          refine rqI_of ?_
          refine s80 ?_
          exact rqI_of hE
        replace hE := hE.2
        by_cases c17 : x3 = 1
        · replace hE := hE.1 c17
          rw [show mSel ((jSW.getD 179 []).getD 0 []) (x3 - 0) = 2 by rw [c17]; rfl]
          refine xG gb179.2.2.1 ?_
          refine s6 (p := 77) rfl ?_
          refine s50 (v := ld I12 77 11) sh77 (by decide) (by decide) (oI_ld _ _ _) ?_
          refine s80 ?_
          refine rqI_of ?_
          refine s80 ?_
          exact rqI_of hE
        replace hE := hE.2
        by_cases c18 : x3 = 2
        · replace hE := hE.1 c18
          rw [show mSel ((jSW.getD 179 []).getD 0 []) (x3 - 0) = 3 by rw [c18]; rfl]
          refine xG gb179.2.2.2.1 ?_
          refine s6 (p := 77) rfl ?_
          refine s50 (v := ld I12 77 12) sh77 (by decide) (by decide) (oI_ld _ _ _) ?_
          refine s80 ?_
          refine rqI_of ?_
          refine s80 ?_
          exact rqI_of hE
        replace hE := hE.2
        replace hE := hE ⟨c15, c17, c18⟩
        rw [show mSel ((jSW.getD 179 []).getD 0 []) (x3 - 0) = 4 by exact mSel_def (lo := 0) (vs := [0, 1, 2]) rfl (by intro v hv; simp only [List.mem_cons, List.not_mem_nil, or_false] at hv; omega)]
        refine xG gb179.2.2.2.2.1 ?_
        refine s4 (x := x3) rfl ?_
        refine s0 ?_
        refine s17 ?_
        refine s0 ?_
        refine s0 ?_
        obtain ⟨g19, hE⟩ := hE
        refine sI rc3 rfl (Nat.le_of_ble_eq_true rfl) ?_
        refine k3 g19 (inRd rfl) (inRd rfl) (fun c20 => ?_) (fun c20 => ?_)
        · replace hE := hE.1 c20
          refine s67 (inRd rfl) (fun c21 => absurd c21 (by decide)) (fun _ => ?_)
          refine s6 (p := 77) rfl ?_
          refine s51 sh77 (by decide) (by decide) rf77_8 ?_
          refine s4 (x := x3) rfl ?_
          refine s0 ?_
          refine s17 ?_
          obtain ⟨g22, hE⟩ := hE
          refine s40 (v := ld I12 83 (x3 - 10).toNat) sh83 g22 rfl (oI_ld _ _ _) ?_
          refine s60 ?_
          refine xG gb179.2.2.2.2.2.2 ?_
          refine s80 ?_
          refine rqI_of ?_
          refine s80 ?_
          exact rqI_of hE
        · replace hE := hE.2 c20
          refine s67 (inRd rfl) (fun _ => ?_) (fun c23 => absurd (by decide) c23)
          refine xG gb179.2.2.2.2.2.1 ?_
          refine s0 ?_
          refine s79 ?_
          refine xG gb179.2.2.2.2.2.2 ?_
          refine s80 ?_
          refine rqI_of ?_
          refine s80 ?_
          exact rqI_of hE
      · replace hE := hE.2 c9
        refine s67 (inRd rfl) (fun _ => ?_) (fun c24 => absurd (by decide) c24)
        refine xG gb48.2.2.2.2.1 ?_
        refine s0 ?_
        refine s80 ?_
        exact rqI_of hE
    · replace hE := hE.2 c6
      refine s84 (by decide) ?_
      refine rqI_of ?_
      refine s67 (inRd rfl) (fun _ => ?_) (fun c25 => absurd (by decide) c25)
      refine xG gb48.2.2.2.2.1 ?_
      refine s0 ?_
      refine s80 ?_
      exact rqI_of hE
  · replace hE := hE.2 c2
    refine s68 (inRd rfl) (fun _ => ?_) (fun c26 => absurd (by decide) c26)
    refine s4 (x := x3) rfl ?_
    refine s0 ?_
    refine s63 g1 (inRd rfl) (fun c27 => ?_) (fun c27 => ?_)
    · replace hE := hE.1 c27
      refine xG gb48.2.2.1 ?_
      refine s0 ?_
      refine s79 ?_
      refine xG gb48.2.2.2.1 ?_
      refine s7 (ls' := [.ref 8, .int (oI x1), .int (oI x2), .int (oI x3), .int (oI 0)]) (Nat.le_of_ble_eq_true rfl) rfl ?_
      refine s6 (p := 8) rfl ?_
      refine s4 (x := x1) rfl ?_
      refine sI rc9 rfl (Nat.le_of_ble_eq_true rfl) ?_
      refine cI_of (ls := [.ref 8, .int (oI x1)]) rfl ?_
      refine xG gb9 ?_
      refine s4 (x := x1) rfl ?_
      refine s0 ?_
      refine s6 (p := 8) rfl ?_
      refine s51 sh8 (by decide) (by decide) rf8_0 ?_
      refine s50 (v := A 91 2) sh9 (by decide) (by decide) (rdC hC.1 rfl) ?_
      refine s0 ?_
      refine s17 ?_
      obtain ⟨g28, hE⟩ := hE
      obtain ⟨g29, hE⟩ := hE
      refine sI rc3 rfl (Nat.le_of_ble_eq_true rfl) ?_
      refine k3 g28 (inRd rfl) g29 (fun c30 => ?_) (fun c30 => ?_)
      · replace hE := hE.1 c30
        refine s84 (by decide) ?_
        refine rqI_of ?_
        refine s67 (inRd rfl) (fun c31 => absurd c31 (by decide)) (fun _ => ?_)
        refine s4 (x := x2) rfl ?_
        refine s0 ?_
        refine s0 ?_
        obtain ⟨g32, hE⟩ := hE
        refine sI rc3 rfl (Nat.le_of_ble_eq_true rfl) ?_
        refine k3 g32 (inRd rfl) (inRd rfl) (fun c33 => ?_) (fun c33 => ?_)
        · replace hE := hE.1 c33
          refine s67 (inRd rfl) (fun c34 => absurd c34 (by decide)) (fun _ => ?_)
          refine s4 (x := 0) rfl ?_
          refine s68 (inRd rfl) (fun _ => ?_) (fun c35 => absurd (by decide) c35)
          refine s79 ?_
          refine xG gb48.2.2.2.2.1 ?_
          refine s0 ?_
          refine s80 ?_
          exact rqI_of hE
        · replace hE := hE.2 c33
          refine s67 (inRd rfl) (fun _ => ?_) (fun c36 => absurd (by decide) c36)
          refine xG gb48.2.2.2.2.1 ?_
          refine s0 ?_
          refine s80 ?_
          exact rqI_of hE
      · replace hE := hE.2 c30
        refine s84 (by decide) ?_
        refine rqI_of ?_
        refine s67 (inRd rfl) (fun _ => ?_) (fun c37 => absurd (by decide) c37)
        refine xG gb48.2.2.2.2.1 ?_
        refine s0 ?_
        refine s80 ?_
        exact rqI_of hE
    · replace hE := hE.2 c27
      refine s6 (p := 8) rfl ?_
      refine s4 (x := x3) rfl ?_
      refine s0 ?_
      refine s17 ?_
      refine sI rc7 rfl (Nat.le_of_ble_eq_true rfl) ?_
      refine cI_of (ls := [.ref 8, .int (oI (x3 - 10))]) rfl ?_
      refine xG gb7 ?_
      refine s4 (x := x3 - 10) rfl ?_
      refine s0 ?_
      refine s6 (p := 8) rfl ?_
      refine s51 sh8 (by decide) (by decide) rf8_1 ?_
      refine s50 (v := A 91 1) sh21 (by decide) (by decide) (rdC hC.1 rfl) ?_
      refine s0 ?_
      refine s17 ?_
      obtain ⟨g38, hE⟩ := hE
      obtain ⟨g39, hE⟩ := hE
      refine sI rc3 rfl (Nat.le_of_ble_eq_true rfl) ?_
      refine k3 g38 (inRd rfl) g39 (fun c40 => ?_) (fun c40 => ?_)
      · replace hE := hE.1 c40
        refine s84 (by decide) ?_
        refine rqI_of ?_
        refine s67 (inRd rfl) (fun c41 => absurd c41 (by decide)) (fun _ => ?_)
        refine s79 ?_
        refine xG gb48.2.1 ?_
        refine s0 ?_
        refine s60 ?_
        refine xG gb48.2.2.2.1 ?_
        refine s7 (ls' := [.ref 8, .int (oI x1), .int (oI x2), .int (oI x3), .int (oI 1)]) (Nat.le_of_ble_eq_true rfl) rfl ?_
        refine s6 (p := 8) rfl ?_
        refine s4 (x := x1) rfl ?_
        refine sI rc9 rfl (Nat.le_of_ble_eq_true rfl) ?_
        refine cI_of (ls := [.ref 8, .int (oI x1)]) rfl ?_
        refine xG gb9 ?_
        refine s4 (x := x1) rfl ?_
        refine s0 ?_
        refine s6 (p := 8) rfl ?_
        refine s51 sh8 (by decide) (by decide) rf8_0 ?_
        refine s50 (v := A 91 2) sh9 (by decide) (by decide) (rdC hC.1 rfl) ?_
        refine s0 ?_
        refine s17 ?_
        obtain ⟨g42, hE⟩ := hE
        obtain ⟨g43, hE⟩ := hE
        refine sI rc3 rfl (Nat.le_of_ble_eq_true rfl) ?_
        refine k3 g42 (inRd rfl) g43 (fun c44 => ?_) (fun c44 => ?_)
        · replace hE := hE.1 c44
          refine s84 (by decide) ?_
          refine rqI_of ?_
          refine s67 (inRd rfl) (fun c45 => absurd c45 (by decide)) (fun _ => ?_)
          refine s4 (x := x2) rfl ?_
          refine s0 ?_
          refine s0 ?_
          obtain ⟨g46, hE⟩ := hE
          refine sI rc3 rfl (Nat.le_of_ble_eq_true rfl) ?_
          refine k3 g46 (inRd rfl) (inRd rfl) (fun c47 => ?_) (fun c47 => ?_)
          · replace hE := hE.1 c47
            refine s67 (inRd rfl) (fun c48 => absurd c48 (by decide)) (fun _ => ?_)
            refine s4 (x := 1) rfl ?_
            refine s68 (inRd rfl) (fun c49 => absurd c49 (by decide)) (fun _ => ?_)
            refine xG gb48.2.2.2.2.2 ?_
            refine s6 (p := 8) rfl ?_
            refine s51 sh8 (by decide) (by decide) rf8_6 ?_
            refine s4 (x := x1) rfl ?_
            refine s4 (x := x2) rfl ?_
            refine s6 (p := 8) rfl ?_
            refine s50 (v := A 91 0) sh8 (by decide) (by decide) (rdC hC.1 rfl) ?_
            refine s6 (p := 8) rfl ?_
            refine s50 (v := ld I 8 9) sh8 (by decide) (by decide) (oI_ld _ _ _) ?_
            refine sV rc170 rfl (Nat.le_of_ble_eq_true rfl) ?_
            refine CallV.mono hE ?_
            rintro _ ⟨I50, rfl, q51, hE⟩
            refine s6 (p := 8) rfl ?_
            refine s51 sh8 (by decide) (by decide) rf8_6 ?_
            refine s4 (x := x3) rfl ?_
            refine sI rc179 rfl (Nat.le_of_ble_eq_true rfl) ?_
            refine cI_of (ls := [.ref 77, .int (oI x3)]) rfl ?_
            refine xG gb179.1 ?_
            refine s4 (x := x3) rfl ?_
            refine s76 g1 ?_
            by_cases c53 : x3 = 0
            · replace hE := hE.1 c53
              rw [show mSel ((jSW.getD 179 []).getD 0 []) (x3 - 0) = 1 by rw [c53]; rfl]
              refine xG gb179.2.1 ?_
              refine s6 (p := 77) rfl ?_
              refine s51 sh77 (by decide) (by decide) rf77_7 ?_
              refine s6 (p := 77) rfl ?_
              refine s50 (v := ld I50 77 14) sh77 (by decide) (by decide) (oI_ld _ _ _) ?_
              obtain ⟨g54, hE⟩ := hE
              refine s40 (v := ld I50 82 (ld I50 77 14).toNat) sh82 g54 rfl (oI_ld _ _ _) ?_
              refine s80 ?_
              refine rqI_of ?_
              refine s80 ?_
              exact rqI_of hE
            replace hE := hE.2
            by_cases c55 : x3 = 1
            · replace hE := hE.1 c55
              rw [show mSel ((jSW.getD 179 []).getD 0 []) (x3 - 0) = 2 by rw [c55]; rfl]
              refine xG gb179.2.2.1 ?_
              refine s6 (p := 77) rfl ?_
              refine s50 (v := ld I50 77 11) sh77 (by decide) (by decide) (oI_ld _ _ _) ?_
              refine s80 ?_
              refine rqI_of ?_
              refine s80 ?_
              exact rqI_of hE
            replace hE := hE.2
            by_cases c56 : x3 = 2
            · replace hE := hE.1 c56
              rw [show mSel ((jSW.getD 179 []).getD 0 []) (x3 - 0) = 3 by rw [c56]; rfl]
              refine xG gb179.2.2.2.1 ?_
              refine s6 (p := 77) rfl ?_
              refine s50 (v := ld I50 77 12) sh77 (by decide) (by decide) (oI_ld _ _ _) ?_
              refine s80 ?_
              refine rqI_of ?_
              refine s80 ?_
              exact rqI_of hE
            replace hE := hE.2
            replace hE := hE ⟨c53, c55, c56⟩
            rw [show mSel ((jSW.getD 179 []).getD 0 []) (x3 - 0) = 4 by exact mSel_def (lo := 0) (vs := [0, 1, 2]) rfl (by intro v hv; simp only [List.mem_cons, List.not_mem_nil, or_false] at hv; omega)]
            refine xG gb179.2.2.2.2.1 ?_
            refine s4 (x := x3) rfl ?_
            refine s0 ?_
            refine s17 ?_
            refine s0 ?_
            refine s0 ?_
            refine sI rc3 rfl (Nat.le_of_ble_eq_true rfl) ?_
            refine k3 g38 (inRd rfl) (inRd rfl) (fun c57 => ?_) (fun c57 => ?_)
            · replace hE := hE.1 c57
              refine s67 (inRd rfl) (fun c58 => absurd c58 (by decide)) (fun _ => ?_)
              refine s6 (p := 77) rfl ?_
              refine s51 sh77 (by decide) (by decide) rf77_8 ?_
              refine s4 (x := x3) rfl ?_
              refine s0 ?_
              refine s17 ?_
              obtain ⟨g59, hE⟩ := hE
              refine s40 (v := ld I50 83 (x3 - 10).toNat) sh83 g59 rfl (oI_ld _ _ _) ?_
              refine s60 ?_
              refine xG gb179.2.2.2.2.2.2 ?_
              refine s80 ?_
              refine rqI_of ?_
              refine s80 ?_
              exact rqI_of hE
            · replace hE := hE.2 c57
              refine s67 (inRd rfl) (fun _ => ?_) (fun c60 => absurd (by decide) c60)
              refine xG gb179.2.2.2.2.2.1 ?_
              refine s0 ?_
              refine s79 ?_
              refine xG gb179.2.2.2.2.2.2 ?_
              refine s80 ?_
              refine rqI_of ?_
              refine s80 ?_
              exact rqI_of hE
          · replace hE := hE.2 c47
            refine s67 (inRd rfl) (fun _ => ?_) (fun c61 => absurd (by decide) c61)
            refine xG gb48.2.2.2.2.1 ?_
            refine s0 ?_
            refine s80 ?_
            exact rqI_of hE
        · replace hE := hE.2 c44
          refine s84 (by decide) ?_
          refine rqI_of ?_
          refine s67 (inRd rfl) (fun _ => ?_) (fun c62 => absurd (by decide) c62)
          refine xG gb48.2.2.2.2.1 ?_
          refine s0 ?_
          refine s80 ?_
          exact rqI_of hE
      · replace hE := hE.2 c40
        refine s84 (by decide) ?_
        refine rqI_of ?_
        refine s67 (inRd rfl) (fun _ => ?_) (fun c63 => absurd (by decide) c63)
        refine xG gb48.2.2.1 ?_
        refine s0 ?_
        refine s79 ?_
        refine xG gb48.2.2.2.1 ?_
        refine s7 (ls' := [.ref 8, .int (oI x1), .int (oI x2), .int (oI x3), .int (oI 0)]) (Nat.le_of_ble_eq_true rfl) rfl ?_
        refine s6 (p := 8) rfl ?_
        refine s4 (x := x1) rfl ?_
        refine sI rc9 rfl (Nat.le_of_ble_eq_true rfl) ?_
        refine cI_of (ls := [.ref 8, .int (oI x1)]) rfl ?_
        refine xG gb9 ?_
        refine s4 (x := x1) rfl ?_
        refine s0 ?_
        refine s6 (p := 8) rfl ?_
        refine s51 sh8 (by decide) (by decide) rf8_0 ?_
        refine s50 (v := A 91 2) sh9 (by decide) (by decide) (rdC hC.1 rfl) ?_
        refine s0 ?_
        refine s17 ?_
        obtain ⟨g64, hE⟩ := hE
        obtain ⟨g65, hE⟩ := hE
        refine sI rc3 rfl (Nat.le_of_ble_eq_true rfl) ?_
        refine k3 g64 (inRd rfl) g65 (fun c66 => ?_) (fun c66 => ?_)
        · replace hE := hE.1 c66
          refine s84 (by decide) ?_
          refine rqI_of ?_
          refine s67 (inRd rfl) (fun c67 => absurd c67 (by decide)) (fun _ => ?_)
          refine s4 (x := x2) rfl ?_
          refine s0 ?_
          refine s0 ?_
          obtain ⟨g68, hE⟩ := hE
          refine sI rc3 rfl (Nat.le_of_ble_eq_true rfl) ?_
          refine k3 g68 (inRd rfl) (inRd rfl) (fun c69 => ?_) (fun c69 => ?_)
          · replace hE := hE.1 c69
            refine s67 (inRd rfl) (fun c70 => absurd c70 (by decide)) (fun _ => ?_)
            refine s4 (x := 0) rfl ?_
            refine s68 (inRd rfl) (fun _ => ?_) (fun c71 => absurd (by decide) c71)
            refine s79 ?_
            refine xG gb48.2.2.2.2.1 ?_
            refine s0 ?_
            refine s80 ?_
            exact rqI_of hE
          · replace hE := hE.2 c69
            refine s67 (inRd rfl) (fun _ => ?_) (fun c72 => absurd (by decide) c72)
            refine xG gb48.2.2.2.2.1 ?_
            refine s0 ?_
            refine s80 ?_
            exact rqI_of hE
        · replace hE := hE.2 c66
          refine s84 (by decide) ?_
          refine rqI_of ?_
          refine s67 (inRd rfl) (fun _ => ?_) (fun c73 => absurd (by decide) c73)
          refine xG gb48.2.2.2.2.1 ?_
          refine s0 ?_
          refine s80 ?_
          exact rqI_of hE
set_option maxRecDepth 4000 in
theorem q48 {d L n : Nat} {I : mI} {R : mR} {S : mSh} {A : aS} {K : Int32 → mM → Prop} {x1 : Int} {x2 : Int} {x3 : Int} (hX : CX R S I A n) (hW : WF A) (hn : n ≤ 100000) (rx1 : inR x1) (rx2 : inR x2) (rx3 : inR x3) (hK : ∀ I1, FK I I1 → CX R S I1 (o276 A x1 x2 x3).2 (n + 1) → K (oI (o276 A x1 x2 x3).1) (bd L I1 R S)) : CallI (d + 30) 48 [.ref 8, .int (oI x1), .int (oI x2), .int (oI x3)] (bd L I R S) K := by
  have hC := hX.1
  have hA := hW.1
  have w0 := hA.1
  have w1 := hA.2.1
  have w2 := hA.2.2.1
  have w3 : 0 ≤ A 91 3 ∧ A 91 3 ≤ 850 := hA.2.2.2.1
  have ty := today_year hA
  have c9 := hX.2.2.2.1
  have rx3b : -2147483648 ≤ x3 ∧ x3 ≤ 2147483647 := rx3
  refine e48 (d := d + 28) hC ?_
  refine ⟨by first | assumption | exact inRd rfl | omega | exact ⟨by omega, by omega⟩ | (unfold WnOk; omega) | exact hW.1 | exact hW.2.1 | exact hW.2.2.1 | exact hW.2.2.2.1 | exact hW.2.2.2.2.1 | exact hW.2.2.2.2.2.2.2.2.2.1 | exact hW.2.2.2.2.2.2.2.2.2.2.1 | (constructor <;> omega), ?_⟩
  refine ⟨fun c1 => ?_, fun c1 => ?_⟩
  · refine ⟨by first | assumption | exact inRd rfl | omega | exact ⟨by omega, by omega⟩ | (unfold WnOk; omega) | exact hW.1 | exact hW.2.1 | exact hW.2.2.1 | exact hW.2.2.2.1 | exact hW.2.2.2.2.1 | exact hW.2.2.2.2.2.2.2.2.2.1 | exact hW.2.2.2.2.2.2.2.2.2.2.1 | (constructor <;> omega), ?_⟩
    refine ⟨by first | assumption | exact inRd rfl | omega | exact ⟨by omega, by omega⟩ | (unfold WnOk; omega) | exact hW.1 | exact hW.2.1 | exact hW.2.2.1 | exact hW.2.2.2.1 | exact hW.2.2.2.2.1 | exact hW.2.2.2.2.2.2.2.2.2.1 | exact hW.2.2.2.2.2.2.2.2.2.2.1 | (constructor <;> omega), ?_⟩
    refine ⟨fun c2 => ?_, fun c2 => ?_⟩
    · refine ⟨by first | assumption | exact inRd rfl | omega | exact ⟨by omega, by omega⟩ | (unfold WnOk; omega) | exact hW.1 | exact hW.2.1 | exact hW.2.2.1 | exact hW.2.2.2.1 | exact hW.2.2.2.2.1 | exact hW.2.2.2.2.2.2.2.2.2.1 | exact hW.2.2.2.2.2.2.2.2.2.2.1 | (constructor <;> omega), ?_⟩
      refine ⟨fun c3 => ?_, fun c3 => ?_⟩
      · have hch : inR (ld I 8 9) := ld_inR I 8 9
        refine k170 (d := d) hC hA hW.2.1 hW.2.2.2.2.2.2.2.2.2.2.1 hW.2.2.2.2.2.2.2.2.2.1 rx1 (by omega) hch hX.2.2.1.1 (fun hg => hX.2.2.1.2 x1 x2 (by omega) hg) (fun I1 q1 r1 g1 k1 h81 => ?_)
        refine ⟨I1, rfl, r1, ?_⟩
        have hX1 := CX.up (hX.en r1 g1 k1 h81 (fun a k ha => by rcases (by omega : a = 8 ∨ a = 70 ∨ a = 71 ∨ a = 72 ∨ a = 73) with rfl | rfl | rfl | rfl | rfl <;> exact q1 _ k rfl)) (Nat.le_succ n)
        have hF : FK I I1 := Fr.FK q1 rfl
        have e14 : ld I1 77 14 = x2 := k1.2.1
        rw [e14]
        refine ⟨fun c => ⟨by omega, ?_⟩, fun c => ?_, fun c => ?_, fun c => by exfalso; omega⟩
        · rw [g1.1]
          have ho : o276 A x1 x2 x3 = (mfS (fun t => hrS A (yrT A) t) (wsL A (yrT A) (rwN A x1)) x2, A) := by
            unfold o276
            rw [if_pos (by omega), if_pos (by omega), if_pos (by omega), if_pos (by omega)]
          rw [ho] at hK
          exact hK I1 hF hX1
        · rw [g1.2.1]
          have ho : o276 A x1 x2 x3 = (x2 - lfP A (yrT A) x2 (rwN A x1) (rwN A x1).length, A) := by
            unfold o276
            rw [if_pos (by omega), if_pos (by omega), if_pos (by omega), if_neg (by omega), if_pos (by omega)]
          rw [ho] at hK
          exact hK I1 hF hX1
        · rw [g1.2.2.1]
          have ho : o276 A x1 x2 x3 = (((rwN A x1).length : Int) - enP A (yrT A) x2 (rwN A x1) (rwN A x1).length, A) := by
            unfold o276
            rw [if_pos (by omega), if_pos (by omega), if_pos (by omega), if_neg (by omega), if_neg (by omega), if_pos (by omega)]
          rw [ho] at hK
          exact hK I1 hF hX1
      · have ho : o276 A x1 x2 x3 = ((-1), A) := by
          unfold o276
          repeat' split
          all_goals first | (exfalso; omega) | with_reducible rfl
        rw [ho] at hK
        exact hK I (FK.refl I) (hX.up (Nat.le_succ n))
    · have ho : o276 A x1 x2 x3 = ((-1), A) := by
        unfold o276
        repeat' split
        all_goals first | (exfalso; omega) | with_reducible rfl
      rw [ho] at hK
      exact hK I (FK.refl I) (hX.up (Nat.le_succ n))
  · refine ⟨fun c4 => ?_, fun c4 => ?_⟩
    · refine ⟨by first | assumption | exact inRd rfl | omega | exact ⟨by omega, by omega⟩ | (unfold WnOk; omega) | exact hW.1 | exact hW.2.1 | exact hW.2.2.1 | exact hW.2.2.2.1 | exact hW.2.2.2.2.1 | exact hW.2.2.2.2.2.2.2.2.2.1 | exact hW.2.2.2.2.2.2.2.2.2.2.1 | (constructor <;> omega), ?_⟩
      refine ⟨by first | assumption | exact inRd rfl | omega | exact ⟨by omega, by omega⟩ | (unfold WnOk; omega) | exact hW.1 | exact hW.2.1 | exact hW.2.2.1 | exact hW.2.2.2.1 | exact hW.2.2.2.2.1 | exact hW.2.2.2.2.2.2.2.2.2.1 | exact hW.2.2.2.2.2.2.2.2.2.2.1 | (constructor <;> omega), ?_⟩
      refine ⟨fun c5 => ?_, fun c5 => ?_⟩
      · refine ⟨by first | assumption | exact inRd rfl | omega | exact ⟨by omega, by omega⟩ | (unfold WnOk; omega) | exact hW.1 | exact hW.2.1 | exact hW.2.2.1 | exact hW.2.2.2.1 | exact hW.2.2.2.2.1 | exact hW.2.2.2.2.2.2.2.2.2.1 | exact hW.2.2.2.2.2.2.2.2.2.2.1 | (constructor <;> omega), ?_⟩
        refine ⟨fun c6 => ?_, fun c6 => ?_⟩
        · have ho : o276 A x1 x2 x3 = ((-1), A) := by
            unfold o276
            repeat' split
            all_goals first | (exfalso; omega) | with_reducible rfl
          rw [ho] at hK
          exact hK I (FK.refl I) (hX.up (Nat.le_succ n))
        · have ho : o276 A x1 x2 x3 = ((-1), A) := by
            unfold o276
            repeat' split
            all_goals first | (exfalso; omega) | with_reducible rfl
          rw [ho] at hK
          exact hK I (FK.refl I) (hX.up (Nat.le_succ n))
      · have ho : o276 A x1 x2 x3 = ((-1), A) := by
          unfold o276
          repeat' split
          all_goals first | (exfalso; omega) | with_reducible rfl
        rw [ho] at hK
        exact hK I (FK.refl I) (hX.up (Nat.le_succ n))
    · refine ⟨by first | assumption | exact inRd rfl | omega | exact ⟨by omega, by omega⟩ | (unfold WnOk; omega) | exact hW.1 | exact hW.2.1 | exact hW.2.2.1 | exact hW.2.2.2.1 | exact hW.2.2.2.2.1 | exact hW.2.2.2.2.2.2.2.2.2.1 | exact hW.2.2.2.2.2.2.2.2.2.2.1 | (constructor <;> omega), ?_⟩
      refine ⟨by first | assumption | exact inRd rfl | omega | exact ⟨by omega, by omega⟩ | (unfold WnOk; omega) | exact hW.1 | exact hW.2.1 | exact hW.2.2.1 | exact hW.2.2.2.1 | exact hW.2.2.2.2.1 | exact hW.2.2.2.2.2.2.2.2.2.1 | exact hW.2.2.2.2.2.2.2.2.2.2.1 | (constructor <;> omega), ?_⟩
      refine ⟨fun c7 => ?_, fun c7 => ?_⟩
      · refine ⟨by first | assumption | exact inRd rfl | omega | exact ⟨by omega, by omega⟩ | (unfold WnOk; omega) | exact hW.1 | exact hW.2.1 | exact hW.2.2.1 | exact hW.2.2.2.1 | exact hW.2.2.2.2.1 | exact hW.2.2.2.2.2.2.2.2.2.1 | exact hW.2.2.2.2.2.2.2.2.2.2.1 | (constructor <;> omega), ?_⟩
        refine ⟨by first | assumption | exact inRd rfl | omega | exact ⟨by omega, by omega⟩ | (unfold WnOk; omega) | exact hW.1 | exact hW.2.1 | exact hW.2.2.1 | exact hW.2.2.2.1 | exact hW.2.2.2.2.1 | exact hW.2.2.2.2.2.2.2.2.2.1 | exact hW.2.2.2.2.2.2.2.2.2.2.1 | (constructor <;> omega), ?_⟩
        refine ⟨fun c8 => ?_, fun c8 => ?_⟩
        · refine ⟨by first | assumption | exact inRd rfl | omega | exact ⟨by omega, by omega⟩ | (unfold WnOk; omega) | exact hW.1 | exact hW.2.1 | exact hW.2.2.1 | exact hW.2.2.2.1 | exact hW.2.2.2.2.1 | exact hW.2.2.2.2.2.2.2.2.2.1 | exact hW.2.2.2.2.2.2.2.2.2.2.1 | (constructor <;> omega), ?_⟩
          refine ⟨fun c9 => ?_, fun c9 => ?_⟩
          · have hch : inR (ld I 8 9) := ld_inR I 8 9
            refine k170 (d := d) hC hA hW.2.1 hW.2.2.2.2.2.2.2.2.2.2.1 hW.2.2.2.2.2.2.2.2.2.1 rx1 (by omega) hch hX.2.2.1.1 (fun hg => hX.2.2.1.2 x1 x2 (by omega) hg) (fun I1 q1 r1 g1 k1 h81 => ?_)
            refine ⟨I1, rfl, r1, ?_⟩
            have hX1 := CX.up (hX.en r1 g1 k1 h81 (fun a k ha => by rcases (by omega : a = 8 ∨ a = 70 ∨ a = 71 ∨ a = 72 ∨ a = 73) with rfl | rfl | rfl | rfl | rfl <;> exact q1 _ k rfl)) (Nat.le_succ n)
            have hF : FK I I1 := Fr.FK q1 rfl
            have e14 : ld I1 77 14 = x2 := k1.2.1
            rw [e14]
            refine ⟨fun c => by exfalso; omega, fun c => by exfalso; omega, fun c => by exfalso; omega, fun c => ⟨fun c2 => ⟨by omega, ?_⟩, fun c2 => by exfalso; omega⟩⟩
            rw [g1.2.2.2 _ (by omega)]
            have ho : o276 A x1 x2 x3 = (stP A (yrT A) x2 (rwN A x1) (rwN A x1).length (x3 - 10).toNat, A) := by
              unfold o276
              rw [if_pos (by omega), if_pos (by omega), if_neg (by omega), if_pos (by omega), if_neg (by omega), if_neg (by omega), if_neg (by omega)]
            rw [ho] at hK
            exact hK I1 hF hX1
          · have ho : o276 A x1 x2 x3 = ((-1), A) := by
              unfold o276
              repeat' split
              all_goals first | (exfalso; omega) | with_reducible rfl
            rw [ho] at hK
            exact hK I (FK.refl I) (hX.up (Nat.le_succ n))
        · have ho : o276 A x1 x2 x3 = ((-1), A) := by
            unfold o276
            repeat' split
            all_goals first | (exfalso; omega) | with_reducible rfl
          rw [ho] at hK
          exact hK I (FK.refl I) (hX.up (Nat.le_succ n))
      · refine ⟨by first | assumption | exact inRd rfl | omega | exact ⟨by omega, by omega⟩ | (unfold WnOk; omega) | exact hW.1 | exact hW.2.1 | exact hW.2.2.1 | exact hW.2.2.2.1 | exact hW.2.2.2.2.1 | exact hW.2.2.2.2.2.2.2.2.2.1 | exact hW.2.2.2.2.2.2.2.2.2.2.1 | (constructor <;> omega), ?_⟩
        refine ⟨by first | assumption | exact inRd rfl | omega | exact ⟨by omega, by omega⟩ | (unfold WnOk; omega) | exact hW.1 | exact hW.2.1 | exact hW.2.2.1 | exact hW.2.2.2.1 | exact hW.2.2.2.2.1 | exact hW.2.2.2.2.2.2.2.2.2.1 | exact hW.2.2.2.2.2.2.2.2.2.2.1 | (constructor <;> omega), ?_⟩
        refine ⟨fun c10 => ?_, fun c10 => ?_⟩
        · refine ⟨by first | assumption | exact inRd rfl | omega | exact ⟨by omega, by omega⟩ | (unfold WnOk; omega) | exact hW.1 | exact hW.2.1 | exact hW.2.2.1 | exact hW.2.2.2.1 | exact hW.2.2.2.2.1 | exact hW.2.2.2.2.2.2.2.2.2.1 | exact hW.2.2.2.2.2.2.2.2.2.2.1 | (constructor <;> omega), ?_⟩
          refine ⟨fun c11 => ?_, fun c11 => ?_⟩
          · have ho : o276 A x1 x2 x3 = ((-1), A) := by
              unfold o276
              repeat' split
              all_goals first | (exfalso; omega) | with_reducible rfl
            rw [ho] at hK
            exact hK I (FK.refl I) (hX.up (Nat.le_succ n))
          · have ho : o276 A x1 x2 x3 = ((-1), A) := by
              unfold o276
              repeat' split
              all_goals first | (exfalso; omega) | with_reducible rfl
            rw [ho] at hK
            exact hK I (FK.refl I) (hX.up (Nat.le_succ n))
        · have ho : o276 A x1 x2 x3 = ((-1), A) := by
            unfold o276
            repeat' split
            all_goals first | (exfalso; omega) | with_reducible rfl
          rw [ho] at hK
          exact hK I (FK.refl I) (hX.up (Nat.le_succ n))
