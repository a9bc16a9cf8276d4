section
variable {d L : Nat} {I I0 : mI} {R : mR} {S : mSh} {Q : Option Value → mM → Prop} {A : aS} {c day known kind half year subj code : Int}
def LyK (A : aS) (I : mI) (c f t kn : Int) (k : Nat) : Prop := ∀ i : Nat, f + i ≤ t → (ld I 62 i = (onL A c (f + i) kn k).1 ∧ ld I 63 i = (onL A c (f + i) kn k).2) ∧ ld I 65 i = kdL A c (f + i) kn k ∧ (ld I 66 i = bI (spB A 4 c (f + i) kn k) ∧ ld I 67 i = bI (spB A 5 c (f + i) kn k)) ∧ (ld I 64 (2 * i) = mkL' A c (2 * (f + i)) kn k ∧ ld I 64 (2 * i + 1) = mkL' A c (2 * (f + i) + 1) kn k)
def LyP (A : aS) (I : mI) (c f t kn : Int) : Prop := ∀ i : Nat, f + i ≤ t → ld I 62 i = onS A c (f + i) kn ∧ ld I 65 i = kdS A c (f + i) kn ∧ (ld I 66 i = bI (spS A 4 c (f + i) kn) ∧ ld I 67 i = bI (spS A 5 c (f + i) kn)) ∧ (ld I 64 (2 * i) = mkS A c (2 * (f + i)) kn ∧ ld I 64 (2 * i + 1) = mkS A c (2 * (f + i) + 1) kn)
theorem LyK.skip {f t kn : Int} {k : Nat} (h : LyK A I c f t kn k) (hc : ¬ (A 104 k = c ∧ A 108 k ≤ kn ∧ kn < A 109 k ∧ (A 103 k = 0 ∨ (2 ≤ A 103 k ∧ A 103 k ≤ 5)))) : LyK A I c f t kn (k + 1) := by
  intro i hi
  have := h i hi
  rw [onL_succ, kdL_succ, spB_succ, spB_succ, mkL_succ, mkL_succ, if_neg (by omega), if_neg (by omega), if_neg (by omega), if_neg (by omega), decide_eq_false (by omega), decide_eq_false (by omega), Bool.or_false, Bool.or_false]
  exact this
theorem LyK.fr {f t kn : Int} {k : Nat} {I1 : mI} {ws : List Nat} {os : List (Nat × Nat)} (h : LyK A I c f t kn k) (hf : Fr ws os I I1) (hp : ∀ j, (ws.contains 62 || os.contains (62, j)) = false ∧ (ws.contains 63 || os.contains (63, j)) = false ∧ (ws.contains 64 || os.contains (64, j)) = false ∧ (ws.contains 65 || os.contains (65, j)) = false ∧ (ws.contains 66 || os.contains (66, j)) = false ∧ (ws.contains 67 || os.contains (67, j)) = false) : LyK A I1 c f t kn k := by
  intro i hi
  rw [hf.ld (hp _).1, hf.ld (hp _).2.1, hf.ld (hp _).2.2.1, hf.ld (hp _).2.2.1, hf.ld (hp _).2.2.2.1, hf.ld (hp _).2.2.2.2.1, hf.ld (hp _).2.2.2.2.2]
  exact h i hi
theorem or1 : ∀ b : Bool, iOr (bI b) (iShl 1 0) = 1 := by decide
theorem k137 {f t kn : Int} {k : Nat} {K : mM → Prop} (hC : RC R S I A) (hW : WfA A) (hw : WnOk f t kn) (hwn : WnP I f t kn) (hk : k < nN A) (ho : A 104 k = c ∧ ¬ A 103 k = 1) (hkn : A 108 k ≤ kn ∧ kn < A 109 k) (hl : LyK A I c f t kn k) (hK : ∀ I1, Fr [62, 63, 64, 65, 66, 67] [] I I1 → LyK A I1 c f t kn (k + 1) → K (bd L I1 R S)) : CallV (d + 2) 137 [.ref 59, .int (oI (k : Int))] (bd L I R S) K := by
  have hN := hW.2.2.2.1
  unfold WfN at hN
  have hk2 : (k : Int) < A 91 3 := by unfold nN at hk; omega
  have w := hW.2.2.2.2 k hk
  obtain ⟨n1, n2, n3⟩ := hwn
  unfold WnOk at hw
  refine e137 (d := d) hC ?_
  rw [n1, n2, Int.toNat_natCast]
  refine ⟨by omega, fun e => ⟨hW, by omega, e, by omega, by omega, fun I1 f1 h1 => ?_⟩, fun e => ⟨hW, by omega, e, by omega, by omega, fun I1 f1 h1 => ?_⟩, fun e => ⟨hW, by omega, by omega, by omega, by omega, fun I1 f1 h1 => ?_⟩, fun e => ⟨hW, by omega, by omega, by omega, by omega, fun I1 f1 h1 => ?_⟩, fun e => ⟨hW, by omega, by omega, by omega, by omega, fun I1 f1 h1 => ?_⟩, fun e => ?_⟩
  · refine hK I1 (f1.sub rfl rfl) (fun i hi => ?_)
    obtain ⟨⟨a1, a2⟩, a3, a4, a5⟩ := hl i hi
    have h1 := h1 i (by omega) hi
    rw [kdL_succ, spB_succ, spB_succ, mkL_succ, mkL_succ, if_neg (by omega), if_neg (by omega), if_neg (by omega), decide_eq_false (by omega), decide_eq_false (by omega), Bool.or_false, Bool.or_false]
    refine ⟨?_, by rw [f1.ld rfl]; exact a3, by rw [f1.ld rfl, f1.ld rfl]; exact a4, by rw [f1.ld rfl, f1.ld rfl]; exact a5⟩
    rw [onL_succ, ← a2]
    by_cases q : A 106 k ≤ f + i ∧ ld I 63 i ≤ A 106 k
    · rw [if_pos q] at h1
      rw [if_pos ⟨e, ho.1, q.1, q.2, hkn⟩]; exact h1
    · rw [if_neg q] at h1
      rw [if_neg (by omega), h1.1, h1.2]; exact ⟨a1, a2⟩
  · refine hK I1 (f1.sub rfl rfl) (fun i hi => ?_)
    obtain ⟨⟨a1, a2⟩, a3, a4, a5⟩ := hl i hi
    rw [onL_succ, kdL_succ, spB_succ, spB_succ, if_neg (by omega), if_neg (by omega), decide_eq_false (by omega), decide_eq_false (by omega), Bool.or_false, Bool.or_false]
    refine ⟨by rw [f1.ld rfl, f1.ld rfl]; exact ⟨a1, a2⟩, by rw [f1.ld rfl]; exact a3, by rw [f1.ld rfl, f1.ld rfl]; exact a4, ?_, ?_⟩
    · rw [h1 (2 * i) (by omega) (by omega), mkL_succ, a5.1, show f * 2 + ((2 * i : Nat) : Int) = 2 * (f + i) by omega]
      by_cases q : A 105 k ≤ 2 * (f + i) ∧ 2 * (f + i) ≤ A 106 k
      · rw [if_pos q, if_pos ⟨e, ho.1, q, hkn⟩]
      · rw [if_neg q, if_neg (by omega)]
    · rw [h1 (2 * i + 1) (by omega) (by omega), mkL_succ, a5.2, show f * 2 + ((2 * i + 1 : Nat) : Int) = 2 * (f + i) + 1 by omega]
      by_cases q : A 105 k ≤ 2 * (f + i) + 1 ∧ 2 * (f + i) + 1 ≤ A 106 k
      · rw [if_pos q, if_pos ⟨e, ho.1, q, hkn⟩]
      · rw [if_neg q, if_neg (by omega)]
  · refine hK I1 (f1.sub rfl rfl) (fun i hi => ?_)
    obtain ⟨⟨a1, a2⟩, a3, a4, a5⟩ := hl i hi
    have h1 := h1 i (by omega) hi
    have hv : ld I 35 k = A 107 k := by rw [(hC.2.2.1.1 k hk).2.2.1]; unfold vlN; rw [if_neg (by omega), if_pos (by omega)]
    rw [onL_succ, spB_succ, spB_succ, mkL_succ, mkL_succ, if_neg (by omega), if_neg (by omega), if_neg (by omega), decide_eq_false (by omega), decide_eq_false (by omega), Bool.or_false, Bool.or_false]
    refine ⟨by rw [f1.ld rfl, f1.ld rfl]; exact ⟨a1, a2⟩, ?_, by rw [f1.ld rfl, f1.ld rfl]; exact a4, by rw [f1.ld rfl, f1.ld rfl]; exact a5⟩
    rw [h1, kdL_succ, a3, hv]
    by_cases q : A 105 k ≤ f + i ∧ f + i ≤ A 106 k
    · rw [if_pos q, if_pos ⟨e, ho.1, q, hkn⟩]
    · rw [if_neg q, if_neg (by omega)]
  · refine hK I1 (f1.sub rfl rfl) (fun i hi => ?_)
    obtain ⟨⟨a1, a2⟩, a3, a4, a5⟩ := hl i hi
    have h1 := h1 i (by omega) hi
    rw [onL_succ, kdL_succ, mkL_succ, mkL_succ, if_neg (by omega), if_neg (by omega), if_neg (by omega), if_neg (by omega)]
    refine ⟨by rw [f1.ld rfl, f1.ld rfl]; exact ⟨a1, a2⟩, by rw [f1.ld rfl]; exact a3, ⟨?_, ?_⟩, by rw [f1.ld rfl, f1.ld rfl]; exact a5⟩
    · rw [h1, spB_succ, a4.1]
      by_cases q : A 105 k ≤ f + i ∧ f + i ≤ A 106 k
      · rw [if_pos q, decide_eq_true ⟨e, ho.1, q, hkn⟩, Bool.or_true, or1]; rfl
      · rw [if_neg q, decide_eq_false (by omega), Bool.or_false]
    · rw [f1.ld rfl, spB_succ, a4.2, decide_eq_false (by omega), Bool.or_false]
  · refine hK I1 (f1.sub rfl rfl) (fun i hi => ?_)
    obtain ⟨⟨a1, a2⟩, a3, a4, a5⟩ := hl i hi
    have h1 := h1 i (by omega) hi
    rw [onL_succ, kdL_succ, mkL_succ, mkL_succ, if_neg (by omega), if_neg (by omega), if_neg (by omega), if_neg (by omega)]
    refine ⟨by rw [f1.ld rfl, f1.ld rfl]; exact ⟨a1, a2⟩, by rw [f1.ld rfl]; exact a3, ⟨?_, ?_⟩, by rw [f1.ld rfl, f1.ld rfl]; exact a5⟩
    · rw [f1.ld rfl, spB_succ, a4.1, decide_eq_false (by omega), Bool.or_false]
    · rw [h1, spB_succ, a4.2]
      by_cases q : A 105 k ≤ f + i ∧ f + i ≤ A 106 k
      · rw [if_pos q, decide_eq_true ⟨e, ho.1, q, hkn⟩, Bool.or_true, or1]; rfl
      · rw [if_neg q, decide_eq_false (by omega), Bool.or_false]
  · exact hK I (Fr.refl _ _ _) (hl.skip (by omega))
end
def h136_1 (d L : Nat) (I : Nat → Nat → Int32) (R : Nat → Nat → Option Nat) (S : List (Nat × Nat)) (Q : Option Value → mM → Prop) (w1 : Value) (x2 : Int) (w3 : Value) : Prop := Wp d (gb 136 1) [.ref 59, w1, .int (oI x2), w3] [] (bd L I R S) Q
def h136_3 (d L : Nat) (I : Nat → Nat → Int32) (R : Nat → Nat → Option Nat) (S : List (Nat × Nat)) (Q : Option Value → mM → Prop) (w1 : Value) (x2 : Int) (x3 : Int) : Prop := Wp d (gb 136 3) [.ref 59, w1, .int (oI x2), .int (oI x3)] [] (bd L I R S) Q
set_option maxRecDepth 4000 in
theorem e136_1 {d L : Nat} {I : Nat → Nat → Int32} {R : Nat → Nat → Option Nat} {S : List (Nat × Nat)} {Q : Option Value → mM → Prop} {A : aS} (hC : RC R S I A) {w1 : Value} {x2 : Int} {w3 : Value} (hE : inR x2 ∧ (inR (ld I 59 14 - (ld I 59 13)) ∧ (((ld I 59 14 - (ld I 59 13) < x2) → (0 ≤ ld I 59 16 ∧ ld I 59 16 < 46) ∧ (h136_3 (d + 1) L I R S Q (mNl w1) (ld I 40 (ld I 59 16).toNat) (A 91 3))) ∧ (¬ (ld I 59 14 - (ld I 59 13) < x2) → (0 ≤ x2 ∧ x2 < 100) ∧ ((0 ≤ 2 * x2 ∧ 2 * x2 < 200) ∧ ((0 ≤ (2 * x2) + 1 ∧ (2 * x2) + 1 < 200) ∧ (h136_1 (d + 1) L (u2 (u2 (u2 (u2 (u2 (u2 (u2 I 62 x2.toNat (oI (-1))) 63 x2.toNat (oI (-1))) 64 (2 * x2).toNat (oI 0)) 64 ((2 * x2) + 1).toNat (oI 0)) 65 x2.toNat (oI 0)) 66 x2.toNat (oI 0)) 67 x2.toNat (oI 0)) R S Q (mNl w1) (x2 + 1) w3))))))) : h136_1 (d + 1) L I R S Q w1 x2 w3 := by
  unfold h136_1
  refine xG gb136.2.1 ?_
  refine s4 (x := x2) rfl ?_
  refine s6 (p := 59) rfl ?_
  refine s50 (v := ld I 59 14) sh59 (by decide) (by decide) (oI_ld _ _ _) ?_
  refine s6 (p := 59) rfl ?_
  refine s50 (v := ld I 59 13) sh59 (by decide) (by decide) (oI_ld _ _ _) ?_
  refine s17 ?_
  obtain ⟨g1, hE⟩ := hE
  obtain ⟨g2, hE⟩ := hE
  refine s65 g1 g2 (fun c3 => ?_) (fun c3 => ?_)
  · replace hE := hE.1 c3
    refine xG gb136.2.2.1 ?_
    refine s6 (p := 59) rfl ?_
    refine s51 sh59 (by decide) (by decide) rf59_2 ?_
    refine s6 (p := 59) rfl ?_
    refine s50 (v := ld I 59 16) sh59 (by decide) (by decide) (oI_ld _ _ _) ?_
    refine sI rc90 rfl (Nat.le_of_ble_eq_true rfl) ?_
    refine cI_of (ls := [.ref 31, .int (oI (ld I 59 16))]) rfl ?_
    refine xG gb90 ?_
    refine s6 (p := 31) rfl ?_
    refine s51 sh31 (by decide) (by decide) rf31_8 ?_
    refine s4 (x := ld I 59 16) rfl ?_
    obtain ⟨g4, hE⟩ := hE
    refine s40 (v := ld I 40 (ld I 59 16).toNat) sh40 g4 rfl (oI_ld _ _ _) ?_
    refine s80 ?_
    refine rqI_of ?_
    refine s7 (ls' := [.ref 59, mNl w1, .int (oI (ld I 40 (ld I 59 16).toNat)), w3]) (Nat.le_of_ble_eq_true rfl) rfl ?_
    refine s6 (p := 59) rfl ?_
    refine s51 sh59 (by decide) (by decide) rf59_2 ?_
    refine s50 (v := A 91 3) sh31 (by decide) (by decide) (rdC hC.1 rfl) ?_
    refine s7 (ls' := [.ref 59, mNl w1, .int (oI (ld I 40 (ld I 59 16).toNat)), .int (oI (A 91 3))]) (Nat.le_of_ble_eq_true rfl) rfl ?_
    refine s79 ?_
    exact hE
  · replace hE := hE.2 c3
    refine s6 (p := 59) rfl ?_
    refine s51 sh59 (by decide) (by decide) rf59_5 ?_
    refine s4 (x := x2) rfl ?_
    refine s0 ?_
    obtain ⟨g5, hE⟩ := hE
    refine s44 sh62 (by decide) g5 rfl ?_
    refine s6 (p := 59) rfl ?_
    refine s51 sh59 (by decide) (by decide) rf59_6 ?_
    refine s4 (x := x2) rfl ?_
    refine s0 ?_
    refine s44 sh63 (by decide) g5 rfl ?_
    refine s6 (p := 59) rfl ?_
    refine s51 sh59 (by decide) (by decide) rf59_7 ?_
    refine s0 ?_
    refine s4 (x := x2) rfl ?_
    refine s18 ?_
    refine s0 ?_
    obtain ⟨g6, hE⟩ := hE
    refine s44 sh64 (by decide) g6 rfl ?_
    refine s6 (p := 59) rfl ?_
    refine s51 sh59 (by decide) (by decide) rf59_7 ?_
    refine s0 ?_
    refine s4 (x := x2) rfl ?_
    refine s18 ?_
    refine s0 ?_
    refine s16 ?_
    refine s0 ?_
    obtain ⟨g7, hE⟩ := hE
    refine s44 sh64 (by decide) g7 rfl ?_
    refine s6 (p := 59) rfl ?_
    refine s51 sh59 (by decide) (by decide) rf59_8 ?_
    refine s4 (x := x2) rfl ?_
    refine s0 ?_
    refine s44 sh65 (by decide) g5 rfl ?_
    refine s6 (p := 59) rfl ?_
    refine s51 sh59 (by decide) (by decide) rf59_9 ?_
    refine s4 (x := x2) rfl ?_
    refine s0 ?_
    refine s44 sh66 (by decide) g5 rfl ?_
    refine s6 (p := 59) rfl ?_
    refine s51 sh59 (by decide) (by decide) rf59_10 ?_
    refine s4 (x := x2) rfl ?_
    refine s0 ?_
    refine s44 sh67 (by decide) g5 rfl ?_
    refine s10 (x := x2) (ls' := [.ref 59, mNl w1, .int (oI (x2 + 1)), w3]) rfl rfl ?_
    refine s60 ?_
    exact hE
set_option maxRecDepth 4000 in
theorem e136_3 {d L : Nat} {I : Nat → Nat → Int32} {R : Nat → Nat → Option Nat} {S : List (Nat × Nat)} {Q : Option Value → mM → Prop} {A : aS} (hC : RC R S I A) {w1 : Value} {x2 : Int} {x3 : Int} (hE : inR x3 ∧ (((0 < x3) → inR x2 ∧ (((x2 = (-1)) → Q none (bd L I R S)) ∧ (¬ (x2 = (-1)) → WfA A ∧ ((0 ≤ x2 ∧ x2 < A 91 3) ∧ ((0 ≤ ld I 59 15 ∧ ld I 59 15 ≤ 799) ∧ (((A 108 x2.toNat ≤ ld I 59 15 ∧ ld I 59 15 < A 109 x2.toNat) → ∃ (z10 z11 z12 z13 : Int) (z14 : Nat), x2 = (z14 : Int) ∧ WfA A ∧ WnOk z11 z12 z13 ∧ WnP I z11 z12 z13 ∧ z14 < nN A ∧ (A 104 z14 = z10 ∧ ¬ A 103 z14 = 1) ∧ (A 108 z14 ≤ z13 ∧ z13 < A 109 z14) ∧ LyK A I z10 z11 z12 z13 z14 ∧ (∀ (I23 : mI), (Fr [62, 63, 64, 65, 66, 67] [] I I23) → (LyK A I23 z10 z11 z12 z13 (z14 + 1)) → (0 ≤ x2 ∧ x2 < 850) ∧ (h136_3 (d + 3) L I23 R S Q (mNl w1) (ld I23 39 x2.toNat) (x3 + (-1))))) ∧ (¬ (A 108 x2.toNat ≤ ld I 59 15 ∧ ld I 59 15 < A 109 x2.toNat) → (0 ≤ x2 ∧ x2 < 850) ∧ (h136_3 (d + 3) L I R S Q (mNl w1) (ld I 39 x2.toNat) (x3 + (-1)))))))))) ∧ (¬ (0 < x3) → Q none (bd L I R S)))) : h136_3 (d + 3) L I R S Q w1 x2 x3 := by
  unfold h136_3
  refine xG gb136.2.2.2.1 ?_
  refine s4 (x := x3) rfl ?_
  obtain ⟨g1, hE⟩ := hE
  refine s72 g1 (fun c2 => ?_) (fun c2 => ?_)
  · replace hE := hE.1 c2
    refine s4 (x := x2) rfl ?_
    refine s0 ?_
    obtain ⟨g3, hE⟩ := hE
    refine s61 g3 (inRd rfl) (fun c4 => ?_) (fun c4 => ?_)
    · replace hE := hE.1 c4
      refine xG gb136.2.2.2.2.2 ?_
      refine s83 ?_
      exact hE
    · replace hE := hE.2 c4
      refine s6 (p := 59) rfl ?_
      refine s51 sh59 (by decide) (by decide) rf59_2 ?_
      refine s4 (x := x2) rfl ?_
      refine s6 (p := 59) rfl ?_
      refine s50 (v := ld I 59 15) sh59 (by decide) (by decide) (oI_ld _ _ _) ?_
      obtain ⟨g5, hE⟩ := hE
      obtain ⟨g6, hE⟩ := hE
      obtain ⟨g7, hE⟩ := hE
      refine sI rc88 rfl (Nat.le_of_ble_eq_true rfl) ?_
      refine k88 hC g5 g6 g7 (fun c8 => ?_) (fun c8 => ?_)
      · replace hE := hE.1 c8
        refine s67 (inRd rfl) (fun c9 => absurd c9 (by decide)) (fun _ => ?_)
        refine s6 (p := 59) rfl ?_
        refine s4 (x := x2) rfl ?_
        obtain ⟨z10, z11, z12, z13, z14, k15, k16, k17, k18, k19, k20, k21, k22, hE⟩ := hE
        rw [k15]
        refine sV rc137 rfl (Nat.le_of_ble_eq_true rfl) ?_
        refine k137 hC k16 k17 k18 k19 k20 k21 k22 (fun I23 q24 q25 => ?_)
        rw [← k15]
        replace hE := hE I23 q24 q25
        refine s79 ?_
        refine xG gb136.2.2.2.2.1 ?_
        refine s6 (p := 59) rfl ?_
        refine s51 sh59 (by decide) (by decide) rf59_2 ?_
        refine s4 (x := x2) rfl ?_
        refine sI rc89 rfl (Nat.le_of_ble_eq_true rfl) ?_
        refine cI_of (ls := [.ref 31, .int (oI x2)]) rfl ?_
        refine xG gb89 ?_
        refine s6 (p := 31) rfl ?_
        refine s51 sh31 (by decide) (by decide) rf31_7 ?_
        refine s4 (x := x2) rfl ?_
        obtain ⟨g26, hE⟩ := hE
        refine s40 (v := ld I23 39 x2.toNat) sh39 g26 rfl (oI_ld _ _ _) ?_
        refine s80 ?_
        refine rqI_of ?_
        refine s7 (ls' := [.ref 59, mNl w1, .int (oI (ld I23 39 x2.toNat)), .int (oI x3)]) (Nat.le_of_ble_eq_true rfl) rfl ?_
        refine s10 (x := x3) (ls' := [.ref 59, mNl w1, .int (oI (ld I23 39 x2.toNat)), .int (oI (x3 + (-1)))]) rfl rfl ?_
        refine s60 ?_
        exact hE
      · replace hE := hE.2 c8
        refine s67 (inRd rfl) (fun _ => ?_) (fun c27 => absurd (by decide) c27)
        refine xG gb136.2.2.2.2.1 ?_
        refine s6 (p := 59) rfl ?_
        refine s51 sh59 (by decide) (by decide) rf59_2 ?_
        refine s4 (x := x2) rfl ?_
        refine sI rc89 rfl (Nat.le_of_ble_eq_true rfl) ?_
        refine cI_of (ls := [.ref 31, .int (oI x2)]) rfl ?_
        refine xG gb89 ?_
        refine s6 (p := 31) rfl ?_
        refine s51 sh31 (by decide) (by decide) rf31_7 ?_
        refine s4 (x := x2) rfl ?_
        obtain ⟨g28, hE⟩ := hE
        refine s40 (v := ld I 39 x2.toNat) sh39 g28 rfl (oI_ld _ _ _) ?_
        refine s80 ?_
        refine rqI_of ?_
        refine s7 (ls' := [.ref 59, mNl w1, .int (oI (ld I 39 x2.toNat)), .int (oI x3)]) (Nat.le_of_ble_eq_true rfl) rfl ?_
        refine s10 (x := x3) (ls' := [.ref 59, mNl w1, .int (oI (ld I 39 x2.toNat)), .int (oI (x3 + (-1)))]) rfl rfl ?_
        refine s60 ?_
        exact hE
  · replace hE := hE.2 c2
    refine xG gb136.2.2.2.2.2 ?_
    refine s83 ?_
    exact hE
set_option maxRecDepth 4000 in
theorem e136 {d L : Nat} {I : Nat → Nat → Int32} {R : Nat → Nat → Option Nat} {S : List (Nat × Nat)} {K : mM → Prop} {A : aS} (hC : RC R S I A) {x1 : Int} (hE : h136_1 d L (u2 I 59 16 (oI x1)) R S (rqV K) (.int (oI x1)) 0 mUn) : CallV d 136 [.ref 59, .int (oI x1)] (bd L I R S) K := by
  refine cV_of (ls := [.ref 59, .int (oI x1), mUn, mUn]) rfl ?_
  refine xG gb136.1 ?_
  refine s6 (p := 59) rfl ?_
  refine s4 (x := x1) rfl ?_
  refine s52 sh59 (by decide) (by decide) ?_
  refine s0 ?_
  refine s7 (ls' := [.ref 59, .int (oI x1), .int (oI 0), mUn]) (Nat.le_of_ble_eq_true rfl) rfl ?_
  refine s79 ?_
  exact hE
