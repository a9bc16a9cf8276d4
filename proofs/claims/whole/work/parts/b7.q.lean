section
variable {d L : Nat} {I I0 : mI} {R : mR} {S : mSh} {Q : Option Value → mM → Prop} {A : aS} {c day known kind half year subj code : Int}
theorem k144 {y st : Int} {K : mM → Prop} (hC : RC R S I A) (hW : WfA A) (hP : WfP A) (hc : 0 ≤ c ∧ c < A 91 1) (hy : 0 ≤ y ∧ y ≤ 7) (hs : inR st) (hkn : 0 ≤ ld I 59 15 ∧ ld I 59 15 ≤ 799) (hK : ∀ I1, Fr [60] [] I I1 → EnvC 60 I1 (psE A c y st (ld I 59 15)) → K (bd L I1 R S)) : CallV (d + 2) 144 [.ref 59, .int (oI c), .int (oI y), .int (oI st)] (bd L I R S) K := by
  have h40 := hW.2.1
  have ag := ageC_in hP hc (day := 100 * y + 99) (by omega)
  refine e144 (d := d) hC (fun I1 f1 z1 => ?_)
  rw [f1.ld rfl, show y * 100 + 100 - 1 = 100 * y + 99 by omega]
  have r1 : inR (max 0 (Int.tdiv (100 * y + 99 - A 92 c.toNat) 100)) := by unfold inR; omega
  have r2 : inR y := by unfold inR; omega
  have fin : ∀ t q : Int, t = bI (spS A 4 c (100 * y + 99) (ld I 59 15)) → q = bI (spS A 5 c (100 * y + 99) (ld I 59 15)) → K (bd L (u2 (u2 (u2 (u2 (u2 I1 60 1 (oI (max 0 (Int.tdiv (100 * y + 99 - A 92 c.toNat) 100)))) 60 2 (oI st)) 60 4 (oI y)) 60 6 (oI t)) 60 11 (oI q)) R S) := by
    rintro t q rfl rfl
    refine hK _ (((((f1.wr rfl).wr rfl).wr rfl).wr rfl).wr rfl) ?_
    exact (((((EnvC.zero z1).put (k := 0) (j := 1) (by decide) r1 (by decide)).put (k := 1) (j := 2) (by decide) hs (by decide)).put (k := 3) (j := 4) (by decide) r2 (by decide)).put (k := 6) (j := 6) (by decide) (bI_in _) (by decide)).put (k := 11) (j := 11) (by decide) (bI_in _) (by decide)
  refine ⟨by omega, ag.1, by unfold inR; omega, hW, hc, by unfold inR; omega, hkn, fun q4 => ⟨fun q5 => fin 1 1 (by rw [q4]; rfl) (by rw [q5]; rfl), fun q5 => fin 1 0 (by rw [q4]; rfl) (by rw [Bool.eq_false_iff.mpr q5]; rfl)⟩, fun q4 => ⟨fun q5 => fin 0 1 (by rw [Bool.eq_false_iff.mpr q4]; rfl) (by rw [q5]; rfl), fun q5 => fin 0 0 (by rw [Bool.eq_false_iff.mpr q4]; rfl) (by rw [Bool.eq_false_iff.mpr q5]; rfl)⟩⟩
theorem k146 {h : Nat → Int} {mk : Int} {K : Int32 → mM → Prop} (hC : RC R S I A) (hE : EnvC 60 I h) (h9 : h 9 = 0) (h10 : h 10 = 0) (hW : WfC A) (hs : 0 ≤ subj ∧ subj < 6) (hm : 0 ≤ mk ∧ mk ≤ 100) (hcd : 0 ≤ code ∧ code ≤ 7) (h1 : wpS A h code subj mk = true → ∀ I1, Fr [60] [] I I1 → EnvC 60 I1 h → K (oI 1) (bd L I1 R S)) (h0 : ¬ wpS A h code subj mk = true → ∀ I1, Fr [60] [] I I1 → EnvC 60 I1 h → K (oI 0) (bd L I1 R S)) : CallI (d + 25) 146 [.ref 59, .int (oI subj), .int (oI mk), .int (oI code)] (bd L I R S) K := by
  have r1 : inR subj := by unfold inR; omega
  have r2 : inR mk := by unfold inR; omega
  have env := (hE.put (k := 9) (j := 9) (by decide) r1 (by decide)).put (k := 10) (j := 10) (by decide) r2 (by decide)
  have env2 := ((env.put (k := 9) (j := 9) (v := 0) (by decide) (inRd rfl) (by decide)).put (k := 10) (j := 10) (v := 0) (by decide) (inRd rfl) (by decide)).eq (h' := h) (fun i hi => by
    unfold putE
    split
    · rename_i e; rw [e, h10]
    · split
      · rename_i e; rw [e, h9]
      · rfl)
  have fr : Fr [60] [] I (u2 (u2 (u2 (u2 I 60 9 (oI subj)) 60 10 (oI mk)) 60 9 (oI 0)) 60 10 (oI 0)) := ((((Fr.refl _ _ _).wr rfl).wr rfl).wr rfl).wr rfl
  have et := tlS_key (A := A) (h := putE (putE h 9 subj) 10 mk) (y := code) (b := 4) (key := subj) (ow := 10000) hW (by omega) (by omega)
  refine e146 (d := d) hC ⟨hW, hcd, _, env, r2, tlS_R hW (inRd rfl), ?_⟩
  rw [show (133 : Int) = ckd 4 from rfl, et]
  have ew : wpS A h code subj mk = true ↔ ¬ mk < (if fsS A (putE (putE h 9 subj) 10 mk) code 4 subj = -1 then 10000 else A 142 (cdS A code (fsS A (putE (putE h 9 subj) 10 mk) code 4 subj)).toNat) := by
    unfold wpS seS
    simp only [Bool.and_eq_true, Bool.not_eq_true', beq_eq_false_iff_ne, decide_eq_true_eq]
    by_cases e : fsS A (putE (putE h 9 subj) 10 mk) code 4 subj = -1
    · rw [if_pos e, if_pos e]
      constructor
      · intro q; exact absurd e q.1
      · intro q; exfalso; omega
    · rw [if_neg e, if_neg e]
      constructor
      · intro q; omega
      · intro q; exact ⟨e, by omega⟩
  exact ⟨fun q => h0 (fun w => (ew.mp w) q) _ fr env2, fun q => h1 (ew.mpr q) _ fr env2⟩
end
def h143_1 (d L : Nat) (I : Nat → Nat → Int32) (R : Nat → Nat → Option Nat) (S : List (Nat × Nat)) (Q : Option Value → mM → Prop) (x1 : Int) (x2 : Int) (x3 : Int) (x4 : Int) (x5 : Int) (x6 : Int) (w7 : Value) : Prop := Wp d (gb 143 1) [.ref 59, .int (oI x1), .int (oI x2), .int (oI x3), .int (oI x4), .int (oI x5), .int (oI x6), w7] [] (bd L I R S) Q
def h143_4 (d L : Nat) (I : Nat → Nat → Int32) (R : Nat → Nat → Option Nat) (S : List (Nat × Nat)) (Q : Option Value → mM → Prop) (w1 : Value) (w2 : Value) (x3 : Int) (w4 : Value) (w5 : Value) (x6 : Int) (x7 : Int) : Prop := Wp d (gb 143 4) [.ref 59, w1, w2, .int (oI x3), w4, w5, .int (oI x6), .int (oI x7)] [] (bd L I R S) Q
set_option maxRecDepth 4000 in
theorem e143_1 {d L : Nat} {I : Nat → Nat → Int32} {R : Nat → Nat → Option Nat} {S : List (Nat × Nat)} {Q : Option Value → mM → Prop} {A : aS} (hC : RC R S I A) {x1 : Int} {x2 : Int} {x3 : Int} {x4 : Int} {x5 : Int} {x6 : Int} {w7 : Value} (hE : inR x6 ∧ (((0 < x6) → inR x5 ∧ (((x5 = (-1)) → WfA A ∧ (WfP A ∧ ((0 ≤ x1 ∧ x1 < A 91 1) ∧ ((0 ≤ x2 ∧ x2 ≤ 7) ∧ (inR x4 ∧ ((0 ≤ ld I 59 15 ∧ ld I 59 15 ≤ 799) ∧ (∀ (I11 : mI), (Fr [60] [] I I11) → (EnvC 60 I11 (psE A x1 x2 x4 (ld I 59 15))) → h143_4 (d + 3) L I11 R S Q (.int (oI x1)) (.int (oI x2)) x3 (.int (oI x4)) (.int (oI x5)) 0 0))))))) ∧ (¬ (x5 = (-1)) → (0 ≤ x5 ∧ x5 < 850) ∧ (((A 103 x5.toNat = 6) → inR x2 ∧ (((ld I 33 x5.toNat = x2) → WfA A ∧ ((0 ≤ x5 ∧ x5 < A 91 3) ∧ ((0 ≤ ld I 59 15 ∧ ld I 59 15 ≤ 799) ∧ (((A 108 x5.toNat ≤ ld I 59 15 ∧ ld I 59 15 < A 109 x5.toNat) → (0 ≤ ld I 34 x5.toNat ∧ ld I 34 x5.toNat < 6) ∧ (h143_1 (d + 3) L (u2 I 61 (ld I 34 x5.toNat).toNat (oI (ld I 35 x5.toNat))) R S Q x1 x2 x3 x4 (ld I 39 x5.toNat) (x6 + (-1)) w7)) ∧ (¬ (A 108 x5.toNat ≤ ld I 59 15 ∧ ld I 59 15 < A 109 x5.toNat) → h143_1 (d + 3) L I R S Q x1 x2 x3 x4 (ld I 39 x5.toNat) (x6 + (-1)) w7))))) ∧ (¬ (ld I 33 x5.toNat = x2) → h143_1 (d + 3) L I R S Q x1 x2 x3 x4 (ld I 39 x5.toNat) (x6 + (-1)) w7))) ∧ (¬ (A 103 x5.toNat = 6) → h143_1 (d + 3) L I R S Q x1 x2 x3 x4 (ld I 39 x5.toNat) (x6 + (-1)) w7))))) ∧ (¬ (0 < x6) → WfA A ∧ (WfP A ∧ ((0 ≤ x1 ∧ x1 < A 91 1) ∧ ((0 ≤ x2 ∧ x2 ≤ 7) ∧ (inR x4 ∧ ((0 ≤ ld I 59 15 ∧ ld I 59 15 ≤ 799) ∧ (∀ (I31 : mI), (Fr [60] [] I I31) → (EnvC 60 I31 (psE A x1 x2 x4 (ld I 59 15))) → h143_4 (d + 3) L I31 R S Q (.int (oI x1)) (.int (oI x2)) x3 (.int (oI x4)) (.int (oI x5)) 0 0))))))))) : h143_1 (d + 3) L I R S Q x1 x2 x3 x4 x5 x6 w7 := by
  unfold h143_1
  refine xG gb143.2.1 ?_
  refine s4 (x := x6) rfl ?_
  obtain ⟨g1, hE⟩ := hE
  refine s72 g1 (fun c2 => ?_) (fun c2 => ?_)
  · replace hE := hE.1 c2
    refine s4 (x := x5) rfl ?_
    refine s0 ?_
    obtain ⟨g3, hE⟩ := hE
    refine s61 g3 (inRd rfl) (fun c4 => ?_) (fun c4 => ?_)
    · replace hE := hE.1 c4
      refine xG gb143.2.2.2.1 ?_
      refine s6 (p := 59) rfl ?_
      refine s4 (x := x1) rfl ?_
      refine s4 (x := x2) rfl ?_
      refine s4 (x := x4) rfl ?_
      obtain ⟨g5, hE⟩ := hE
      obtain ⟨g6, hE⟩ := hE
      obtain ⟨g7, hE⟩ := hE
      obtain ⟨g8, hE⟩ := hE
      obtain ⟨g9, hE⟩ := hE
      obtain ⟨g10, hE⟩ := hE
      refine sV rc144 rfl (Nat.le_of_ble_eq_true rfl) ?_
      refine k144 hC g5 g6 g7 g8 g9 g10 (fun I11 q12 q13 => ?_)
      replace hE := hE I11 q12 q13
      refine s0 ?_
      refine s7 (ls' := [.ref 59, .int (oI x1), .int (oI x2), .int (oI x3), .int (oI x4), .int (oI x5), .int (oI 0), w7]) (Nat.le_of_ble_eq_true rfl) rfl ?_
      refine s0 ?_
      refine s7 (ls' := [.ref 59, .int (oI x1), .int (oI x2), .int (oI x3), .int (oI x4), .int (oI x5), .int (oI 0), .int (oI 0)]) (Nat.le_of_ble_eq_true rfl) rfl ?_
      refine s79 ?_
      exact hE
    · replace hE := hE.2 c4
      refine s6 (p := 59) rfl ?_
      refine s51 sh59 (by decide) (by decide) rf59_2 ?_
      refine s51 sh31 (by decide) (by decide) rf31_0 ?_
      refine s4 (x := x5) rfl ?_
      obtain ⟨g14, hE⟩ := hE
      refine s40 (v := A 103 x5.toNat) sh32 g14 rfl (rdC hC.1 rfl) ?_
      refine s0 ?_
      refine s62 (inC hC.1 (a := 32) (k := x5.toNat) rfl) (inRd rfl) (fun c15 => ?_) (fun c15 => ?_)
      · replace hE := hE.1 c15
        refine s6 (p := 59) rfl ?_
        refine s51 sh59 (by decide) (by decide) rf59_2 ?_
        refine s51 sh31 (by decide) (by decide) rf31_1 ?_
        refine s4 (x := x5) rfl ?_
        refine s40 (v := ld I 33 x5.toNat) sh33 g14 rfl (oI_ld _ _ _) ?_
        refine s4 (x := x2) rfl ?_
        obtain ⟨g16, hE⟩ := hE
        refine s62 (ld_inR _ _ _) g16 (fun c17 => ?_) (fun c17 => ?_)
        · replace hE := hE.1 c17
          refine s6 (p := 59) rfl ?_
          refine s51 sh59 (by decide) (by decide) rf59_2 ?_
          refine s4 (x := x5) rfl ?_
          refine s6 (p := 59) rfl ?_
          refine s50 (v := ld I 59 15) sh59 (by decide) (by decide) (oI_ld _ _ _) ?_
          obtain ⟨g18, hE⟩ := hE
          obtain ⟨g19, hE⟩ := hE
          obtain ⟨g20, hE⟩ := hE
          refine sI rc88 rfl (Nat.le_of_ble_eq_true rfl) ?_
          refine k88 hC g18 g19 g20 (fun c21 => ?_) (fun c21 => ?_)
          · replace hE := hE.1 c21
            refine s67 (inRd rfl) (fun c22 => absurd c22 (by decide)) (fun _ => ?_)
            refine s6 (p := 59) rfl ?_
            refine s51 sh59 (by decide) (by decide) rf59_1 ?_
            refine s6 (p := 59) rfl ?_
            refine s51 sh59 (by decide) (by decide) rf59_2 ?_
            refine s51 sh31 (by decide) (by decide) rf31_2 ?_
            refine s4 (x := x5) rfl ?_
            refine s40 (v := ld I 34 x5.toNat) sh34 g14 rfl (oI_ld _ _ _) ?_
            refine s6 (p := 59) rfl ?_
            refine s51 sh59 (by decide) (by decide) rf59_2 ?_
            refine s51 sh31 (by decide) (by decide) rf31_3 ?_
            refine s4 (x := x5) rfl ?_
            refine s40 (v := ld I 35 x5.toNat) sh35 g14 rfl (oI_ld _ _ _) ?_
            obtain ⟨g23, hE⟩ := hE
            refine s44 sh61 (by decide) g23 rfl ?_
            refine s79 ?_
            refine xG gb143.2.2.1 ?_
            refine s6 (p := 59) rfl ?_
            refine s51 sh59 (by decide) (by decide) rf59_2 ?_
            refine s4 (x := x5) rfl ?_
            refine sI rc89 rfl (Nat.le_of_ble_eq_true rfl) ?_
            refine cI_of (ls := [.ref 31, .int (oI x5)]) rfl ?_
            refine xG gb89 ?_
            refine s6 (p := 31) rfl ?_
            refine s51 sh31 (by decide) (by decide) rf31_7 ?_
            refine s4 (x := x5) rfl ?_
            refine s40 (v := ld I 39 x5.toNat) sh39 g14 rfl ((v2_ne (by decide)).trans (oI_ld _ _ _)) ?_
            refine s80 ?_
            refine rqI_of ?_
            refine s7 (ls' := [.ref 59, .int (oI x1), .int (oI x2), .int (oI x3), .int (oI x4), .int (oI (ld I 39 x5.toNat)), .int (oI x6), w7]) (Nat.le_of_ble_eq_true rfl) rfl ?_
            refine s10 (x := x6) (ls' := [.ref 59, .int (oI x1), .int (oI x2), .int (oI x3), .int (oI x4), .int (oI (ld I 39 x5.toNat)), .int (oI (x6 + (-1))), w7]) rfl rfl ?_
            refine s60 ?_
            exact hE
          · replace hE := hE.2 c21
            refine s67 (inRd rfl) (fun _ => ?_) (fun c24 => absurd (by decide) c24)
            refine xG gb143.2.2.1 ?_
            refine s6 (p := 59) rfl ?_
            refine s51 sh59 (by decide) (by decide) rf59_2 ?_
            refine s4 (x := x5) rfl ?_
            refine sI rc89 rfl (Nat.le_of_ble_eq_true rfl) ?_
            refine cI_of (ls := [.ref 31, .int (oI x5)]) rfl ?_
            refine xG gb89 ?_
            refine s6 (p := 31) rfl ?_
            refine s51 sh31 (by decide) (by decide) rf31_7 ?_
            refine s4 (x := x5) rfl ?_
            refine s40 (v := ld I 39 x5.toNat) sh39 g14 rfl (oI_ld _ _ _) ?_
            refine s80 ?_
            refine rqI_of ?_
            refine s7 (ls' := [.ref 59, .int (oI x1), .int (oI x2), .int (oI x3), .int (oI x4), .int (oI (ld I 39 x5.toNat)), .int (oI x6), w7]) (Nat.le_of_ble_eq_true rfl) rfl ?_
            refine s10 (x := x6) (ls' := [.ref 59, .int (oI x1), .int (oI x2), .int (oI x3), .int (oI x4), .int (oI (ld I 39 x5.toNat)), .int (oI (x6 + (-1))), w7]) rfl rfl ?_
            refine s60 ?_
            exact hE
        · replace hE := hE.2 c17
          refine xG gb143.2.2.1 ?_
          refine s6 (p := 59) rfl ?_
          refine s51 sh59 (by decide) (by decide) rf59_2 ?_
          refine s4 (x := x5) rfl ?_
          refine sI rc89 rfl (Nat.le_of_ble_eq_true rfl) ?_
          refine cI_of (ls := [.ref 31, .int (oI x5)]) rfl ?_
          refine xG gb89 ?_
          refine s6 (p := 31) rfl ?_
          refine s51 sh31 (by decide) (by decide) rf31_7 ?_
          refine s4 (x := x5) rfl ?_
          refine s40 (v := ld I 39 x5.toNat) sh39 g14 rfl (oI_ld _ _ _) ?_
          refine s80 ?_
          refine rqI_of ?_
          refine s7 (ls' := [.ref 59, .int (oI x1), .int (oI x2), .int (oI x3), .int (oI x4), .int (oI (ld I 39 x5.toNat)), .int (oI x6), w7]) (Nat.le_of_ble_eq_true rfl) rfl ?_
          refine s10 (x := x6) (ls' := [.ref 59, .int (oI x1), .int (oI x2), .int (oI x3), .int (oI x4), .int (oI (ld I 39 x5.toNat)), .int (oI (x6 + (-1))), w7]) rfl rfl ?_
          refine s60 ?_
          exact hE
      · replace hE := hE.2 c15
        refine xG gb143.2.2.1 ?_
        refine s6 (p := 59) rfl ?_
        refine s51 sh59 (by decide) (by decide) rf59_2 ?_
        refine s4 (x := x5) rfl ?_
        refine sI rc89 rfl (Nat.le_of_ble_eq_true rfl) ?_
        refine cI_of (ls := [.ref 31, .int (oI x5)]) rfl ?_
        refine xG gb89 ?_
        refine s6 (p := 31) rfl ?_
        refine s51 sh31 (by decide) (by decide) rf31_7 ?_
        refine s4 (x := x5) rfl ?_
        refine s40 (v := ld I 39 x5.toNat) sh39 g14 rfl (oI_ld _ _ _) ?_
        refine s80 ?_
        refine rqI_of ?_
        refine s7 (ls' := [.ref 59, .int (oI x1), .int (oI x2), .int (oI x3), .int (oI x4), .int (oI (ld I 39 x5.toNat)), .int (oI x6), w7]) (Nat.le_of_ble_eq_true rfl) rfl ?_
        refine s10 (x := x6) (ls' := [.ref 59, .int (oI x1), .int (oI x2), .int (oI x3), .int (oI x4), .int (oI (ld I 39 x5.toNat)), .int (oI (x6 + (-1))), w7]) rfl rfl ?_
        refine s60 ?_
        exact hE
  · replace hE := hE.2 c2
    refine xG gb143.2.2.2.1 ?_
    refine s6 (p := 59) rfl ?_
    refine s4 (x := x1) rfl ?_
    refine s4 (x := x2) rfl ?_
    refine s4 (x := x4) rfl ?_
    obtain ⟨g25, hE⟩ := hE
    obtain ⟨g26, hE⟩ := hE
    obtain ⟨g27, hE⟩ := hE
    obtain ⟨g28, hE⟩ := hE
    obtain ⟨g29, hE⟩ := hE
    obtain ⟨g30, hE⟩ := hE
    refine sV rc144 rfl (Nat.le_of_ble_eq_true rfl) ?_
    refine k144 hC g25 g26 g27 g28 g29 g30 (fun I31 q32 q33 => ?_)
    replace hE := hE I31 q32 q33
    refine s0 ?_
    refine s7 (ls' := [.ref 59, .int (oI x1), .int (oI x2), .int (oI x3), .int (oI x4), .int (oI x5), .int (oI 0), w7]) (Nat.le_of_ble_eq_true rfl) rfl ?_
    refine s0 ?_
    refine s7 (ls' := [.ref 59, .int (oI x1), .int (oI x2), .int (oI x3), .int (oI x4), .int (oI x5), .int (oI 0), .int (oI 0)]) (Nat.le_of_ble_eq_true rfl) rfl ?_
    refine s79 ?_
    exact hE
set_option maxRecDepth 4000 in
theorem e143_4 {d L : Nat} {I : Nat → Nat → Int32} {R : Nat → Nat → Option Nat} {S : List (Nat × Nat)} {Q : Option Value → mM → Prop} {A : aS} (hC : RC R S I A) {w1 : Value} {w2 : Value} {x3 : Int} {w4 : Value} {w5 : Value} {x6 : Int} {x7 : Int} (hE : inR x7 ∧ (((x7 < 6) → (0 ≤ x7 ∧ x7 < 6) ∧ (((ld I 61 x7.toNat = (-1)) → h143_4 (d + 26) L I R S Q w1 w2 x3 w4 w5 x6 (x7 + 1)) ∧ (¬ (ld I 61 x7.toNat = (-1)) → WfC A ∧ ((0 ≤ x7 ∧ x7 < 6) ∧ ((0 ≤ ld I 61 x7.toNat ∧ ld I 61 x7.toNat ≤ 100) ∧ ((0 ≤ x3 ∧ x3 ≤ 7) ∧ (∃ e5 : Nat → Int, EnvC 60 I e5 ∧ e5 9 = 0 ∧ e5 10 = 0 ∧ (((wpS A e5 x3 x7 (ld I 61 x7.toNat) = true) → ∀ (I14 : mI), (Fr [60] [] I I14) → (EnvC 60 I14 e5) → h143_4 (d + 26) L I14 R S Q w1 w2 x3 w4 (mNl w5) (iOr x6 (iShl 1 x7)) (x7 + 1)) ∧ (¬ (wpS A e5 x3 x7 (ld I 61 x7.toNat) = true) → ∀ (I14 : mI), (Fr [60] [] I I14) → (EnvC 60 I14 e5) → h143_4 (d + 26) L I14 R S Q w1 w2 x3 w4 w5 x6 (x7 + 1)))))))))) ∧ (¬ (x7 < 6) → Q (some (.int (oI x6))) (bd L I R S)))) : h143_4 (d + 26) L I R S Q w1 w2 x3 w4 w5 x6 x7 := by
  unfold h143_4
  refine xG gb143.2.2.2.2.1 ?_
  refine s4 (x := x7) rfl ?_
  refine s0 ?_
  obtain ⟨g1, hE⟩ := hE
  refine s64 g1 (inRd rfl) (fun c2 => ?_) (fun c2 => ?_)
  · replace hE := hE.1 c2
    refine s6 (p := 59) rfl ?_
    refine s51 sh59 (by decide) (by decide) rf59_1 ?_
    refine s4 (x := x7) rfl ?_
    obtain ⟨g3, hE⟩ := hE
    refine s40 (v := ld I 61 x7.toNat) sh61 g3 rfl (oI_ld _ _ _) ?_
    refine s0 ?_
    refine s61 (ld_inR _ _ _) (inRd rfl) (fun c4 => ?_) (fun c4 => ?_)
    · replace hE := hE.1 c4
      refine xG gb143.2.2.2.2.2.1 ?_
      refine s10 (x := x7) (ls' := [.ref 59, w1, w2, .int (oI x3), w4, w5, .int (oI x6), .int (oI (x7 + 1))]) rfl rfl ?_
      refine s60 ?_
      exact hE
    · replace hE := hE.2 c4
      refine s6 (p := 59) rfl ?_
      refine s4 (x := x7) rfl ?_
      refine s6 (p := 59) rfl ?_
      refine s51 sh59 (by decide) (by decide) rf59_1 ?_
      refine s4 (x := x7) rfl ?_
      refine s40 (v := ld I 61 x7.toNat) sh61 g3 rfl (oI_ld _ _ _) ?_
      refine s4 (x := x3) rfl ?_
      obtain ⟨g9, hE⟩ := hE
      obtain ⟨g10, hE⟩ := hE
      obtain ⟨g11, hE⟩ := hE
      obtain ⟨g12, hE⟩ := hE
      obtain ⟨e5, k6, k7, k8, hE⟩ := hE
      refine sI rc146 rfl (Nat.le_of_ble_eq_true rfl) ?_
      refine k146 hC k6 k7 k8 g9 g10 g11 g12 (fun c13 I14 q15 q16 => ?_) (fun c13 I14 q15 q16 => ?_)
      · replace hE := hE.1 c13 I14 q15 q16
        refine s67 (inRd rfl) (fun c17 => absurd c17 (by decide)) (fun _ => ?_)
        refine s4 (x := x6) rfl ?_
        refine s0 ?_
        refine s4 (x := x7) rfl ?_
        refine s22 ?_
        refine s26 ?_
        refine s7 (ls' := [.ref 59, w1, w2, .int (oI x3), w4, mNl w5, .int (oI (iOr x6 (iShl 1 x7))), .int (oI x7)]) (Nat.le_of_ble_eq_true rfl) rfl ?_
        refine s79 ?_
        refine xG gb143.2.2.2.2.2.1 ?_
        refine s10 (x := x7) (ls' := [.ref 59, w1, w2, .int (oI x3), w4, mNl w5, .int (oI (iOr x6 (iShl 1 x7))), .int (oI (x7 + 1))]) rfl rfl ?_
        refine s60 ?_
        exact hE
      · replace hE := hE.2 c13 I14 q15 q16
        refine s67 (inRd rfl) (fun _ => ?_) (fun c18 => absurd (by decide) c18)
        refine xG gb143.2.2.2.2.2.1 ?_
        refine s10 (x := x7) (ls' := [.ref 59, w1, w2, .int (oI x3), w4, w5, .int (oI x6), .int (oI (x7 + 1))]) rfl rfl ?_
        refine s60 ?_
        exact hE
  · replace hE := hE.2 c2
    refine xG gb143.2.2.2.2.2.2 ?_
    refine s4 (x := x6) rfl ?_
    refine s80 ?_
    exact hE
set_option maxRecDepth 4000 in
theorem e143 {d L : Nat} {I : Nat → Nat → Int32} {R : Nat → Nat → Option Nat} {S : List (Nat × Nat)} {K : Int32 → mM → Prop} {A : aS} (hC : RC R S I A) {x1 : Int} {x2 : Int} {x3 : Int} {x4 : Int} (hE : ∀ (I1 : mI), (Fr [61] [] I I1) → (∀ j : Nat, j < 6 → ld I1 61 j = (-1)) → (0 ≤ x1 ∧ x1 < 46) ∧ (h143_1 (d + 1) L I1 R S (rqI K) x1 x2 x3 x4 (ld I1 40 x1.toNat) (A 91 3) mUn)) : CallI (d + 1) 143 [.ref 59, .int (oI x1), .int (oI x2), .int (oI x3), .int (oI x4)] (bd L I R S) K := by
  refine cI_of (ls := [.ref 59, .int (oI x1), .int (oI x2), .int (oI x3), .int (oI x4), mUn, mUn, mUn]) rfl ?_
  refine xG gb143.1 ?_
  refine s6 (p := 59) rfl ?_
  refine s51 sh59 (by decide) (by decide) rf59_1 ?_
  refine s0 ?_
  refine sV rc350 rfl (Nat.le_of_ble_eq_true rfl) ?_
  refine k350a61 hC (inRd rfl) (fun I1 q2 q3 => ?_)
  replace hE := hE I1 q2 q3
  refine s6 (p := 59) rfl ?_
  refine s51 sh59 (by decide) (by decide) rf59_2 ?_
  refine s4 (x := x1) rfl ?_
  refine sI rc90 rfl (Nat.le_of_ble_eq_true rfl) ?_
  refine cI_of (ls := [.ref 31, .int (oI x1)]) rfl ?_
  refine xG gb90 ?_
  refine s6 (p := 31) rfl ?_
  refine s51 sh31 (by decide) (by decide) rf31_8 ?_
  refine s4 (x := x1) rfl ?_
  obtain ⟨g4, hE⟩ := hE
  refine s40 (v := ld I1 40 x1.toNat) sh40 g4 rfl (oI_ld _ _ _) ?_
  refine s80 ?_
  refine rqI_of ?_
  refine s7 (ls' := [.ref 59, .int (oI x1), .int (oI x2), .int (oI x3), .int (oI x4), .int (oI (ld I1 40 x1.toNat)), mUn, mUn]) (Nat.le_of_ble_eq_true rfl) rfl ?_
  refine s6 (p := 59) rfl ?_
  refine s51 sh59 (by decide) (by decide) rf59_2 ?_
  refine s50 (v := A 91 3) sh31 (by decide) (by decide) (rdC (RC.fr hC q2 rfl).1 rfl) ?_
  refine s7 (ls' := [.ref 59, .int (oI x1), .int (oI x2), .int (oI x3), .int (oI x4), .int (oI (ld I1 40 x1.toNat)), .int (oI (A 91 3)), mUn]) (Nat.le_of_ble_eq_true rfl) rfl ?_
  refine s79 ?_
  exact hE
