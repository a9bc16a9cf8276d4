def h100_1 (d L : Nat) (I : Nat → Nat → Int32) (R : Nat → Nat → Option Nat) (S : List (Nat × Nat)) (Q : Option Value → mM → Prop) (x1 : Int) (x2 : Int) : Prop := Wp d (gb 100 1) [.ref 43, .int (oI x1), .int (oI x2)] [] (bd L I R S) Q
set_option maxRecDepth 4000 in
theorem e100_1 {d L : Nat} {I : Nat → Nat → Int32} {R : Nat → Nat → Option Nat} {S : List (Nat × Nat)} {Q : Option Value → mM → Prop} {A : aS} (hC : RC R S I A) {x1 : Int} {x2 : Int} (hE : inR x2 ∧ (((x2 < 0) → Q none (bd L I R S)) ∧ (¬ (x2 < 0) → ((A 91 67 < 800) → (0 ≤ A 91 67 ∧ A 91 67 < 800) ∧ (h100_1 d L (u2 (u2 I 45 (A 91 67).toNat (oI (iB (iB (iShr x1 x2))))) 43 1 (oI (A 91 67 + 1))) R S Q x1 (x2 + (-8)))) ∧ (¬ (A 91 67 < 800) → Q none (bd L I R S))))) : h100_1 d L I R S Q x1 x2 := by
  unfold h100_1
  refine xG gb100.2.1 ?_
  refine s4 (x := x2) rfl ?_
  obtain ⟨g1, hE⟩ := hE
  refine s69 g1 (fun c2 => ?_) (fun c2 => ?_)
  · replace hE := hE.1 c2
    refine xG gb100.2.2 ?_
    refine s83 ?_
    exact hE
  · replace hE := hE.2 c2
    refine s6 (p := 43) rfl ?_
    refine s50 (v := A 91 67) sh43 (by decide) (by decide) (rdC hC.1 rfl) ?_
    refine s0 ?_
    refine s64 (inC hC.1 (a := 43) (k := 1) rfl) (inRd rfl) (fun c3 => ?_) (fun c3 => ?_)
    · replace hE := hE.1 c3
      refine s6 (p := 43) rfl ?_
      refine s51 sh43 (by decide) (by decide) rf43_4 ?_
      refine s6 (p := 43) rfl ?_
      refine s50 (v := A 91 67) sh43 (by decide) (by decide) (rdC hC.1 rfl) ?_
      refine s4 (x := x1) rfl ?_
      refine s4 (x := x2) rfl ?_
      refine s23 ?_
      refine s28 ?_
      obtain ⟨g4, hE⟩ := hE
      refine s45 sh45 (by decide) g4 rfl ?_
      refine s6 (p := 43) rfl ?_
      refine s13r ?_
      refine s50 (v := A 91 67) sh43 (by decide) (by decide) ((v2_ne (by decide)).trans (rdC hC.1 rfl)) ?_
      refine s0 ?_
      refine s16 ?_
      refine s52 sh43 (by decide) (by decide) ?_
      refine s10 (x := x2) (ls' := [.ref 43, .int (oI x1), .int (oI (x2 + (-8)))]) rfl rfl ?_
      refine s60 ?_
      exact hE
    · replace hE := hE.2 c3
      refine xG gb100.2.2 ?_
      refine s83 ?_
      exact hE
set_option maxRecDepth 4000 in
theorem e100 {d L : Nat} {I : Nat → Nat → Int32} {R : Nat → Nat → Option Nat} {S : List (Nat × Nat)} {K : mM → Prop} {A : aS} (hC : RC R S I A) {x1 : Int} (hE : h100_1 d L I R S (rqV K) x1 24) : CallV d 100 [.ref 43, .int (oI x1)] (bd L I R S) K := by
  refine cV_of (ls := [.ref 43, .int (oI x1), mUn]) rfl ?_
  refine xG gb100.1 ?_
  refine s0 ?_
  refine s7 (ls' := [.ref 43, .int (oI x1), .int (oI 24)]) (Nat.le_of_ble_eq_true rfl) rfl ?_
  refine s79 ?_
  exact hE
section
variable {d L : Nat} {I I0 : mI} {R : mR} {S : mSh} {Q : Option Value → mM → Prop} {A : aS} {c day known kind half year subj code : Int}
theorem fo_rc {x : Int} {k : Nat} (hk : k < 4) (h : 0 ≤ A 91 67 ∧ A 91 67 + 4 ≤ 800) (hC : RC R S I (foS A x k)) : RC R S (u2 (u2 I 45 (A 91 67 + k).toNat (oI (iB (iB (iShr x (24 - 8 * k)))))) 43 1 (oI (A 91 67 + k + 1))) (foS A x (k + 1)) := by
  show RC R S _ (u2 (u2 (foS A x k) 152 ((A 91 67).toNat + k) (iB (iB (iShr x (24 - 8 * k))))) 91 67 (A 91 67 + k + 1))
  rw [show (A 91 67 + k).toNat = (A 91 67).toNat + k by omega]
  have ko : ∀ ks rs, dp ks rs 91 67 = false → (∀ k, dp ks rs 152 k = false) → Ko ks rs (foS A x k) (u2 (u2 (foS A x k) 152 ((A 91 67).toNat + k) (iB (iB (iShr x (24 - 8 * k))))) 91 67 (A 91 67 + k + 1)) := fun ks rs h1 h2 => Ko.set (Ko.set (Ko.refl _ _ _) (h2 _)) h1
  exact RC.st hC (RelC0.set (RelC0.set hC.1 (a := 45) (k := (A 91 67).toNat + k) rfl iB_in) (a := 43) (k := 1) rfl ⟨by omega, by omega⟩) (PKx.wr (PKx.wr (PKx.refl I) rfl) rfl) (ko _ _ rfl (fun _ => rfl)) (ko _ _ rfl (fun _ => rfl)) (ko _ _ rfl (fun _ => rfl)) (ko _ _ rfl (fun _ => rfl))
theorem l100 {x : Int} (h : 0 ≤ A 91 67 ∧ A 91 67 + 4 ≤ 800) (hQ : ∀ I1, Fr [45] [(43, 1)] I0 I1 → RC R S I1 (foS A x 4) → Q none (bd L I1 R S)) : ∀ (n k : Nat) (I : mI), k + n = 4 → Fr [45] [(43, 1)] I0 I → RC R S I (foS A x k) → h100_1 d L I R S Q x (24 - 8 * (k : Int)) := by
  intro n
  induction n with
  | zero =>
    intro k I hk hf hC
    obtain rfl : k = 4 := by omega
    exact e100_1 (d := d) hC ⟨⟨by omega, by omega⟩, fun _ => hQ I hf hC, fun c => by exfalso; omega⟩
  | succ n ih =>
    intro k I hk hf hC
    have e := fo67 (A := A) (x := x) k
    refine e100_1 (d := d) hC ⟨⟨by omega, by omega⟩, fun c => by exfalso; omega, fun _ => ⟨fun _ => ⟨by omega, ?_⟩, fun c => by exfalso; omega⟩⟩
    rw [e]
    have q9 := ih (k + 1) _ (by omega) ((hf.wr rfl).wr rfl) (fo_rc (by omega) h hC)
    rw [show 24 - 8 * ((k + 1 : Nat) : Int) = 24 - 8 * (k : Int) + -8 by omega] at q9
    exact q9
theorem k100 {x : Int} {K : mM → Prop} (hC : RC R S I A) (h : 0 ≤ A 91 67 ∧ A 91 67 + 4 ≤ 800) (hK : ∀ I1, Fr [45] [(43, 1)] I I1 → RC R S I1 (foS A x 4) → K (bd L I1 R S)) : CallV d 100 [.ref 43, .int (oI x)] (bd L I R S) K :=
  e100 (d := d) hC (l100 h (fun I1 q1 r1 => rqV_of (hK I1 q1 r1)) 4 0 I rfl (Fr.refl _ _ _) hC)
end
set_option maxRecDepth 4000 in
theorem e37 {d L : Nat} {I : Nat → Nat → Int32} {R : Nat → Nat → Option Nat} {S : List (Nat × Nat)} {K : Int32 → mM → Prop} {A : aS} (hC : RC R S I A) {x1 : Int} {x2 : Int} {x3 : Int} {x4 : Int} {x5 : Int} (hE : inR (A 91 67 + 20) ∧ (((800 < A 91 67 + 20) → K (oI (-1)) (bd L I R S)) ∧ (¬ (800 < A 91 67 + 20) → CallV d 100 [.ref 43, .int (oI x1)] (bd L I R S) (fun s => ∃ (I3 : mI), s = bd L I3 R S ∧ (CallV d 100 [.ref 43, .int (oI x2)] (bd L I3 R S) (fun s => ∃ (I4 : mI), s = bd L I4 R S ∧ (CallV d 100 [.ref 43, .int (oI x3)] (bd L I4 R S) (fun s => ∃ (I5 : mI), s = bd L I5 R S ∧ (CallV d 100 [.ref 43, .int (oI x4)] (bd L I5 R S) (fun s => ∃ (I6 : mI), s = bd L I6 R S ∧ (CallV d 100 [.ref 43, .int (oI x5)] (bd L I6 R S) (fun s => ∃ (I7 : mI), s = bd L I7 R S ∧ (K (oI (ld I7 43 1)) (bd L I7 R S)))))))))))))) : CallI (d + 1) 37 [.ref 8, .int (oI x1), .int (oI x2), .int (oI x3), .int (oI x4), .int (oI x5)] (bd L I R S) K := by
  refine cI_of (ls := [.ref 8, .int (oI x1), .int (oI x2), .int (oI x3), .int (oI x4), .int (oI x5)]) rfl ?_
  refine xG gb37.1 ?_
  refine s6 (p := 8) rfl ?_
  refine s51 sh8 (by decide) (by decide) rf8_3 ?_
  refine s50 (v := A 91 67) sh43 (by decide) (by decide) (rdC hC.1 rfl) ?_
  refine s0 ?_
  refine s16 ?_
  refine s0 ?_
  obtain ⟨g1, hE⟩ := hE
  refine s66 g1 (inRd rfl) (fun c2 => ?_) (fun c2 => ?_)
  · replace hE := hE.1 c2
    refine s0 ?_
    refine s80 ?_
    exact rqI_of hE
  · replace hE := hE.2 c2
    refine xG gb37.2 ?_
    refine s6 (p := 8) rfl ?_
    refine s51 sh8 (by decide) (by decide) rf8_3 ?_
    refine s4 (x := x1) rfl ?_
    refine sV rc100 rfl (Nat.le_of_ble_eq_true rfl) ?_
    refine CallV.mono hE ?_
    rintro _ ⟨I3, rfl, hE⟩
    refine s6 (p := 8) rfl ?_
    refine s51 sh8 (by decide) (by decide) rf8_3 ?_
    refine s4 (x := x2) rfl ?_
    refine sV rc100 rfl (Nat.le_of_ble_eq_true rfl) ?_
    refine CallV.mono hE ?_
    rintro _ ⟨I4, rfl, hE⟩
    refine s6 (p := 8) rfl ?_
    refine s51 sh8 (by decide) (by decide) rf8_3 ?_
    refine s4 (x := x3) rfl ?_
    refine sV rc100 rfl (Nat.le_of_ble_eq_true rfl) ?_
    refine CallV.mono hE ?_
    rintro _ ⟨I5, rfl, hE⟩
    refine s6 (p := 8) rfl ?_
    refine s51 sh8 (by decide) (by decide) rf8_3 ?_
    refine s4 (x := x4) rfl ?_
    refine sV rc100 rfl (Nat.le_of_ble_eq_true rfl) ?_
    refine CallV.mono hE ?_
    rintro _ ⟨I6, rfl, hE⟩
    refine s6 (p := 8) rfl ?_
    refine s51 sh8 (by decide) (by decide) rf8_3 ?_
    refine s4 (x := x5) rfl ?_
    refine sV rc100 rfl (Nat.le_of_ble_eq_true rfl) ?_
    refine CallV.mono hE ?_
    rintro _ ⟨I7, rfl, hE⟩
    refine s6 (p := 8) rfl ?_
    refine s51 sh8 (by decide) (by decide) rf8_3 ?_
    refine s50 (v := ld I7 43 1) sh43 (by decide) (by decide) (oI_ld _ _ _) ?_
    refine s80 ?_
    exact rqI_of hE
set_option maxRecDepth 4000 in
theorem q37 {d L n : Nat} {I : mI} {R : mR} {S : mSh} {A : aS} {K : Int32 → mM → Prop} {x1 : Int} {x2 : Int} {x3 : Int} {x4 : Int} {x5 : Int} (hX : CX R S I A n) (hW : WF A) (hn : n ≤ 100000) (rx1 : inR x1) (rx2 : inR x2) (rx3 : inR x3) (rx4 : inR x4) (rx5 : inR x5) (hK : ∀ I1, FK I I1 → CX R S I1 (o299 A x1 x2 x3 x4 x5).2 (n + 1) → K (oI (o299 A x1 x2 x3 x4 x5).1) (bd L I1 R S)) : CallI (d + 1) 37 [.ref 8, .int (oI x1), .int (oI x2), .int (oI x3), .int (oI x4), .int (oI x5)] (bd L I R S) K := by
  have hC := hX.1
  have hA := hW.1
  have w0 := hA.1
  have w1 := hA.2.1
  have w2 := hA.2.2.1
  have w3 : 0 ≤ A 91 3 ∧ A 91 3 ≤ 850 := hA.2.2.2.1
  have ty := today_year hA
  have c9 := hX.2.2.2.1
  have hF : 0 ≤ A 91 67 ∧ A 91 67 ≤ 800 := hW.2.2.2.2.2.2.2.1
  refine e37 (d := d) hC ?_
  refine ⟨by first | assumption | exact inRd rfl | omega | exact ⟨by omega, by omega⟩ | (unfold WnOk; omega) | exact hW.1 | exact hW.2.1 | exact hW.2.2.1 | exact hW.2.2.2.1 | exact hW.2.2.2.2.1 | exact hW.2.2.2.2.2.2.2.2.2.1 | exact hW.2.2.2.2.2.2.2.2.2.2.1 | (constructor <;> omega), ?_⟩
  refine ⟨fun c1 => ?_, fun c1 => ?_⟩
  · have ho : o299 A x1 x2 x3 x4 x5 = ((-1), A) := by
      unfold o299
      repeat' split
      all_goals first | (exfalso; omega) | with_reducible rfl
    rw [ho] at hK
    exact hK I (FK.refl I) (hX.up (Nat.le_succ n))
  · refine k100 (d := d) hC (by omega) (fun I1 q1 r1 => ⟨I1, rfl, ?_⟩)
    refine k100 (d := d) r1 (by simp only [fo67]; omega) (fun I2 q2 r2 => ⟨I2, rfl, ?_⟩)
    refine k100 (d := d) r2 (by simp only [fo67]; omega) (fun I3 q3 r3 => ⟨I3, rfl, ?_⟩)
    refine k100 (d := d) r3 (by simp only [fo67]; omega) (fun I4 q4 r4 => ⟨I4, rfl, ?_⟩)
    refine k100 (d := d) r4 (by simp only [fo67]; omega) (fun I5 q5 r5 => ⟨I5, rfl, ?_⟩)
    have e5 : ld I5 43 1 = (foS (foS (foS (foS (foS A x1 4) x2 4) x3 4) x4 4) x5 4) 91 67 := r5.at rfl
    rw [e5]
    have ho : o299 A x1 x2 x3 x4 x5 = ((foS (foS (foS (foS (foS A x1 4) x2 4) x3 4) x4 4) x5 4) 91 67, foS (foS (foS (foS (foS A x1 4) x2 4) x3 4) x4 4) x5 4) := by
      unfold o299
      rw [if_neg (by omega)]
      exact Prod.ext (by simp only [fo67]; omega) rfl
    rw [ho] at hK
    have hf : Fr [45] [(43, 1)] I I5 := (((q1.trans q2).trans q3).trans q4).trans q5
    have ko : KoM A (foS (foS (foS (foS (foS A x1 4) x2 4) x3 4) x4 4) x5 4) := Ko.fo (Ko.fo (Ko.fo (Ko.fo (Ko.fo (Ko.refl _ _ _) (fun _ => rfl) rfl 4) (fun _ => rfl) rfl 4) (fun _ => rfl) rfl 4) (fun _ => rfl) rfl 4) (fun _ => rfl) rfl 4
    exact hK I5 (Fr.FK hf rfl) (CX.up (hX.ko ko r5 (hf.mm rfl).1 (hf.ld rfl)) (Nat.le_succ n))
def h106_1 (d L : Nat) (I : Nat → Nat → Int32) (R : Nat → Nat → Option Nat) (S : List (Nat × Nat)) (Q : Option Value → mM → Prop) (x1 : Int) (w2 : Value) (x3 : Int) (x4 : Int) (x5 : Int) (w6 : Value) : Prop := Wp d (gb 106 1) [.ref 43, .int (oI x1), w2, .int (oI x3), .int (oI x4), .int (oI x5), w6] [] (bd L I R S) Q
set_option maxRecDepth 4000 in
theorem e106_1 {d L : Nat} {I : Nat → Nat → Int32} {R : Nat → Nat → Option Nat} {S : List (Nat × Nat)} {Q : Option Value → mM → Prop} {A : aS} (hC : RC R S I A) {x1 : Int} {w2 : Value} {x3 : Int} {x4 : Int} {x5 : Int} {w6 : Value} (hE : inR x5 ∧ (((x5 < 61) → (0 ≤ (x1 * 61) + x5 ∧ (x1 * 61) + x5 < 488) ∧ (((R 55 ((x1 * 61) + x5).toNat = none) → h106_1 d L I R S Q x1 w2 x3 x4 (x5 + 1) .null) ∧ (∀ p4 : Nat, (R 55 ((x1 * 61) + x5).toNat = some p4) → inR x4 ∧ (((x4 = 0) → inR x3 ∧ (((x3 = 0) → Q (some (.int (oI x5))) (bd L I R S)) ∧ (¬ (x3 = 0) → ((x3 = 1) → obJ S p4 15 8 ∧ (Q (some (.int (oI (ld I p4 5)))) (bd L I R S))) ∧ (¬ (x3 = 1) → Q (some (.int (oI (-1)))) (bd L I R S))))) ∧ (¬ (x4 = 0) → h106_1 d L I R S Q x1 w2 x3 (x4 + (-1)) (x5 + 1) (.ref p4)))))) ∧ (¬ (x5 < 61) → Q (some (.int (oI (-1)))) (bd L I R S)))) : h106_1 d L I R S Q x1 w2 x3 x4 x5 w6 := by
  unfold h106_1
  refine xG gb106.2.1 ?_
  refine s4 (x := x5) rfl ?_
  refine s0 ?_
  obtain ⟨g1, hE⟩ := hE
  refine s64 g1 (inRd rfl) (fun c2 => ?_) (fun c2 => ?_)
  · replace hE := hE.1 c2
    refine s6 (p := 43) rfl ?_
    refine s51 sh43 (by decide) (by decide) rf43_10 ?_
    refine s4 (x := x1) rfl ?_
    refine s0 ?_
    refine s18 ?_
    refine s4 (x := x5) rfl ?_
    refine s16 ?_
    obtain ⟨g3, hE⟩ := hE
    refine s43 (o := R 55 ((x1 * 61) + x5).toNat) sh55 g3 rfl (rfN rfl) ?_
    refine s9o (ls' := [.ref 43, .int (oI x1), w2, .int (oI x3), .int (oI x4), .int (oI x5), vR (R 55 ((x1 * 61) + x5).toNat)]) (Nat.le_of_ble_eq_true rfl) rfl ?_
    refine s6o (o := R 55 ((x1 * 61) + x5).toNat) rfl ?_
    refine s74o (fun n5 => ?_) (fun p4 n5 => ?_)
    · replace hE := hE.1 n5
      (try rw [n5])
      show Wp _ _ [.ref 43, .int (oI x1), w2, .int (oI x3), .int (oI x4), .int (oI x5), .null] [] _ _
      refine s60 ?_
      refine xG gb106.2.2.2.2.2.2.2.1 ?_
      refine s10 (x := x5) (ls' := [.ref 43, .int (oI x1), w2, .int (oI x3), .int (oI x4), .int (oI (x5 + 1)), .null]) rfl rfl ?_
      refine s60 ?_
      exact hE
    · replace hE := hE.2 p4 n5
      (try rw [n5])
      show Wp _ _ [.ref 43, .int (oI x1), w2, .int (oI x3), .int (oI x4), .int (oI x5), .ref p4] [] _ _
      refine xG gb106.2.2.1 ?_
      refine s4 (x := x4) rfl ?_
      obtain ⟨g6, hE⟩ := hE
      refine s68 g6 (fun c7 => ?_) (fun c7 => ?_)
      · replace hE := hE.1 c7
        refine s4 (x := x3) rfl ?_
        obtain ⟨g8, hE⟩ := hE
        refine s68 g8 (fun c9 => ?_) (fun c9 => ?_)
        · replace hE := hE.1 c9
          refine s4 (x := x5) rfl ?_
          refine s60 ?_
          refine xG gb106.2.2.2.2.2.1 ?_
          refine s80 ?_
          exact hE
        · replace hE := hE.2 c9
          refine xG gb106.2.2.2.1 ?_
          refine s4 (x := x3) rfl ?_
          refine s0 ?_
          refine s62 g8 (inRd rfl) (fun c10 => ?_) (fun c10 => ?_)
          · replace hE := hE.1 c10
            refine s6 (p := p4) rfl ?_
            obtain ⟨o11, hE⟩ := hE
            refine s50 (v := ld I p4 5) o11.sh o11.sp (by decide) (oI_ld _ _ _) ?_
            refine s60 ?_
            refine xG gb106.2.2.2.2.2.1 ?_
            refine s80 ?_
            exact hE
          · replace hE := hE.2 c10
            refine xG gb106.2.2.2.2.1 ?_
            refine s0 ?_
            refine s79 ?_
            refine xG gb106.2.2.2.2.2.1 ?_
            refine s80 ?_
            exact hE
      · replace hE := hE.2 c7
        refine xG gb106.2.2.2.2.2.2.1 ?_
        refine s10 (x := x4) (ls' := [.ref 43, .int (oI x1), w2, .int (oI x3), .int (oI (x4 + (-1))), .int (oI x5), .ref p4]) rfl rfl ?_
        refine s79 ?_
        refine xG gb106.2.2.2.2.2.2.2.1 ?_
        refine s10 (x := x5) (ls' := [.ref 43, .int (oI x1), w2, .int (oI x3), .int (oI (x4 + (-1))), .int (oI (x5 + 1)), .ref p4]) rfl rfl ?_
        refine s60 ?_
        exact hE
  · replace hE := hE.2 c2
    refine xG gb106.2.2.2.2.2.2.2.2 ?_
    refine s0 ?_
    refine s80 ?_
    exact hE
set_option maxRecDepth 4000 in
theorem e106 {d L : Nat} {I : Nat → Nat → Int32} {R : Nat → Nat → Option Nat} {S : List (Nat × Nat)} {K : Int32 → mM → Prop} {A : aS} (hC : RC R S I A) {x1 : Int} {x2 : Int} {x3 : Int} (hE : h106_1 d L I R S (rqI K) x1 (.int (oI x2)) x3 x2 1 mUn) : CallI d 106 [.ref 43, .int (oI x1), .int (oI x2), .int (oI x3)] (bd L I R S) K := by
  refine cI_of (ls := [.ref 43, .int (oI x1), .int (oI x2), .int (oI x3), mUn, mUn, mUn]) rfl ?_
  refine xG gb106.1 ?_
  refine s4 (x := x2) rfl ?_
  refine s7 (ls' := [.ref 43, .int (oI x1), .int (oI x2), .int (oI x3), .int (oI x2), mUn, mUn]) (Nat.le_of_ble_eq_true rfl) rfl ?_
  refine s0 ?_
  refine s7 (ls' := [.ref 43, .int (oI x1), .int (oI x2), .int (oI x3), .int (oI x2), .int (oI 1), mUn]) (Nat.le_of_ble_eq_true rfl) rfl ?_
  refine s79 ?_
  exact hE
section
variable {d L : Nat} {I I0 : mI} {R : mR} {S : mSh} {Q : Option Value → mM → Prop} {A : aS} {c day known kind half year subj code : Int}
theorem clF_n {y w : Int} {Y : Nat} (hy : y = (Y : Int)) : ∀ (f e : Nat) (left : Int), clF A y (-1) w f ((e + 1 : Nat) : Int) (cnt (isC A Y) e : Nat) left = (cnt (isC A Y) (e + f) : Nat)
  | 0, e, left => if_pos rfl
  | f + 1, e, left => by
    have ih := clF_n (w := w) hy f (e + 1)
    have e1 : clF A y (-1) w (f + 1) ((e + 1 : Nat) : Int) (cnt (isC A Y) e : Nat) left = if cdS A y ((e + 1 : Nat) : Int) = -1 then clF A y (-1) w f (((e + 1 : Nat) : Int) + 1) (cnt (isC A Y) e : Nat) left else clF A y (-1) w f (((e + 1 : Nat) : Int) + 1) ((cnt (isC A Y) e : Nat) + 1) (left - 1) := by
      rw [show clF A y (-1) w (f + 1) ((e + 1 : Nat) : Int) (cnt (isC A Y) e : Nat) left = if cdS A y ((e + 1 : Nat) : Int) = -1 then clF A y (-1) w f (((e + 1 : Nat) : Int) + 1) (cnt (isC A Y) e : Nat) left else if (-1 : Int) = -1 then clF A y (-1) w f (((e + 1 : Nat) : Int) + 1) ((cnt (isC A Y) e : Nat) + 1) (left - 1) else if left = 0 then (if w = 0 then ((e + 1 : Nat) : Int) else if w = 1 then Int.tdiv (cdS A y ((e + 1 : Nat) : Int)) 40 else -1) else clF A y (-1) w f (((e + 1 : Nat) : Int) + 1) ((cnt (isC A Y) e : Nat) + 1) (left - 1) from rfl, if_pos (rfl : (-1 : Int) = -1)]
    have e2 : cnt (isC A Y) (e + 1) = cnt (isC A Y) e + (if isC A Y (e + 1) = true then 1 else 0) := rfl
    rw [e1, show ((e + 1 : Nat) : Int) + 1 = ((e + 1 + 1 : Nat) : Int) by omega, show e + (f + 1) = e + 1 + f by omega]
    by_cases q : cdS A y ((e + 1 : Nat) : Int) = -1
    · have q2 : isC A Y (e + 1) = false := by unfold isC; rw [← hy, q]; rfl
      have e3 : cnt (isC A Y) (e + 1) = cnt (isC A Y) e := by rw [e2, q2]; rfl
      rw [if_pos q, ← e3]
      exact ih left
    · have q2 : isC A Y (e + 1) = true := by unfold isC; rw [← hy, beq_eq_false_iff_ne.mpr q]; rfl
      rw [q2, if_pos rfl] at e2
      rw [if_neg q, show ((cnt (isC A Y) e : Nat) : Int) + 1 = ((cnt (isC A Y) (e + 1) : Nat) : Int) by omega]
      exact ih (left - 1)
theorem clF_neg {y k w : Int} (hk : ¬ k = -1) : ∀ (f : Nat) (e n left : Int), left < 0 → clF A y k w f e n left = -1
  | 0, e, n, left, _ => if_neg hk
  | f + 1, e, n, left, h => by
    have e1 : clF A y k w (f + 1) e n left = if cdS A y e = -1 then clF A y k w f (e + 1) n left else if k = -1 then clF A y k w f (e + 1) (n + 1) (left - 1) else if left = 0 then (if w = 0 then e else if w = 1 then Int.tdiv (cdS A y e) 40 else -1) else clF A y k w f (e + 1) (n + 1) (left - 1) := rfl
    rw [e1]
    by_cases q : cdS A y e = -1
    · rw [if_pos q]; exact clF_neg hk f _ _ _ h
    · rw [if_neg q, if_neg hk, if_neg (show ¬ left = 0 by omega)]; exact clF_neg hk f _ _ _ (by omega)
theorem clF_in {y k w : Int} (hWC : WfC A) (hk : ¬ k = -1) : ∀ (f : Nat) (e n left : Int), 0 ≤ e → e + f ≤ 61 → -1 ≤ clF A y k w f e n left ∧ clF A y k w f e n left ≤ 320
  | 0, e, n, left, _, _ => by
    have e0 : clF A y k w 0 e n left = -1 := if_neg hk
    omega
  | f + 1, e, n, left, h, h2 => by
    have e1 : clF A y k w (f + 1) e n left = if cdS A y e = -1 then clF A y k w f (e + 1) n left else if k = -1 then clF A y k w f (e + 1) (n + 1) (left - 1) else if left = 0 then (if w = 0 then e else if w = 1 then Int.tdiv (cdS A y e) 40 else -1) else clF A y k w f (e + 1) (n + 1) (left - 1) := rfl
    have i1 := clF_in (y := y) (w := w) hWC hk f (e + 1) n left (by omega) (by omega)
    have i2 := clF_in (y := y) (w := w) hWC hk f (e + 1) (n + 1) (left - 1) (by omega) (by omega)
    rw [e1, if_neg hk]
    by_cases q : cdS A y e = -1
    · rw [if_pos q]; exact i1
    · obtain ⟨s, s1, s2, -⟩ := cdS_wf hWC q
      have e40 : Int.tdiv (s : Int) 40 = ((s / 40 : Nat) : Int) := rfl
      rw [if_neg q, s1, e40]
      repeat' split
      all_goals omega
theorem l106 {y k w V : Int} {Y : Nat} {w2 : Value} (hC : RC R S I A) (hWC : WfC A) (hy : y = (Y : Int)) (hY : Y < 8) (hk : ¬ k = -1) (hw : inR w) (hQ : Q (some (.int (oI V))) (bd L I R S)) : ∀ (f e : Nat) (n left : Int) (w6 : Value), e + f = 61 → 1 ≤ e → (0 ≤ left ∧ left ≤ 2147483647) → clF A y k w f e n left = V → h106_1 d L I R S Q y w2 w left e w6 := by
  intro f
  induction f with
  | zero =>
    intro e n left w6 he h1 hl hv
    have e0 : clF A y k w 0 e n left = -1 := if_neg hk
    rw [e0] at hv
    exact e106_1 (d := d) hC ⟨⟨by omega, by omega⟩, fun c => by exfalso; omega, fun _ => by rw [hv]; exact hQ⟩
  | succ f ih =>
    intro e n left w6 he h1 hl hv
    have e1 : clF A y k w (f + 1) e n left = if cdS A y e = -1 then clF A y k w f (e + 1) n left else if k = -1 then clF A y k w f (e + 1) (n + 1) (left - 1) else if left = 0 then (if w = 0 then (e : Int) else if w = 1 then Int.tdiv (cdS A y e) 40 else -1) else clF A y k w f (e + 1) (n + 1) (left - 1) := rfl
    rw [e1, if_neg hk] at hv
    obtain ⟨r1, r2⟩ := hC.2.1.1 Y e hY (by omega)
    rw [← hy] at r1 r2
    have ix : (y * 61 + (e : Int)).toNat = 61 * Y + e := by omega
    refine e106_1 (d := d) hC ⟨⟨by omega, by omega⟩, fun c => ⟨by omega, ?_, ?_⟩, fun c => by exfalso; omega⟩
    · rw [ix]
      intro hn
      by_cases q : cdS A y e = -1
      · rw [if_pos q] at hv
        have q9 := ih (e + 1) n left .null (by omega) (by omega) hl (by rw [← hv]; rfl)
        rw [show ((e + 1 : Nat) : Int) = (e : Int) + 1 by omega] at q9
        exact q9
      · obtain ⟨p, p1, p2⟩ := r2 q
        rw [p1] at hn
        cases hn
    · rw [ix]
      intro p hp
      by_cases q : cdS A y e = -1
      · rw [r1 q] at hp
        cases hp
      rw [if_neg q] at hv
      obtain ⟨p', p1, p2⟩ := r2 q
      rw [p1] at hp
      have hpp : p' = p := Option.some.inj hp
      subst hpp
      obtain ⟨s, s1, -⟩ := cdS_wf hWC q
      refine ⟨⟨by omega, by omega⟩, fun c0 => ?_, fun c0 => ?_⟩
      · rw [if_pos c0] at hv
        refine ⟨hw, fun c1 => ?_, fun c1 => ⟨fun c2 => ⟨p2.1, ?_⟩, fun c2 => ?_⟩⟩
        · rw [if_pos c1] at hv; rw [hv]; exact hQ
        · rw [if_neg c1, if_pos c2] at hv
          have h5 := p2.2.2.2.1
          rw [s1, Int.toNat_natCast] at h5
          rw [s1] at hv
          have e40 : Int.tdiv (s : Int) 40 = ((s / 40 : Nat) : Int) := rfl
          rw [h5, ← e40, hv]
          exact hQ
        · rw [if_neg c1, if_neg c2] at hv; rw [hv]; exact hQ
      · rw [if_neg c0] at hv
        have q9 := ih (e + 1) (n + 1) (left - 1) (.ref p') (by omega) (by omega) (by omega) (by rw [← hv]; rfl)
        rw [show ((e + 1 : Nat) : Int) = (e : Int) + 1 by omega, show left - 1 = left + -1 by omega] at q9
        exact q9
end
set_option maxRecDepth 4000 in
theorem e46 {d L : Nat} {I : Nat → Nat → Int32} {R : Nat → Nat → Option Nat} {S : List (Nat × Nat)} {K : Int32 → mM → Prop} {A : aS} (hC : RC R S I A) {x1 : Int} {x2 : Int} {x3 : Int} (hE : inR x1 ∧ (((0 ≤ x1 ∧ x1 ≤ 7) → inR x2 ∧ (((x2 < (-1)) → K (oI (-1)) (bd L I R S)) ∧ (¬ (x2 < (-1)) → ((x2 = (-1)) → (0 ≤ x1 ∧ x1 < 8) ∧ (K (oI (ld I 44 x1.toNat)) (bd L I R S))) ∧ (¬ (x2 = (-1)) → CallI (d + 1) 106 [.ref 43, .int (oI x1), .int (oI x2), .int (oI x3)] (bd L I R S) (fun y s => ∃ (y10 : Int) (I8 : mI), y = oI y10 ∧ s = bd L I8 R S ∧ inR y10 ∧ RC R S I8 A ∧ (K (oI y10) (bd L I8 R S))))))) ∧ (¬ (0 ≤ x1 ∧ x1 ≤ 7) → K (oI (-1)) (bd L I R S)))) : CallI (d + 2) 46 [.ref 8, .int (oI x1), .int (oI x2), .int (oI x3)] (bd L I R S) K := by
  refine cI_of (ls := [.ref 8, .int (oI x1), .int (oI x2), .int (oI x3)]) rfl ?_
  refine xG gb46.1 ?_
  refine s4 (x := x1) rfl ?_
  refine sI rc22 rfl (Nat.le_of_ble_eq_true rfl) ?_
  refine cI_of (ls := [.int (oI x1)]) rfl ?_
  refine xG gb22 ?_
  refine s4 (x := x1) rfl ?_
  refine s0 ?_
  refine s0 ?_
  obtain ⟨g1, hE⟩ := hE
  refine sI rc3 rfl (Nat.le_of_ble_eq_true rfl) ?_
  refine k3 g1 (inRd rfl) (inRd rfl) (fun c2 => ?_) (fun c2 => ?_)
  · replace hE := hE.1 c2
    refine s84 (by decide) ?_
    refine rqI_of ?_
    refine s67 (inRd rfl) (fun c3 => absurd c3 (by decide)) (fun _ => ?_)
    refine s4 (x := x2) rfl ?_
    refine s0 ?_
    obtain ⟨g4, hE⟩ := hE
    refine s64 g4 (inRd rfl) (fun c5 => ?_) (fun c5 => ?_)
    · replace hE := hE.1 c5
      refine s79 ?_
      refine xG gb46.2.1 ?_
      refine s0 ?_
      refine s80 ?_
      exact rqI_of hE
    · replace hE := hE.2 c5
      refine xG gb46.2.2.1 ?_
      refine s4 (x := x2) rfl ?_
      refine s0 ?_
      refine s62 g4 (inRd rfl) (fun c6 => ?_) (fun c6 => ?_)
      · replace hE := hE.1 c6
        refine s6 (p := 8) rfl ?_
        refine s51 sh8 (by decide) (by decide) rf8_3 ?_
        refine s51 sh43 (by decide) (by decide) rf43_0 ?_
        refine s4 (x := x1) rfl ?_
        obtain ⟨g7, hE⟩ := hE
        refine s40 (v := ld I 44 x1.toNat) sh44 g7 rfl (oI_ld _ _ _) ?_
        refine s60 ?_
        refine xG gb46.2.2.2.2 ?_
        refine s80 ?_
        exact rqI_of hE
      · replace hE := hE.2 c6
        refine xG gb46.2.2.2.1 ?_
        refine s6 (p := 8) rfl ?_
        refine s51 sh8 (by decide) (by decide) rf8_3 ?_
        refine s4 (x := x1) rfl ?_
        refine s4 (x := x2) rfl ?_
        refine s4 (x := x3) rfl ?_
        refine sI rc106 rfl (Nat.le_of_ble_eq_true rfl) ?_
        refine CallI.mono hE ?_
        rintro _ _ ⟨y10, I8, rfl, rfl, gy10, q9, hE⟩
        refine s79 ?_
        refine xG gb46.2.2.2.2 ?_
        refine s80 ?_
        exact rqI_of hE
  · replace hE := hE.2 c2
    refine s84 (by decide) ?_
    refine rqI_of ?_
    refine s67 (inRd rfl) (fun _ => ?_) (fun c11 => absurd (by decide) c11)
    refine xG gb46.2.1 ?_
    refine s0 ?_
    refine s80 ?_
    exact rqI_of hE
set_option maxRecDepth 4000 in
theorem q46 {d L n : Nat} {I : mI} {R : mR} {S : mSh} {A : aS} {K : Int32 → mM → Prop} {x1 : Int} {x2 : Int} {x3 : Int} (hX : CX R S I A n) (hW : WF A) (hn : n ≤ 100000) (rx1 : inR x1) (rx2 : inR x2) (rx3 : inR x3) (hK : ∀ I1, FK I I1 → CX R S I1 A (n + 1) → K (oI (clauseA A x1 x2 x3)) (bd L I1 R S)) : CallI (d + 2) 46 [.ref 8, .int (oI x1), .int (oI x2), .int (oI x3)] (bd L I R S) K := by
  have hC := hX.1
  have hA := hW.1
  have w0 := hA.1
  have w1 := hA.2.1
  have w2 := hA.2.2.1
  have w3 : 0 ≤ A 91 3 ∧ A 91 3 ≤ 850 := hA.2.2.2.1
  have ty := today_year hA
  have c9 := hX.2.2.2.1
  have rx2b : -2147483648 ≤ x2 ∧ x2 ≤ 2147483647 := rx2
  have ca : 0 ≤ x1 ∧ x1 ≤ 7 → clauseA A x1 x2 x3 = clF A x1 x2 x3 60 1 0 x2 := fun h => if_pos h
  have cb : ¬ (0 ≤ x1 ∧ x1 ≤ 7) → clauseA A x1 x2 x3 = -1 := fun h => if_neg h
  have cc : x2 < -1 → clF A x1 x2 x3 60 1 0 x2 = -1 := fun h => clF_neg (by omega) _ _ _ _ (by omega)
  have cd : 0 ≤ x1 ∧ x1 ≤ 7 → x2 = -1 → ld I 44 x1.toNat = clF A x1 x2 x3 60 1 0 x2 := fun h h2 => by
    rw [h2, hC.2.1.2.2.2.1 x1.toNat (by omega)]
    exact (clF_n (A := A) (w := x3) (Y := x1.toNat) (by omega) 60 0 (-1)).symm
  refine e46 (d := d) hC ?_
  refine ⟨by first | assumption | exact inRd rfl | omega | exact ⟨by omega, by omega⟩ | (unfold WnOk; omega) | exact hW.1 | exact hW.2.1 | exact hW.2.2.1 | exact hW.2.2.2.1 | exact hW.2.2.2.2.1 | exact hW.2.2.2.2.2.2.2.2.2.1 | exact hW.2.2.2.2.2.2.2.2.2.2.1 | (constructor <;> omega), ?_⟩
  refine ⟨fun c1 => ?_, fun c1 => ?_⟩
  · refine ⟨by first | assumption | exact inRd rfl | omega | exact ⟨by omega, by omega⟩ | (unfold WnOk; omega) | exact hW.1 | exact hW.2.1 | exact hW.2.2.1 | exact hW.2.2.2.1 | exact hW.2.2.2.2.1 | exact hW.2.2.2.2.2.2.2.2.2.1 | exact hW.2.2.2.2.2.2.2.2.2.2.1 | (constructor <;> omega), ?_⟩
    refine ⟨fun c2 => ?_, fun c2 => ?_⟩
    · have ho : clauseA A x1 x2 x3 = (-1) := by
        unfold clauseA
        repeat' split
        all_goals first | (exfalso; omega) | rw [cc (by omega)] | exact (cd (by omega) (by omega)).symm | with_reducible rfl
      rw [ho] at hK
      exact hK I (FK.refl I) (hX.up (Nat.le_succ n))
    · refine ⟨fun c3 => ?_, fun c3 => ?_⟩
      · refine ⟨by first | assumption | exact inRd rfl | omega | exact ⟨by omega, by omega⟩ | (unfold WnOk; omega) | exact hW.1 | exact hW.2.1 | exact hW.2.2.1 | exact hW.2.2.2.1 | exact hW.2.2.2.2.1 | exact hW.2.2.2.2.2.2.2.2.2.1 | exact hW.2.2.2.2.2.2.2.2.2.2.1 | (constructor <;> omega), ?_⟩
        have ho : clauseA A x1 x2 x3 = (ld I 44 x1.toNat) := by
          unfold clauseA
          repeat' split
          all_goals first | (exfalso; omega) | rw [cc (by omega)] | exact (cd (by omega) (by omega)).symm | with_reducible rfl
        rw [ho] at hK
        exact hK I (FK.refl I) (hX.up (Nat.le_succ n))
      · refine e106 (d := d + 1) hC (l106 (A := A) (Y := x1.toNat) (V := clF A x1 x2 x3 60 1 0 x2) (k := x2) hC hW.2.2.2.2.2.2.2.2.2.2.1 (by omega) (by omega) (by omega) rx3 (rqI_of ?_) 60 1 0 x2 _ rfl (by omega) (by omega) rfl)
        refine ⟨clF A x1 x2 x3 60 1 0 x2, I, rfl, rfl, ?_, hC, ?_⟩
        · have := clF_in (A := A) (y := x1) (w := x3) hW.2.2.2.2.2.2.2.2.2.2.1 (show ¬ x2 = -1 by omega) 60 1 0 x2 (by omega) (by omega)
          exact ⟨by omega, by omega⟩
        · have q := hK I (FK.refl I) (hX.up (Nat.le_succ n))
          rw [ca (by omega)] at q
          exact q
  · have ho : clauseA A x1 x2 x3 = (-1) := by
      unfold clauseA
      repeat' split
      all_goals first | (exfalso; omega) | rw [cc (by omega)] | exact (cd (by omega) (by omega)).symm | with_reducible rfl
    rw [ho] at hK
    exact hK I (FK.refl I) (hX.up (Nat.le_succ n))
