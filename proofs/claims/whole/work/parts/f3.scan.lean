set_option maxRecDepth 4000 in
theorem e39 {d L : Nat} {I : Nat → Nat → Int32} {R : Nat → Nat → Option Nat} {S : List (Nat × Nat)} {K : Int32 → mM → Prop}  {x0 : Int} (hE : inR x0 ∧ (((x0 < 97) → K (oI 0) (bd L I R S)) ∧ (¬ (x0 < 97) → ((122 < x0) → K (oI 0) (bd L I R S)) ∧ (¬ (122 < x0) → K (oI 1) (bd L I R S))))) : CallI d 39 [.int (oI x0)] (bd L I R S) K := by
  refine cI_of (ls := [.int (oI x0)]) rfl ?_
  refine xG gb39.1 ?_
  refine s4 (x := x0) rfl ?_
  refine s0 ?_
  obtain ⟨g1, hE⟩ := hE
  refine s63 g1 (inRd rfl) (fun c2 => ?_) (fun c2 => ?_)
  · replace hE := hE.1 c2
    refine xG gb39.2.1 ?_
    refine s0 ?_
    refine s79 ?_
    refine xG gb39.2.2 ?_
    refine s84 (by decide) ?_
    exact rqI_of hE
  · replace hE := hE.2 c2
    refine s4 (x := x0) rfl ?_
    refine s0 ?_
    refine s65 g1 (inRd rfl) (fun c3 => ?_) (fun c3 => ?_)
    · replace hE := hE.1 c3
      refine xG gb39.2.1 ?_
      refine s0 ?_
      refine s79 ?_
      refine xG gb39.2.2 ?_
      refine s84 (by decide) ?_
      exact rqI_of hE
    · replace hE := hE.2 c3
      refine s0 ?_
      refine s60 ?_
      refine xG gb39.2.2 ?_
      refine s84 (by decide) ?_
      exact rqI_of hE
set_option maxRecDepth 4000 in
theorem e40 {d L : Nat} {I : Nat → Nat → Int32} {R : Nat → Nat → Option Nat} {S : List (Nat × Nat)} {K : Int32 → mM → Prop}  {x0 : Int} (hE : inR x0 ∧ (((x0 < 48) → K (oI 0) (bd L I R S)) ∧ (¬ (x0 < 48) → ((57 < x0) → K (oI 0) (bd L I R S)) ∧ (¬ (57 < x0) → K (oI 1) (bd L I R S))))) : CallI d 40 [.int (oI x0)] (bd L I R S) K := by
  refine cI_of (ls := [.int (oI x0)]) rfl ?_
  refine xG gb40.1 ?_
  refine s4 (x := x0) rfl ?_
  refine s0 ?_
  obtain ⟨g1, hE⟩ := hE
  refine s63 g1 (inRd rfl) (fun c2 => ?_) (fun c2 => ?_)
  · replace hE := hE.1 c2
    refine xG gb40.2.1 ?_
    refine s0 ?_
    refine s79 ?_
    refine xG gb40.2.2 ?_
    refine s84 (by decide) ?_
    exact rqI_of hE
  · replace hE := hE.2 c2
    refine s4 (x := x0) rfl ?_
    refine s0 ?_
    refine s65 g1 (inRd rfl) (fun c3 => ?_) (fun c3 => ?_)
    · replace hE := hE.1 c3
      refine xG gb40.2.1 ?_
      refine s0 ?_
      refine s79 ?_
      refine xG gb40.2.2 ?_
      refine s84 (by decide) ?_
      exact rqI_of hE
    · replace hE := hE.2 c3
      refine s0 ?_
      refine s60 ?_
      refine xG gb40.2.2 ?_
      refine s84 (by decide) ?_
      exact rqI_of hE
set_option maxRecDepth 4000 in
theorem e113 {d L : Nat} {I : Nat → Nat → Int32} {R : Nat → Nat → Option Nat} {S : List (Nat × Nat)} {K : Int32 → mM → Prop}  {x0 : Int} (hE : inR x0 ∧ (((x0 = 58) → K (oI 1) (bd L I R S)) ∧ (¬ (x0 = 58) → ((x0 = 59) → K (oI 1) (bd L I R S)) ∧ (¬ (x0 = 59) → ((x0 = 40) → K (oI 1) (bd L I R S)) ∧ (¬ (x0 = 40) → ((x0 = 41) → K (oI 1) (bd L I R S)) ∧ (¬ (x0 = 41) → ((x0 = 60) → K (oI 1) (bd L I R S)) ∧ (¬ (x0 = 60) → ((x0 = 62) → K (oI 1) (bd L I R S)) ∧ (¬ (x0 = 62) → ((x0 = 61) → K (oI 1) (bd L I R S)) ∧ (¬ (x0 = 61) → K (oI 0) (bd L I R S)))))))))) : CallI d 113 [.int (oI x0)] (bd L I R S) K := by
  refine cI_of (ls := [.int (oI x0)]) rfl ?_
  refine xG gb113.1 ?_
  refine s4 (x := x0) rfl ?_
  refine s0 ?_
  obtain ⟨g1, hE⟩ := hE
  refine s61 g1 (inRd rfl) (fun c2 => ?_) (fun c2 => ?_)
  · replace hE := hE.1 c2
    refine xG gb113.2.1 ?_
    refine s0 ?_
    refine s60 ?_
    refine xG gb113.2.2.2 ?_
    refine s84 (by decide) ?_
    exact rqI_of hE
  · replace hE := hE.2 c2
    refine s4 (x := x0) rfl ?_
    refine s0 ?_
    refine s61 g1 (inRd rfl) (fun c3 => ?_) (fun c3 => ?_)
    · replace hE := hE.1 c3
      refine xG gb113.2.1 ?_
      refine s0 ?_
      refine s60 ?_
      refine xG gb113.2.2.2 ?_
      refine s84 (by decide) ?_
      exact rqI_of hE
    · replace hE := hE.2 c3
      refine s4 (x := x0) rfl ?_
      refine s0 ?_
      refine s61 g1 (inRd rfl) (fun c4 => ?_) (fun c4 => ?_)
      · replace hE := hE.1 c4
        refine xG gb113.2.1 ?_
        refine s0 ?_
        refine s60 ?_
        refine xG gb113.2.2.2 ?_
        refine s84 (by decide) ?_
        exact rqI_of hE
      · replace hE := hE.2 c4
        refine s4 (x := x0) rfl ?_
        refine s0 ?_
        refine s61 g1 (inRd rfl) (fun c5 => ?_) (fun c5 => ?_)
        · replace hE := hE.1 c5
          refine xG gb113.2.1 ?_
          refine s0 ?_
          refine s60 ?_
          refine xG gb113.2.2.2 ?_
          refine s84 (by decide) ?_
          exact rqI_of hE
        · replace hE := hE.2 c5
          refine s4 (x := x0) rfl ?_
          refine s0 ?_
          refine s61 g1 (inRd rfl) (fun c6 => ?_) (fun c6 => ?_)
          · replace hE := hE.1 c6
            refine xG gb113.2.1 ?_
            refine s0 ?_
            refine s60 ?_
            refine xG gb113.2.2.2 ?_
            refine s84 (by decide) ?_
            exact rqI_of hE
          · replace hE := hE.2 c6
            refine s4 (x := x0) rfl ?_
            refine s0 ?_
            refine s61 g1 (inRd rfl) (fun c7 => ?_) (fun c7 => ?_)
            · replace hE := hE.1 c7
              refine xG gb113.2.1 ?_
              refine s0 ?_
              refine s60 ?_
              refine xG gb113.2.2.2 ?_
              refine s84 (by decide) ?_
              exact rqI_of hE
            · replace hE := hE.2 c7
              refine s4 (x := x0) rfl ?_
              refine s0 ?_
              refine s62 g1 (inRd rfl) (fun c8 => ?_) (fun c8 => ?_)
              · replace hE := hE.1 c8
                refine s79 ?_
                refine xG gb113.2.1 ?_
                refine s0 ?_
                refine s60 ?_
                refine xG gb113.2.2.2 ?_
                refine s84 (by decide) ?_
                exact rqI_of hE
              · replace hE := hE.2 c8
                refine xG gb113.2.2.1 ?_
                refine s0 ?_
                refine s79 ?_
                refine xG gb113.2.2.2 ?_
                refine s84 (by decide) ?_
                exact rqI_of hE
section
variable {d L : Nat} {I : mI} {R : mR} {S : mSh} {K : Int32 → mM → Prop} {x x1 x2 : Int} {q k : Nat}
theorem k39 (hx : inR x) (h1 : (97 ≤ x ∧ x ≤ 122) → K (oI 1) (bd L I R S)) (h0 : ¬ (97 ≤ x ∧ x ≤ 122) → K (oI 0) (bd L I R S)) : CallI d 39 [.int (oI x)] (bd L I R S) K := by
  refine e39 (d := d) ⟨hx, ?_⟩
  refine ⟨fun c => h0 (by omega), fun c => ⟨fun c2 => h0 (by omega), fun c2 => h1 (by omega)⟩⟩
theorem k40 (hx : inR x) (h1 : (48 ≤ x ∧ x ≤ 57) → K (oI 1) (bd L I R S)) (h0 : ¬ (48 ≤ x ∧ x ≤ 57) → K (oI 0) (bd L I R S)) : CallI d 40 [.int (oI x)] (bd L I R S) K := by
  refine e40 (d := d) ⟨hx, ?_⟩
  refine ⟨fun c => h0 (by omega), fun c => ⟨fun c2 => h0 (by omega), fun c2 => h1 (by omega)⟩⟩
theorem k113 (hx : inR x) (h1 : isg x → K (oI 1) (bd L I R S)) (h0 : ¬ isg x → K (oI 0) (bd L I R S)) : CallI d 113 [.int (oI x)] (bd L I R S) K := by
  unfold isg at h1 h0
  exact e113 (d := d) ⟨hx, fun c => h1 (by omega), fun c => ⟨fun c => h1 (by omega), fun c => ⟨fun c => h1 (by omega), fun c => ⟨fun c => h1 (by omega), fun c => ⟨fun c => h1 (by omega), fun c => ⟨fun c => h1 (by omega), fun c => ⟨fun c => h1 (by omega), fun c => h0 (by omega)⟩⟩⟩⟩⟩⟩⟩
theorem k110x (h1 : x1 = (q : Int)) (hW : WrC I) (hx : x2 = ((q + k : Nat) : Int)) (hq : q + k ≤ 800) (hK : K (oI (wS (fun j => ld I 45 j) q k)) (bd L I R S)) : CallI (d + 4) 110 [.ref 45, .int (oI x1), .int (oI x2)] (bd L I R S) K := by
  subst h1
  exact k110 hW hx hq hK
end
set_option maxRecDepth 4000 in
theorem e111 {d L : Nat} {I : Nat → Nat → Int32} {R : Nat → Nat → Option Nat} {S : List (Nat × Nat)} {K : mM → Prop}  {x1 : Int} {x2 : Int} {x3 : Int} (hE : ((ld I 46 6 < 801) → (0 ≤ ld I 46 6 ∧ ld I 46 6 < 801) ∧ (K (bd L (u2 (u2 (u2 (u2 I 48 (ld I 46 6).toNat (oI x1)) 49 (ld I 46 6).toNat (oI x2)) 50 (ld I 46 6).toNat (oI x3)) 46 6 (oI (ld I 46 6 + 1))) R S))) ∧ (¬ (ld I 46 6 < 801) → K (bd L I R S))) : CallV d 111 [.ref 46, .int (oI x1), .int (oI x2), .int (oI x3)] (bd L I R S) K := by
  refine cV_of (ls := [.ref 46, .int (oI x1), .int (oI x2), .int (oI x3)]) rfl ?_
  refine xG gb111.1 ?_
  refine s6 (p := 46) rfl ?_
  refine s50 (v := ld I 46 6) sh46 (by decide) (by decide) (oI_ld _ _ _) ?_
  refine s6 (p := 46) rfl ?_
  refine s51 sh46 (by decide) (by decide) rf46_3 ?_
  refine s48 sh48 (by decide) ?_
  refine s64 (ld_inR _ _ _) (inRd rfl) (fun c1 => ?_) (fun c1 => ?_)
  · replace hE := hE.1 c1
    refine s6 (p := 46) rfl ?_
    refine s51 sh46 (by decide) (by decide) rf46_3 ?_
    refine s6 (p := 46) rfl ?_
    refine s50 (v := ld I 46 6) sh46 (by decide) (by decide) (oI_ld _ _ _) ?_
    refine s4 (x := x1) rfl ?_
    obtain ⟨g2, hE⟩ := hE
    refine s44 sh48 (by decide) g2 rfl ?_
    refine s6 (p := 46) rfl ?_
    refine s51 sh46 (by decide) (by decide) rf46_4 ?_
    refine s6 (p := 46) rfl ?_
    refine s50 (v := ld I 46 6) sh46 (by decide) (by decide) ((v2_ne (by decide)).trans (oI_ld _ _ _)) ?_
    refine s4 (x := x2) rfl ?_
    refine s44 sh49 (by decide) g2 rfl ?_
    refine s6 (p := 46) rfl ?_
    refine s51 sh46 (by decide) (by decide) rf46_5 ?_
    refine s6 (p := 46) rfl ?_
    refine s50 (v := ld I 46 6) sh46 (by decide) (by decide) ((v2_ne (by decide)).trans ((v2_ne (by decide)).trans (oI_ld _ _ _))) ?_
    refine s4 (x := x3) rfl ?_
    refine s44 sh50 (by decide) g2 rfl ?_
    refine s6 (p := 46) rfl ?_
    refine s13r ?_
    refine s50 (v := ld I 46 6) sh46 (by decide) (by decide) ((v2_ne (by decide)).trans ((v2_ne (by decide)).trans ((v2_ne (by decide)).trans (oI_ld _ _ _)))) ?_
    refine s0 ?_
    refine s16 ?_
    refine s52 sh46 (by decide) (by decide) ?_
    refine s79 ?_
    refine xG gb111.2 ?_
    refine s83 ?_
    exact rqV_of hE
  · replace hE := hE.2 c1
    refine xG gb111.2 ?_
    refine s83 ?_
    exact rqV_of hE
def h109_1 (d L : Nat) (I : Nat → Nat → Int32) (R : Nat → Nat → Option Nat) (S : List (Nat × Nat)) (Q : Option Value → mM → Prop) (x2 : Int) (x3 : Int) (w4 : Value) : Prop := Wp d (gb 109 1) [.ref 46, .ref 45, .int (oI x2), .int (oI x3), w4] [] (bd L I R S) Q
def h109_2 (d L : Nat) (I : Nat → Nat → Int32) (R : Nat → Nat → Option Nat) (S : List (Nat × Nat)) (Q : Option Value → mM → Prop) (x2 : Int) (x3 : Int) (x4 : Int) : Prop := Wp d (gb 109 2) [.ref 46, .ref 45, .int (oI x2), .int (oI x3), .int (oI x4)] [] (bd L I R S) Q
def h109_5 (d L : Nat) (I : Nat → Nat → Int32) (R : Nat → Nat → Option Nat) (S : List (Nat × Nat)) (Q : Option Value → mM → Prop) (x2 : Int) (x3 : Int) (x4 : Int) : Prop := Wp d (gb 109 5) [.ref 46, .ref 45, .int (oI x2), .int (oI x3), .int (oI x4)] [] (bd L I R S) Q
set_option maxRecDepth 4000 in
theorem e109_1 {d L : Nat} {I : Nat → Nat → Int32} {R : Nat → Nat → Option Nat} {S : List (Nat × Nat)} {Q : Option Value → mM → Prop}  {x2 : Int} {x3 : Int} {w4 : Value} (hE : inR x3 ∧ (inR x2 ∧ (((x3 < x2) → (0 ≤ x3 ∧ x3 < 800) ∧ (((97 ≤ ld I 45 x3.toNat ∧ ld I 45 x3.toNat ≤ 122) → h109_2 (d + 1) L I R S Q x2 x3 (x3 + 1)) ∧ (¬ (97 ≤ ld I 45 x3.toNat ∧ ld I 45 x3.toNat ≤ 122) → ((48 ≤ ld I 45 x3.toNat ∧ ld I 45 x3.toNat ≤ 57) → h109_5 (d + 1) L I R S Q x2 x3 (x3 + 1)) ∧ (¬ (48 ≤ ld I 45 x3.toNat ∧ ld I 45 x3.toNat ≤ 57) → ((ld I 45 x3.toNat = 32) → h109_1 (d + 1) L I R S Q x2 (x3 + 1) (.int (oI (x3 + 1)))) ∧ (¬ (ld I 45 x3.toNat = 32) → ((ld I 45 x3.toNat = 10) → h109_1 (d + 1) L I R S Q x2 (x3 + 1) (.int (oI (x3 + 1)))) ∧ (¬ (ld I 45 x3.toNat = 10) → ((isg (ld I 45 x3.toNat)) → CallV d 111 [.ref 46, .int (oI (ld I 45 x3.toNat)), .int (oI 0), .int (oI x3)] (bd L I R S) (fun s => ∃ (I15 : mI), s = bd L I15 R S ∧ (h109_1 (d + 1) L I15 R S Q x2 (x3 + 1) (.int (oI (x3 + 1)))))) ∧ (¬ (isg (ld I 45 x3.toNat)) → CallV d 111 [.ref 46, .int (oI 1), .int (oI 0), .int (oI x3)] (bd L I R S) (fun s => ∃ (I17 : mI), s = bd L I17 R S ∧ (h109_1 (d + 1) L I17 R S Q x2 (x3 + 1) (.int (oI (x3 + 1)))))))))))) ∧ (¬ (x3 < x2) → CallV d 111 [.ref 46, .int (oI 0), .int (oI 0), .int (oI x2)] (bd L I R S) (fun s => ∃ (I18 : mI), s = bd L I18 R S ∧ (Q none (bd L I18 R S))))))) : h109_1 (d + 1) L I R S Q x2 x3 w4 := by
  unfold h109_1
  refine xG gb109.2.1 ?_
  refine s4 (x := x3) rfl ?_
  refine s4 (x := x2) rfl ?_
  obtain ⟨g1, hE⟩ := hE
  obtain ⟨g2, hE⟩ := hE
  refine s64 g1 g2 (fun c3 => ?_) (fun c3 => ?_)
  · replace hE := hE.1 c3
    refine s4 (x := x3) rfl ?_
    refine s0 ?_
    refine s16 ?_
    refine s7 (ls' := [.ref 46, .ref 45, .int (oI x2), .int (oI x3), .int (oI (x3 + 1))]) (Nat.le_of_ble_eq_true rfl) rfl ?_
    refine s6 (p := 45) rfl ?_
    refine s4 (x := x3) rfl ?_
    obtain ⟨g4, hE⟩ := hE
    refine s41 (v := ld I 45 x3.toNat) sh45 g4 rfl (oI_ld _ _ _) ?_
    refine sI rc39 rfl (Nat.le_of_ble_eq_true rfl) ?_
    refine k39 (ld_inR _ _ _) (fun c5 => ?_) (fun c5 => ?_)
    · replace hE := hE.1 c5
      refine s67 (inRd rfl) (fun c6 => absurd c6 (by decide)) (fun _ => ?_)
      refine s79 ?_
      exact hE
    · replace hE := hE.2 c5
      refine s67 (inRd rfl) (fun _ => ?_) (fun c7 => absurd (by decide) c7)
      refine xG gb109.2.2.2.2.1 ?_
      refine s6 (p := 45) rfl ?_
      refine s4 (x := x3) rfl ?_
      refine s41 (v := ld I 45 x3.toNat) sh45 g4 rfl (oI_ld _ _ _) ?_
      refine sI rc40 rfl (Nat.le_of_ble_eq_true rfl) ?_
      refine k40 (ld_inR _ _ _) (fun c8 => ?_) (fun c8 => ?_)
      · replace hE := hE.1 c8
        refine s67 (inRd rfl) (fun c9 => absurd c9 (by decide)) (fun _ => ?_)
        refine s79 ?_
        exact hE
      · replace hE := hE.2 c8
        refine s67 (inRd rfl) (fun _ => ?_) (fun c10 => absurd (by decide) c10)
        refine xG gb109.2.2.2.2.2.2.2.1 ?_
        refine s6 (p := 45) rfl ?_
        refine s4 (x := x3) rfl ?_
        refine s41 (v := ld I 45 x3.toNat) sh45 g4 rfl (oI_ld _ _ _) ?_
        refine s0 ?_
        refine s61 (ld_inR _ _ _) (inRd rfl) (fun c11 => ?_) (fun c11 => ?_)
        · replace hE := hE.1 c11
          refine xG gb109.2.2.2.2.2.2.2.2.2.2.1 ?_
          refine s4 (x := x3 + 1) rfl ?_
          refine s7 (ls' := [.ref 46, .ref 45, .int (oI x2), .int (oI (x3 + 1)), .int (oI (x3 + 1))]) (Nat.le_of_ble_eq_true rfl) rfl ?_
          refine s60 ?_
          exact hE
        · replace hE := hE.2 c11
          refine s6 (p := 45) rfl ?_
          refine s4 (x := x3) rfl ?_
          refine s41 (v := ld I 45 x3.toNat) sh45 g4 rfl (oI_ld _ _ _) ?_
          refine s0 ?_
          refine s61 (ld_inR _ _ _) (inRd rfl) (fun c12 => ?_) (fun c12 => ?_)
          · replace hE := hE.1 c12
            refine xG gb109.2.2.2.2.2.2.2.2.2.2.1 ?_
            refine s4 (x := x3 + 1) rfl ?_
            refine s7 (ls' := [.ref 46, .ref 45, .int (oI x2), .int (oI (x3 + 1)), .int (oI (x3 + 1))]) (Nat.le_of_ble_eq_true rfl) rfl ?_
            refine s60 ?_
            exact hE
          · replace hE := hE.2 c12
            refine s6 (p := 46) rfl ?_
            refine s6 (p := 45) rfl ?_
            refine s4 (x := x3) rfl ?_
            refine s41 (v := ld I 45 x3.toNat) sh45 g4 rfl (oI_ld _ _ _) ?_
            refine sI rc113 rfl (Nat.le_of_ble_eq_true rfl) ?_
            refine k113 (ld_inR _ _ _) (fun c13 => ?_) (fun c13 => ?_)
            · replace hE := hE.1 c13
              refine s67 (inRd rfl) (fun c14 => absurd c14 (by decide)) (fun _ => ?_)
              refine s6 (p := 45) rfl ?_
              refine s4 (x := x3) rfl ?_
              refine s41 (v := ld I 45 x3.toNat) sh45 g4 rfl (oI_ld _ _ _) ?_
              refine s60 ?_
              refine xG gb109.2.2.2.2.2.2.2.2.2.1 ?_
              refine s0 ?_
              refine s4 (x := x3) rfl ?_
              refine sV rc111 rfl (Nat.le_of_ble_eq_true rfl) ?_
              refine CallV.mono hE ?_
              rintro _ ⟨I15, rfl, hE⟩
              refine s79 ?_
              refine xG gb109.2.2.2.2.2.2.2.2.2.2.1 ?_
              refine s4 (x := x3 + 1) rfl ?_
              refine s7 (ls' := [.ref 46, .ref 45, .int (oI x2), .int (oI (x3 + 1)), .int (oI (x3 + 1))]) (Nat.le_of_ble_eq_true rfl) rfl ?_
              refine s60 ?_
              exact hE
            · replace hE := hE.2 c13
              refine s67 (inRd rfl) (fun _ => ?_) (fun c16 => absurd (by decide) c16)
              refine xG gb109.2.2.2.2.2.2.2.2.1 ?_
              refine s0 ?_
              refine s79 ?_
              refine xG gb109.2.2.2.2.2.2.2.2.2.1 ?_
              refine s0 ?_
              refine s4 (x := x3) rfl ?_
              refine sV rc111 rfl (Nat.le_of_ble_eq_true rfl) ?_
              refine CallV.mono hE ?_
              rintro _ ⟨I17, rfl, hE⟩
              refine s79 ?_
              refine xG gb109.2.2.2.2.2.2.2.2.2.2.1 ?_
              refine s4 (x := x3 + 1) rfl ?_
              refine s7 (ls' := [.ref 46, .ref 45, .int (oI x2), .int (oI (x3 + 1)), .int (oI (x3 + 1))]) (Nat.le_of_ble_eq_true rfl) rfl ?_
              refine s60 ?_
              exact hE
  · replace hE := hE.2 c3
    refine xG gb109.2.2.2.2.2.2.2.2.2.2.2 ?_
    refine s6 (p := 46) rfl ?_
    refine s0 ?_
    refine s0 ?_
    refine s4 (x := x2) rfl ?_
    refine sV rc111 rfl (Nat.le_of_ble_eq_true rfl) ?_
    refine CallV.mono hE ?_
    rintro _ ⟨I18, rfl, hE⟩
    refine s83 ?_
    exact hE
set_option maxRecDepth 4000 in
theorem e109_2 {d L : Nat} {I : Nat → Nat → Int32} {R : Nat → Nat → Option Nat} {S : List (Nat × Nat)} {Q : Option Value → mM → Prop}  {x2 : Int} {x3 : Int} {x4 : Int} (hE : inR x4 ∧ (inR x2 ∧ (((x4 < x2) → (0 ≤ x4 ∧ x4 < 800) ∧ (((97 ≤ ld I 45 x4.toNat ∧ ld I 45 x4.toNat ≤ 122) → h109_2 (d + 5) L I R S Q x2 x3 (x4 + 1)) ∧ (¬ (97 ≤ ld I 45 x4.toNat ∧ ld I 45 x4.toNat ≤ 122) → ∃ q8 k9 : Nat, WrC I ∧ (x3 = (q8 : Int)) ∧ (x4 = ((q8 + k9 : Nat) : Int)) ∧ q8 + k9 ≤ 800 ∧ (CallV (d + 4) 111 [.ref 46, .int (oI (wS (fun j => ld I 45 j) q8 k9)), .int (oI 0), .int (oI x3)] (bd L I R S) (fun s => ∃ (I14 : mI), s = bd L I14 R S ∧ (h109_1 (d + 5) L I14 R S Q x2 x4 (.int (oI x4)))))))) ∧ (¬ (x4 < x2) → ∃ q15 k16 : Nat, WrC I ∧ (x3 = (q15 : Int)) ∧ (x4 = ((q15 + k16 : Nat) : Int)) ∧ q15 + k16 ≤ 800 ∧ (CallV (d + 4) 111 [.ref 46, .int (oI (wS (fun j => ld I 45 j) q15 k16)), .int (oI 0), .int (oI x3)] (bd L I R S) (fun s => ∃ (I21 : mI), s = bd L I21 R S ∧ (h109_1 (d + 5) L I21 R S Q x2 x4 (.int (oI x4))))))))) : h109_2 (d + 5) L I R S Q x2 x3 x4 := by
  unfold h109_2
  refine xG gb109.2.2.1 ?_
  refine s4 (x := x4) rfl ?_
  refine s4 (x := x2) rfl ?_
  obtain ⟨g1, hE⟩ := hE
  obtain ⟨g2, hE⟩ := hE
  refine s64 g1 g2 (fun c3 => ?_) (fun c3 => ?_)
  · replace hE := hE.1 c3
    refine s6 (p := 45) rfl ?_
    refine s4 (x := x4) rfl ?_
    obtain ⟨g4, hE⟩ := hE
    refine s41 (v := ld I 45 x4.toNat) sh45 g4 rfl (oI_ld _ _ _) ?_
    refine sI rc39 rfl (Nat.le_of_ble_eq_true rfl) ?_
    refine k39 (ld_inR _ _ _) (fun c5 => ?_) (fun c5 => ?_)
    · replace hE := hE.1 c5
      refine s67 (inRd rfl) (fun c6 => absurd c6 (by decide)) (fun _ => ?_)
      refine s10 (x := x4) (ls' := [.ref 46, .ref 45, .int (oI x2), .int (oI x3), .int (oI (x4 + 1))]) rfl rfl ?_
      refine s60 ?_
      exact hE
    · replace hE := hE.2 c5
      refine s67 (inRd rfl) (fun _ => ?_) (fun c7 => absurd (by decide) c7)
      refine xG gb109.2.2.2.1 ?_
      refine s6 (p := 46) rfl ?_
      refine s6 (p := 45) rfl ?_
      refine s4 (x := x3) rfl ?_
      refine s4 (x := x4) rfl ?_
      obtain ⟨q8, k9, h10, h11, h12, h13, hE⟩ := hE
      refine sI rc110 rfl (Nat.le_of_ble_eq_true rfl) ?_
      refine k110x h11 h10 h12 h13 ?_
      refine s0 ?_
      refine s4 (x := x3) rfl ?_
      refine sV rc111 rfl (Nat.le_of_ble_eq_true rfl) ?_
      refine CallV.mono hE ?_
      rintro _ ⟨I14, rfl, hE⟩
      refine s60 ?_
      refine xG gb109.2.2.2.2.2.2.2.2.2.2.1 ?_
      refine s4 (x := x4) rfl ?_
      refine s7 (ls' := [.ref 46, .ref 45, .int (oI x2), .int (oI x4), .int (oI x4)]) (Nat.le_of_ble_eq_true rfl) rfl ?_
      refine s60 ?_
      exact hE
  · replace hE := hE.2 c3
    refine xG gb109.2.2.2.1 ?_
    refine s6 (p := 46) rfl ?_
    refine s6 (p := 45) rfl ?_
    refine s4 (x := x3) rfl ?_
    refine s4 (x := x4) rfl ?_
    obtain ⟨q15, k16, h17, h18, h19, h20, hE⟩ := hE
    refine sI rc110 rfl (Nat.le_of_ble_eq_true rfl) ?_
    refine k110x h18 h17 h19 h20 ?_
    refine s0 ?_
    refine s4 (x := x3) rfl ?_
    refine sV rc111 rfl (Nat.le_of_ble_eq_true rfl) ?_
    refine CallV.mono hE ?_
    rintro _ ⟨I21, rfl, hE⟩
    refine s60 ?_
    refine xG gb109.2.2.2.2.2.2.2.2.2.2.1 ?_
    refine s4 (x := x4) rfl ?_
    refine s7 (ls' := [.ref 46, .ref 45, .int (oI x2), .int (oI x4), .int (oI x4)]) (Nat.le_of_ble_eq_true rfl) rfl ?_
    refine s60 ?_
    exact hE
set_option maxRecDepth 4000 in
theorem e109_5 {d L : Nat} {I : Nat → Nat → Int32} {R : Nat → Nat → Option Nat} {S : List (Nat × Nat)} {Q : Option Value → mM → Prop}  {x2 : Int} {x3 : Int} {x4 : Int} (hE : inR x4 ∧ (inR x2 ∧ (((x4 < x2) → (0 ≤ x4 ∧ x4 < 800) ∧ (((48 ≤ ld I 45 x4.toNat ∧ ld I 45 x4.toNat ≤ 57) → h109_5 (d + 1) L I R S Q x2 x3 (x4 + 1)) ∧ (¬ (48 ≤ ld I 45 x4.toNat ∧ ld I 45 x4.toNat ≤ 57) → CallV d 112 [.ref 46, .ref 45, .int (oI x3), .int (oI x4)] (bd L I R S) (fun s => ∃ (I8 : mI), s = bd L I8 R S ∧ (h109_1 (d + 1) L I8 R S Q x2 x4 (.int (oI x4))))))) ∧ (¬ (x4 < x2) → CallV d 112 [.ref 46, .ref 45, .int (oI x3), .int (oI x4)] (bd L I R S) (fun s => ∃ (I9 : mI), s = bd L I9 R S ∧ (h109_1 (d + 1) L I9 R S Q x2 x4 (.int (oI x4)))))))) : h109_5 (d + 1) L I R S Q x2 x3 x4 := by
  unfold h109_5
  refine xG gb109.2.2.2.2.2.1 ?_
  refine s4 (x := x4) rfl ?_
  refine s4 (x := x2) rfl ?_
  obtain ⟨g1, hE⟩ := hE
  obtain ⟨g2, hE⟩ := hE
  refine s64 g1 g2 (fun c3 => ?_) (fun c3 => ?_)
  · replace hE := hE.1 c3
    refine s6 (p := 45) rfl ?_
    refine s4 (x := x4) rfl ?_
    obtain ⟨g4, hE⟩ := hE
    refine s41 (v := ld I 45 x4.toNat) sh45 g4 rfl (oI_ld _ _ _) ?_
    refine sI rc40 rfl (Nat.le_of_ble_eq_true rfl) ?_
    refine k40 (ld_inR _ _ _) (fun c5 => ?_) (fun c5 => ?_)
    · replace hE := hE.1 c5
      refine s67 (inRd rfl) (fun c6 => absurd c6 (by decide)) (fun _ => ?_)
      refine s10 (x := x4) (ls' := [.ref 46, .ref 45, .int (oI x2), .int (oI x3), .int (oI (x4 + 1))]) rfl rfl ?_
      refine s60 ?_
      exact hE
    · replace hE := hE.2 c5
      refine s67 (inRd rfl) (fun _ => ?_) (fun c7 => absurd (by decide) c7)
      refine xG gb109.2.2.2.2.2.2.1 ?_
      refine s6 (p := 46) rfl ?_
      refine s6 (p := 45) rfl ?_
      refine s4 (x := x3) rfl ?_
      refine s4 (x := x4) rfl ?_
      refine sV rc112 rfl (Nat.le_of_ble_eq_true rfl) ?_
      refine CallV.mono hE ?_
      rintro _ ⟨I8, rfl, hE⟩
      refine s60 ?_
      refine xG gb109.2.2.2.2.2.2.2.2.2.2.1 ?_
      refine s4 (x := x4) rfl ?_
      refine s7 (ls' := [.ref 46, .ref 45, .int (oI x2), .int (oI x4), .int (oI x4)]) (Nat.le_of_ble_eq_true rfl) rfl ?_
      refine s60 ?_
      exact hE
  · replace hE := hE.2 c3
    refine xG gb109.2.2.2.2.2.2.1 ?_
    refine s6 (p := 46) rfl ?_
    refine s6 (p := 45) rfl ?_
    refine s4 (x := x3) rfl ?_
    refine s4 (x := x4) rfl ?_
    refine sV rc112 rfl (Nat.le_of_ble_eq_true rfl) ?_
    refine CallV.mono hE ?_
    rintro _ ⟨I9, rfl, hE⟩
    refine s60 ?_
    refine xG gb109.2.2.2.2.2.2.2.2.2.2.1 ?_
    refine s4 (x := x4) rfl ?_
    refine s7 (ls' := [.ref 46, .ref 45, .int (oI x2), .int (oI x4), .int (oI x4)]) (Nat.le_of_ble_eq_true rfl) rfl ?_
    refine s60 ?_
    exact hE
set_option maxRecDepth 4000 in
theorem e109 {d L : Nat} {I : Nat → Nat → Int32} {R : Nat → Nat → Option Nat} {S : List (Nat × Nat)} {K : mM → Prop}  {x2 : Int} (hE : h109_1 d L (u2 I 46 6 (oI 0)) R S (rqV K) x2 0 mUn) : CallV d 109 [.ref 46, .ref 45, .int (oI x2)] (bd L I R S) K := by
  refine cV_of (ls := [.ref 46, .ref 45, .int (oI x2), mUn, mUn]) rfl ?_
  refine xG gb109.1 ?_
  refine s6 (p := 46) rfl ?_
  refine s0 ?_
  refine s52 sh46 (by decide) (by decide) ?_
  refine s0 ?_
  refine s7 (ls' := [.ref 46, .ref 45, .int (oI x2), .int (oI 0), mUn]) (Nat.le_of_ble_eq_true rfl) rfl ?_
  refine s79 ?_
  exact hE
section
variable {d L : Nat} {I I0 : mI} {R : mR} {S : mSh} {Q : Option Value → mM → Prop} {T : Nat → Int} {N q t : Nat}
def kpM (I : mI) (t : Nat) (kd v pl : Int) : mI := u2 (u2 (u2 (u2 I 48 t (oI kd)) 49 t (oI v)) 50 t (oI pl)) 46 6 (oI ((t : Int) + 1))
/-- the tokens kept so far -/
def TkU (I : mI) (T : Nat → Int) (N t : Nat) : Prop := ld I 46 6 = (t : Int) ∧ ∀ t', t' < t → ld I 48 t' = tkK T N (plc T N t') ∧ ld I 49 t' = tkV T N (plc T N t') ∧ ld I 50 t' = (plc T N t' : Int)
theorem TkU.keep {kd v pl : Int} (h : TkU I T N t) (ht : t ≤ 800) (h1 : kd = tkK T N (plc T N t)) (h2 : v = tkV T N (plc T N t)) (h3 : pl = (plc T N t : Int)) (hN : N ≤ 800) : TkU (kpM I t kd v pl) T N (t + 1) := by
  have b1 := tkK_in (T := T) (N := N) (q := plc T N t)
  have b2 := tkV_in (T := T) (N := N) (q := plc T N t)
  have b3 := plc_in (T := T) (N := N) t
  unfold kpM
  refine ⟨?_, fun t' ht' => ?_⟩
  · rw [ld_w ⟨by omega, by omega⟩, if_pos rfl]; omega
  · rw [ld_o (by decide), ld_o (by decide), ld_o (by decide), ld_w ⟨by omega, by omega⟩, ld_o (by decide), ld_o (by decide), ld_w ⟨by omega, by omega⟩, ld_o (by decide), ld_o (by decide), ld_w ⟨by omega, by omega⟩, ld_o (by decide), ld_o (by decide)]
    by_cases e : t' = t
    · subst e
      rw [if_pos rfl, if_pos rfl, if_pos rfl]
      exact ⟨h1, h2, h3⟩
    · rw [if_neg e, if_neg e, if_neg e]
      exact h.2 t' (by omega)
theorem kpM_fr {kd v pl : Int} (hf : Fr [48, 49, 50] [(46, 6)] I0 I) : Fr [48, 49, 50] [(46, 6)] I0 (kpM I t kd v pl) := (((hf.wr rfl).wr rfl).wr rfl).wr rfl
theorem k111 {kd v pl : Int} {K : mM → Prop} (h6 : ld I 46 6 = (t : Int)) (ht : t ≤ 800) (hK : K (bd L (kpM I t kd v pl) R S)) : CallV d 111 [.ref 46, .int (oI kd), .int (oI v), .int (oI pl)] (bd L I R S) K := by
  refine e111 (d := d) ⟨fun _ => ⟨by omega, ?_⟩, fun c => absurd (show ld I 46 6 < 801 by omega) c⟩
  rw [h6, Int.toNat_natCast]; exact hK
theorem l112 {e : Nat} (hd : ∀ j, q ≤ j → j < e → 48 ≤ ld I 45 j ∧ ld I 45 j ≤ 57) (he : e ≤ 800) (h4 : e ≤ q + 4) (h6 : ld I 46 6 = (t : Int)) (ht : t ≤ 800) (hQ : Q none (bd L (kpM I t 2 (nvL (fun j => ld I 45 j) q (e - q)) q) R S)) : ∀ (f j : Nat), j + f = e → q ≤ j → h112_2 (d + 1) L I R S Q q e (nvL (fun j => ld I 45 j) q (j - q)) j := by
  intro f
  induction f with
  | zero =>
    intro j hj hq
    obtain rfl : j = e := by omega
    refine e112_2 (d := d) ⟨⟨by omega, by omega⟩, ⟨by omega, by omega⟩, fun c => absurd c (by omega), fun _ => ⟨fun _ => ⟨by omega, ?_⟩, fun c => absurd (show ld I 46 6 < 801 by omega) c⟩⟩
    rw [h6, Int.toNat_natCast]; exact hQ
  | succ f ih =>
    intro j hj hq
    refine e112_2 (d := d) ⟨⟨by omega, by omega⟩, ⟨by omega, by omega⟩, fun _ => ⟨by omega, ?_⟩, fun c => absurd (show (j : Int) < e by omega) c⟩
    have := ih (j + 1) (by omega) (by omega)
    rw [show j + 1 - q = (j - q) + 1 by omega] at this
    have e1 : nvL (fun j => ld I 45 j) q ((j - q) + 1) = nvL (fun j => ld I 45 j) q (j - q) * 10 + ld I 45 (j : Int).toNat - 48 := by
      show 10 * nvL (fun j => ld I 45 j) q (j - q) + ld I 45 (q + (j - q)) - 48 = _
      rw [show q + (j - q) = j by omega, Int.toNat_natCast]; omega
    rw [e1] at this
    exact this
theorem k112 {e : Nat} {K : mM → Prop} (hd : ∀ j, q ≤ j → j < e → 48 ≤ ld I 45 j ∧ ld I 45 j ≤ 57) (he : e ≤ 800) (hq : q ≤ e) (h6 : ld I 46 6 = (t : Int)) (ht : t ≤ 800) (hK : K (bd L (kpM I t (if e - q ≤ 4 then 2 else 1) (if e - q ≤ 4 then nvL (fun j => ld I 45 j) q (e - q) else 0) q) R S)) : CallV (d + 1) 112 [.ref 46, .ref 45, .int (oI (q : Int)), .int (oI (e : Int))] (bd L I R S) K := by
  refine e112 (d := d) ⟨⟨by omega, by omega⟩, fun c => ⟨fun _ => ⟨by omega, ?_⟩, fun c => absurd (show ld I 46 6 < 801 by omega) c⟩, fun c => ?_⟩
  · rw [if_neg (show ¬ e - q ≤ 4 by omega), if_neg (show ¬ e - q ≤ 4 by omega)] at hK
    rw [h6, Int.toNat_natCast]; exact hK
  · rw [if_pos (show e - q ≤ 4 by omega), if_pos (show e - q ≤ 4 by omega)] at hK
    have := l112 (d := d) (R := R) (S := S) (L := L) (Q := rqV K) hd he (by omega) h6 ht (rqV_of hK) (e - q) q (by omega) (Nat.le_refl _)
    rw [Nat.sub_self] at this
    exact this
/-- all tokens of the text, END the last -/
def TkC (I : mI) (T : Nat → Int) (N nt : Nat) : Prop := nt ≤ N ∧ plc T N nt = N ∧ (∀ t, t < nt → plc T N t < N) ∧ ∀ t, t ≤ nt → ld I 48 t = tkK T N (plc T N t) ∧ ld I 49 t = tkV T N (plc T N t) ∧ ld I 50 t = (plc T N t : Int)
theorem WrC.fr {ws : List Nat} {os : List (Nat × Nat)} (h : WrC I0) (hf : Fr ws os I0 I) (h1 : (ws.contains 2 || os.contains (2, 1)) = false) (h2 : ∀ k, (ws.contains 3 || os.contains (3, k)) = false) : WrC I := ⟨(hf.ld h1).trans h.1, fun j hj => (hf.ld (h2 j)).trans (h.2 j hj)⟩
theorem tkV_0 (h : ¬ (q < N ∧ (48 ≤ T q ∧ T q ≤ 57) ∧ dg T N q - q ≤ 4)) : tkV T N q = 0 := if_neg h
theorem l109_2 {i : Nat} (hW : WrC I) (hT : (fun j => ld I 45 j) = T) (hN : N ≤ 800) (hi : i < N) (hk : CallV (d + 4) 111 [.ref 46, .int (oI (wS T i (lt T N i - i))), .int (oI 0), .int (oI (i : Int))] (bd L I R S) (fun s => ∃ (I14 : mI), s = bd L I14 R S ∧ (h109_1 (d + 5) L I14 R S Q N ((lt T N i : Nat) : Int) (.int (oI ((lt T N i : Nat) : Int)))))) : ∀ (g e : Nat), e + g = N → i + 1 ≤ e → lt T N e = lt T N i → h109_2 (d + 5) L I R S Q N i e := by
  intro g
  have hv : ∀ j, ld I 45 j = T j := fun j => congrFun hT j
  induction g with
  | zero =>
    intro e he h1 h2
    obtain rfl : e = N := by omega
    have e0 : lt T e e = e := lt_none (fun g => absurd g.1 (by omega))
    rw [← h2, e0] at hk
    refine e109_2 (d := d) ⟨⟨by omega, by omega⟩, ⟨by omega, by omega⟩, fun c => absurd c (by omega), fun _ => ⟨i, e - i, hW, rfl, by omega, by omega, ?_⟩⟩
    rw [hT]; exact hk
  | succ g ih =>
    intro e he h1 h2
    refine e109_2 (d := d) ⟨⟨by omega, by omega⟩, ⟨by omega, by omega⟩, fun _ => ⟨⟨by omega, by omega⟩, ?_⟩, fun c => absurd (show (e : Int) < N by omega) c⟩
    rw [Int.toNat_natCast, hv]
    refine ⟨fun c => ?_, fun c => ?_⟩
    · exact ih (e + 1) (by omega) (by omega) ((lt_step ⟨by omega, c⟩).symm.trans h2)
    · have e0 : lt T N e = e := lt_none (fun g => c g.2)
      rw [← h2, e0] at hk
      refine ⟨i, e - i, hW, rfl, by omega, by omega, ?_⟩
      rw [hT]; exact hk
theorem l109_5 {i : Nat} (hT : (fun j => ld I 45 j) = T) (hN : N ≤ 800) (hi : i < N) (hk : CallV (d + 4) 112 [.ref 46, .ref 45, .int (oI (i : Int)), .int (oI ((dg T N i : Nat) : Int))] (bd L I R S) (fun s => ∃ (I14 : mI), s = bd L I14 R S ∧ (h109_1 (d + 5) L I14 R S Q N ((dg T N i : Nat) : Int) (.int (oI ((dg T N i : Nat) : Int)))))) : ∀ (g e : Nat), e + g = N → i + 1 ≤ e → dg T N e = dg T N i → h109_5 (d + 5) L I R S Q N i e := by
  intro g
  have hv : ∀ j, ld I 45 j = T j := fun j => congrFun hT j
  induction g with
  | zero =>
    intro e he h1 h2
    obtain rfl : e = N := by omega
    have e0 : dg T e e = e := dg_none (fun g => absurd g.1 (by omega))
    rw [← h2, e0] at hk
    exact e109_5 (d := d + 4) ⟨⟨by omega, by omega⟩, ⟨by omega, by omega⟩, fun c => absurd c (by omega), fun _ => hk⟩
  | succ g ih =>
    intro e he h1 h2
    refine e109_5 (d := d + 4) ⟨⟨by omega, by omega⟩, ⟨by omega, by omega⟩, fun _ => ⟨⟨by omega, by omega⟩, ?_⟩, fun c => absurd (show (e : Int) < N by omega) c⟩
    rw [Int.toNat_natCast, hv]
    refine ⟨fun c => ?_, fun c => ?_⟩
    · exact ih (e + 1) (by omega) (by omega) ((dg_step ⟨by omega, c⟩).symm.trans h2)
    · have e0 : dg T N e = e := dg_none (fun g => c g.2)
      rw [← h2, e0] at hk
      exact hk
theorem l109 (hW : WrC I0) (hT : (fun j => ld I0 45 j) = T) (hN : N ≤ 800) (hQ : ∀ I1 nt, Fr [48, 49, 50] [(46, 6)] I0 I1 → TkC I1 T N nt → Q none (bd L I1 R S)) : ∀ (f i : Nat) (I : mI) (t : Nat) (w : Value), N ≤ i + f → i ≤ N → bl T N i = plc T N t → t ≤ i → (∀ t', t' < t → plc T N t' < N) → TkU I T N t → Fr [48, 49, 50] [(46, 6)] I0 I → h109_1 (d + 5) L I R S Q N i w := by
  intro f
  induction f with
  | zero =>
    intro i I t w hf hi hb ht hp hU hr
    obtain rfl : i = N := by omega
    have e0 : bl T i i = i := bl_of (fun g => absurd g.1 (by omega))
    rw [e0] at hb
    refine e109_1 (d := d + 4) ⟨⟨by omega, by omega⟩, ⟨by omega, by omega⟩, fun c => absurd c (by omega), fun _ => k111 hU.1 (by omega) ⟨_, rfl, hQ _ t (kpM_fr hr) ⟨ht, hb.symm, hp, ?_⟩⟩⟩
    have hk := hU.keep (kd := 0) (v := 0) (pl := (i : Int)) (by omega) (by rw [← hb]; exact (tk_end.mpr (by omega)).symm) (by rw [← hb]; exact (tkV_0 (by omega)).symm) (by rw [← hb]) hN
    exact fun t' ht' => hk.2 t' (by omega)
  | succ f ih =>
    intro i I t w hf hi hb ht hp hU hr
    by_cases hiN : i = N
    · subst hiN
      have e0 : bl T i i = i := bl_of (fun g => absurd g.1 (by omega))
      rw [e0] at hb
      refine e109_1 (d := d + 4) ⟨⟨by omega, by omega⟩, ⟨by omega, by omega⟩, fun c => absurd c (by omega), fun _ => k111 hU.1 (by omega) ⟨_, rfl, hQ _ t (kpM_fr hr) ⟨ht, hb.symm, hp, ?_⟩⟩⟩
      have hk := hU.keep (kd := 0) (v := 0) (pl := (i : Int)) (by omega) (by rw [← hb]; exact (tk_end.mpr (by omega)).symm) (by rw [← hb]; exact (tkV_0 (by omega)).symm) (by rw [← hb]) hN
      exact fun t' ht' => hk.2 t' (by omega)
    have hiN2 : i < N := by omega
    have hT1 : (fun j => ld I 45 j) = T := by rw [← hT]; funext j; exact hr.ld rfl
    have hv : ∀ j, ld I 45 j = T j := fun j => congrFun hT1 j
    have hW1 : WrC I := hW.fr hr rfl (fun _ => rfl)
    have nx : ∀ (I1 : mI) (e : Nat) (w : Value), bl T N i = i → TkU I1 T N (t + 1) → Fr [48, 49, 50] [(46, 6)] I0 I1 → e = tkE T N i → h109_1 (d + 5) L I1 R S Q N e w := by
      intro I1 e w hbi hU1 hr1 he
      have h9 := tkE_in (T := T) hi
      have h8 := h9.2.2 hiN2
      rw [hbi] at hb
      refine ih e I1 (t + 1) w (by omega) (by omega) ?_ (by omega) (fun t' ht' => ?_) hU1 hr1
      · rw [he, hb]; rfl
      · by_cases c : t' = t
        · rw [c, ← hb]; exact hiN2
        · exact hp t' (by omega)
    refine e109_1 (d := d + 4) ⟨⟨by omega, by omega⟩, ⟨by omega, by omega⟩, fun _ => ⟨⟨by omega, by omega⟩, ?_⟩, fun c => absurd (show (i : Int) < N by omega) c⟩
    rw [Int.toNat_natCast, hv]
    refine ⟨fun c => ?_, fun c => ⟨fun c2 => ?_, fun c2 => ⟨fun c3 => ?_, fun c3 => ⟨fun c4 => ?_, fun c4 => ⟨fun c5 => ?_, fun c5 => ?_⟩⟩⟩⟩⟩
    · have hbi : bl T N i = i := bl_of (by omega)
      have e1 : tkE T N i = lt T N i := by unfold tkE; rw [if_pos hiN2, if_pos c]
      have e2 : tkK T N i = wS T i (lt T N i - i) := by unfold tkK; rw [if_pos hiN2, if_pos c]
      refine l109_2 hW1 hT1 hN hiN2 (k111 hU.1 (by omega) ⟨_, rfl, nx _ _ _ hbi (hU.keep (by omega) ?_ ?_ ?_ hN) (kpM_fr hr) e1.symm⟩) (N - (i + 1)) (i + 1) (by omega) (Nat.le_refl _) (lt_step ⟨hiN2, c⟩).symm
      · rw [← hb, hbi]; exact e2.symm
      · rw [← hb, hbi]; exact (tkV_0 (by omega)).symm
      · rw [← hb, hbi]
    · have hbi : bl T N i = i := bl_of (by omega)
      have e1 : tkE T N i = dg T N i := by unfold tkE; rw [if_pos hiN2, if_neg c, if_pos c2]
      have e2 : tkK T N i = if dg T N i - i ≤ 4 then 2 else 1 := by unfold tkK; rw [if_pos hiN2, if_neg c, if_pos c2]
      have e3 : tkV T N i = if dg T N i - i ≤ 4 then nvL T i (dg T N i - i) else 0 := by
        unfold tkV nv
        by_cases g : dg T N i - i ≤ 4
        · rw [if_pos ⟨hiN2, c2, g⟩, if_pos g, Nat.min_eq_left g]
        · rw [if_neg (fun h => g h.2.2), if_neg g]
      have hdi := dg_in (T := T) hi
      refine l109_5 hT1 hN hiN2 (k112 (d := d + 3) (fun j h1 h2 => ?_) (by omega) hdi.1 hU.1 (by omega) ⟨_, rfl, nx _ _ _ hbi (hU.keep (by omega) ?_ ?_ ?_ hN) (kpM_fr hr) e1.symm⟩) (N - (i + 1)) (i + 1) (by omega) (Nat.le_refl _) (dg_step ⟨hiN2, c2⟩).symm
      · rw [hv]; exact dgk_dig (N - i) i j h1 h2
      · rw [← hb, hbi]; exact e2.symm
      · rw [← hb, hbi, hT1]; exact e3.symm
      · rw [← hb, hbi]
    · exact ih (i + 1) I t _ (by omega) (by omega) ((bl_one ⟨hiN2, Or.inl c3⟩).symm.trans hb) (by omega) hp hU hr
    · exact ih (i + 1) I t _ (by omega) (by omega) ((bl_one ⟨hiN2, Or.inr c4⟩).symm.trans hb) (by omega) hp hU hr
    · have hbi : bl T N i = i := bl_of (by omega)
      have e1 : tkE T N i = i + 1 := by unfold tkE; rw [if_pos hiN2, if_neg c, if_neg c2]
      have e2 : tkK T N i = T i := by unfold tkK; rw [if_pos hiN2, if_neg c, if_neg c2, if_pos c5]
      refine k111 hU.1 (by omega) ⟨_, rfl, nx _ (i + 1) _ hbi (hU.keep (by omega) ?_ ?_ ?_ hN) (kpM_fr hr) e1.symm⟩
      · rw [← hb, hbi]; exact e2.symm
      · rw [← hb, hbi]; exact (tkV_0 (fun g => c2 g.2.1)).symm
      · rw [← hb, hbi]
    · have hbi : bl T N i = i := bl_of (by omega)
      have e1 : tkE T N i = i + 1 := by unfold tkE; rw [if_pos hiN2, if_neg c, if_neg c2]
      have e2 : tkK T N i = 1 := by unfold tkK; rw [if_pos hiN2, if_neg c, if_neg c2, if_neg c5]
      refine k111 hU.1 (by omega) ⟨_, rfl, nx _ (i + 1) _ hbi (hU.keep (by omega) ?_ ?_ ?_ hN) (kpM_fr hr) e1.symm⟩
      · rw [← hb, hbi]; exact e2.symm
      · rw [← hb, hbi]; exact (tkV_0 (fun g => c2 g.2.1)).symm
      · rw [← hb, hbi]
theorem k109 {K : mM → Prop} (hW : WrC I) (hN : N ≤ 800) (hK : ∀ I1 nt, Fr [48, 49, 50] [(46, 6)] I I1 → TkC I1 (fun j => ld I 45 j) N nt → K (bd L I1 R S)) : CallV (d + 5) 109 [.ref 46, .ref 45, .int (oI (N : Int))] (bd L I R S) K := by
  have hf : Fr [48, 49, 50] [(46, 6)] I (u2 I 46 6 (oI 0)) := (Fr.refl _ _ _).wr rfl
  refine e109 (d := d + 5) (l109 (I0 := I) hW rfl hN (fun I1 nt q1 q2 => rqV_of (hK I1 nt q1 q2)) N 0 _ 0 _ (by omega) (Nat.zero_le _) rfl (Nat.le_refl _) (fun t' h => absurd h (by omega)) ⟨?_, fun t' h => absurd h (by omega)⟩ hf)
  rw [ld_w ⟨by omega, by omega⟩, if_pos rfl]; rfl
end
