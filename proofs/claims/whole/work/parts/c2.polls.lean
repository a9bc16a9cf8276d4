def h186_1a87 (d L : Nat) (I : Nat → Nat → Int32) (R : Nat → Nat → Option Nat) (S : List (Nat × Nat)) (Q : Option Value → mM → Prop) (x1 : Int) (x3 : Int) (x4 : Int) (w5 : Value) : Prop := Wp d (gb 186 1) [.ref 85, .int (oI x1), .ref 87, .int (oI x3), .int (oI x4), w5] [] (bd L I R S) Q
set_option maxRecDepth 4000 in
theorem e186_1a87 {d L : Nat} {I : Nat → Nat → Int32} {R : Nat → Nat → Option Nat} {S : List (Nat × Nat)} {Q : Option Value → mM → Prop} {A : aS} (hC : RC R S I A) {x1 : Int} {x3 : Int} {x4 : Int} {w5 : Value} (hE : inR x4 ∧ (((x4 < A 91 58) → (0 ≤ x4 ∧ x4 < 10) ∧ ((0 ≤ x1 ∧ x1 < 10) ∧ (((ld I 87 x4.toNat = ld I 87 x1.toNat) → inR x1 ∧ (((x4 < x1) → ((ld I 87 x1.toNat < ld I 87 x4.toNat) → h186_1a87 d L I R S Q x1 (x3 + 1) (x4 + 1) (.int (oI 1))) ∧ (¬ (ld I 87 x1.toNat < ld I 87 x4.toNat) → h186_1a87 d L I R S Q x1 (x3 + 1) (x4 + 1) (.int (oI 1)))) ∧ (¬ (x4 < x1) → ((ld I 87 x1.toNat < ld I 87 x4.toNat) → h186_1a87 d L I R S Q x1 (x3 + 1) (x4 + 1) (.int (oI 0))) ∧ (¬ (ld I 87 x1.toNat < ld I 87 x4.toNat) → h186_1a87 d L I R S Q x1 x3 (x4 + 1) (.int (oI 0)))))) ∧ (¬ (ld I 87 x4.toNat = ld I 87 x1.toNat) → ((ld I 87 x1.toNat < ld I 87 x4.toNat) → h186_1a87 d L I R S Q x1 (x3 + 1) (x4 + 1) (.int (oI 0))) ∧ (¬ (ld I 87 x1.toNat < ld I 87 x4.toNat) → h186_1a87 d L I R S Q x1 x3 (x4 + 1) (.int (oI 0))))))) ∧ (¬ (x4 < A 91 58) → Q (some (.int (oI x3))) (bd L I R S)))) : h186_1a87 d L I R S Q x1 x3 x4 w5 := by
  unfold h186_1a87
  refine xG gb186.2.1 ?_
  refine s4 (x := x4) rfl ?_
  refine s6 (p := 85) rfl ?_
  refine s50 (v := A 91 58) sh85 (by decide) (by decide) (rdC hC.1 rfl) ?_
  obtain ⟨g1, hE⟩ := hE
  refine s64 g1 (inC hC.1 (a := 85) (k := 1) rfl) (fun c2 => ?_) (fun c2 => ?_)
  · replace hE := hE.1 c2
    refine s6 (p := 87) rfl ?_
    refine s4 (x := x4) rfl ?_
    obtain ⟨g3, hE⟩ := hE
    refine s40 (v := ld I 87 x4.toNat) sh87 g3 rfl (oI_ld _ _ _) ?_
    refine s6 (p := 87) rfl ?_
    refine s4 (x := x1) rfl ?_
    obtain ⟨g4, hE⟩ := hE
    refine s40 (v := ld I 87 x1.toNat) sh87 g4 rfl (oI_ld _ _ _) ?_
    refine s62 (ld_inR _ _ _) (ld_inR _ _ _) (fun c5 => ?_) (fun c5 => ?_)
    · replace hE := hE.1 c5
      refine s4 (x := x4) rfl ?_
      refine s4 (x := x1) rfl ?_
      obtain ⟨g6, hE⟩ := hE
      refine s64 g1 g6 (fun c7 => ?_) (fun c7 => ?_)
      · replace hE := hE.1 c7
        refine s0 ?_
        refine s60 ?_
        refine xG gb186.2.2.2.1 ?_
        refine s7 (ls' := [.ref 85, .int (oI x1), .ref 87, .int (oI x3), .int (oI x4), .int (oI 1)]) (Nat.le_of_ble_eq_true rfl) rfl ?_
        refine s6 (p := 87) rfl ?_
        refine s4 (x := x4) rfl ?_
        refine s40 (v := ld I 87 x4.toNat) sh87 g3 rfl (oI_ld _ _ _) ?_
        refine s6 (p := 87) rfl ?_
        refine s4 (x := x1) rfl ?_
        refine s40 (v := ld I 87 x1.toNat) sh87 g4 rfl (oI_ld _ _ _) ?_
        refine s65 (ld_inR _ _ _) (ld_inR _ _ _) (fun c8 => ?_) (fun c8 => ?_)
        · replace hE := hE.1 c8
          refine xG gb186.2.2.2.2.1 ?_
          refine s10 (x := x3) (ls' := [.ref 85, .int (oI x1), .ref 87, .int (oI (x3 + 1)), .int (oI x4), .int (oI 1)]) rfl rfl ?_
          refine s79 ?_
          refine xG gb186.2.2.2.2.2.1 ?_
          refine s10 (x := x4) (ls' := [.ref 85, .int (oI x1), .ref 87, .int (oI (x3 + 1)), .int (oI (x4 + 1)), .int (oI 1)]) rfl rfl ?_
          refine s60 ?_
          exact hE
        · replace hE := hE.2 c8
          refine s4 (x := 1) rfl ?_
          refine s67 (inRd rfl) (fun c9 => absurd c9 (by decide)) (fun _ => ?_)
          refine s79 ?_
          refine xG gb186.2.2.2.2.1 ?_
          refine s10 (x := x3) (ls' := [.ref 85, .int (oI x1), .ref 87, .int (oI (x3 + 1)), .int (oI x4), .int (oI 1)]) rfl rfl ?_
          refine s79 ?_
          refine xG gb186.2.2.2.2.2.1 ?_
          refine s10 (x := x4) (ls' := [.ref 85, .int (oI x1), .ref 87, .int (oI (x3 + 1)), .int (oI (x4 + 1)), .int (oI 1)]) rfl rfl ?_
          refine s60 ?_
          exact hE
      · replace hE := hE.2 c7
        refine xG gb186.2.2.1 ?_
        refine s0 ?_
        refine s79 ?_
        refine xG gb186.2.2.2.1 ?_
        refine s7 (ls' := [.ref 85, .int (oI x1), .ref 87, .int (oI x3), .int (oI x4), .int (oI 0)]) (Nat.le_of_ble_eq_true rfl) rfl ?_
        refine s6 (p := 87) rfl ?_
        refine s4 (x := x4) rfl ?_
        refine s40 (v := ld I 87 x4.toNat) sh87 g3 rfl (oI_ld _ _ _) ?_
        refine s6 (p := 87) rfl ?_
        refine s4 (x := x1) rfl ?_
        refine s40 (v := ld I 87 x1.toNat) sh87 g4 rfl (oI_ld _ _ _) ?_
        refine s65 (ld_inR _ _ _) (ld_inR _ _ _) (fun c10 => ?_) (fun c10 => ?_)
        · replace hE := hE.1 c10
          refine xG gb186.2.2.2.2.1 ?_
          refine s10 (x := x3) (ls' := [.ref 85, .int (oI x1), .ref 87, .int (oI (x3 + 1)), .int (oI x4), .int (oI 0)]) rfl rfl ?_
          refine s79 ?_
          refine xG gb186.2.2.2.2.2.1 ?_
          refine s10 (x := x4) (ls' := [.ref 85, .int (oI x1), .ref 87, .int (oI (x3 + 1)), .int (oI (x4 + 1)), .int (oI 0)]) rfl rfl ?_
          refine s60 ?_
          exact hE
        · replace hE := hE.2 c10
          refine s4 (x := 0) rfl ?_
          refine s67 (inRd rfl) (fun _ => ?_) (fun c11 => absurd (by decide) c11)
          refine xG gb186.2.2.2.2.2.1 ?_
          refine s10 (x := x4) (ls' := [.ref 85, .int (oI x1), .ref 87, .int (oI x3), .int (oI (x4 + 1)), .int (oI 0)]) rfl rfl ?_
          refine s60 ?_
          exact hE
    · replace hE := hE.2 c5
      refine xG gb186.2.2.1 ?_
      refine s0 ?_
      refine s79 ?_
      refine xG gb186.2.2.2.1 ?_
      refine s7 (ls' := [.ref 85, .int (oI x1), .ref 87, .int (oI x3), .int (oI x4), .int (oI 0)]) (Nat.le_of_ble_eq_true rfl) rfl ?_
      refine s6 (p := 87) rfl ?_
      refine s4 (x := x4) rfl ?_
      refine s40 (v := ld I 87 x4.toNat) sh87 g3 rfl (oI_ld _ _ _) ?_
      refine s6 (p := 87) rfl ?_
      refine s4 (x := x1) rfl ?_
      refine s40 (v := ld I 87 x1.toNat) sh87 g4 rfl (oI_ld _ _ _) ?_
      refine s65 (ld_inR _ _ _) (ld_inR _ _ _) (fun c12 => ?_) (fun c12 => ?_)
      · replace hE := hE.1 c12
        refine xG gb186.2.2.2.2.1 ?_
        refine s10 (x := x3) (ls' := [.ref 85, .int (oI x1), .ref 87, .int (oI (x3 + 1)), .int (oI x4), .int (oI 0)]) rfl rfl ?_
        refine s79 ?_
        refine xG gb186.2.2.2.2.2.1 ?_
        refine s10 (x := x4) (ls' := [.ref 85, .int (oI x1), .ref 87, .int (oI (x3 + 1)), .int (oI (x4 + 1)), .int (oI 0)]) rfl rfl ?_
        refine s60 ?_
        exact hE
      · replace hE := hE.2 c12
        refine s4 (x := 0) rfl ?_
        refine s67 (inRd rfl) (fun _ => ?_) (fun c13 => absurd (by decide) c13)
        refine xG gb186.2.2.2.2.2.1 ?_
        refine s10 (x := x4) (ls' := [.ref 85, .int (oI x1), .ref 87, .int (oI x3), .int (oI (x4 + 1)), .int (oI 0)]) rfl rfl ?_
        refine s60 ?_
        exact hE
  · replace hE := hE.2 c2
    refine xG gb186.2.2.2.2.2.2 ?_
    refine s4 (x := x3) rfl ?_
    refine s80 ?_
    exact hE
set_option maxRecDepth 4000 in
theorem e186a87 {d L : Nat} {I : Nat → Nat → Int32} {R : Nat → Nat → Option Nat} {S : List (Nat × Nat)} {K : Int32 → mM → Prop} {A : aS} (hC : RC R S I A) {x1 : Int} (hE : h186_1a87 d L I R S (rqI K) x1 0 0 mUn) : CallI d 186 [.ref 85, .int (oI x1), .ref 87] (bd L I R S) K := by
  refine cI_of (ls := [.ref 85, .int (oI x1), .ref 87, mUn, mUn, mUn]) rfl ?_
  refine xG gb186.1 ?_
  refine s0 ?_
  refine s7 (ls' := [.ref 85, .int (oI x1), .ref 87, .int (oI 0), mUn, mUn]) (Nat.le_of_ble_eq_true rfl) rfl ?_
  refine s0 ?_
  refine s7 (ls' := [.ref 85, .int (oI x1), .ref 87, .int (oI 0), .int (oI 0), mUn]) (Nat.le_of_ble_eq_true rfl) rfl ?_
  refine s79 ?_
  exact hE
section
variable {d L : Nat} {I I0 : mI} {R : mR} {S : mSh} {Q : Option Value → mM → Prop} {A : aS} {c day known kind half year subj code : Int}
theorem l186a87 {k : Nat} (hV : WfV A) (hC : RC R S I A) (hk : k < 10) (hQ : Q (some (.int (oI (ahL (ld I 87) k (A 91 58).toNat)))) (bd L I R S)) : ∀ (n o : Nat) (w : Value), o + n = (A 91 58).toNat → h186_1a87 d L I R S Q k (ahL (ld I 87) k o) o w := by
  have v1 := hV.2.1
  intro n
  induction n with
  | zero =>
    intro o w ho
    refine e186_1a87 hC ⟨by unfold inR; omega, fun h => by exfalso; omega, fun _ => ?_⟩
    rw [show o = (A 91 58).toNat by omega]; exact hQ
  | succ n ih =>
    intro o w ho
    have ih := fun w => ih (o + 1) w (by omega)
    unfold ahL at ih
    refine e186_1a87 hC ?_
    simp only [Int.toNat_natCast]
    refine ⟨by unfold inR; omega, fun _ => ⟨by omega, by omega, fun c1 => ⟨by unfold inR; omega, fun c2 => ⟨fun c3 => ?_, fun c3 => ?_⟩, fun c2 => ⟨fun c3 => ?_, fun c3 => ?_⟩⟩, fun c1 => ⟨fun c3 => ?_, fun c3 => ?_⟩⟩, fun h => by exfalso; omega⟩
    · rw [if_pos (Or.inl c3)] at ih; exact ih _
    · rw [if_pos (Or.inr ⟨c1, by omega⟩)] at ih; exact ih _
    · rw [if_pos (Or.inl c3)] at ih; exact ih _
    · rw [if_neg (by rintro (h | ⟨h, h'⟩); exact c3 h; omega), Int.add_zero] at ih; exact ih _
    · rw [if_pos (Or.inl c3)] at ih; exact ih _
    · rw [if_neg (by rintro (h | ⟨h, h'⟩); exact c3 h; exact c1 h), Int.add_zero] at ih; exact ih _
theorem k186a87 {K : Int32 → mM → Prop} {x : Int} (hC : RC R S I A) (hV : WfV A) (hx : 0 ≤ x ∧ x < 10) (hK : K (oI (ahL (ld I 87) x.toNat (A 91 58).toNat)) (bd L I R S)) : CallI d 186 [.ref 85, .int (oI x), .ref 87] (bd L I R S) K := by
  have q := l186a87 (d := d) (L := L) (R := R) (S := S) (Q := rqI K) (k := x.toNat) hV hC (by omega) (rqI_of hK) (A 91 58).toNat 0 mUn (by omega)
  rw [show ((x.toNat : Nat) : Int) = x by omega] at q
  exact e186a87 hC q
end
def h186_1a88 (d L : Nat) (I : Nat → Nat → Int32) (R : Nat → Nat → Option Nat) (S : List (Nat × Nat)) (Q : Option Value → mM → Prop) (x1 : Int) (x3 : Int) (x4 : Int) (w5 : Value) : Prop := Wp d (gb 186 1) [.ref 85, .int (oI x1), .ref 88, .int (oI x3), .int (oI x4), w5] [] (bd L I R S) Q
set_option maxRecDepth 4000 in
theorem e186_1a88 {d L : Nat} {I : Nat → Nat → Int32} {R : Nat → Nat → Option Nat} {S : List (Nat × Nat)} {Q : Option Value → mM → Prop} {A : aS} (hC : RC R S I A) {x1 : Int} {x3 : Int} {x4 : Int} {w5 : Value} (hE : inR x4 ∧ (((x4 < A 91 58) → (0 ≤ x4 ∧ x4 < 10) ∧ ((0 ≤ x1 ∧ x1 < 10) ∧ (((ld I 88 x4.toNat = ld I 88 x1.toNat) → inR x1 ∧ (((x4 < x1) → ((ld I 88 x1.toNat < ld I 88 x4.toNat) → h186_1a88 d L I R S Q x1 (x3 + 1) (x4 + 1) (.int (oI 1))) ∧ (¬ (ld I 88 x1.toNat < ld I 88 x4.toNat) → h186_1a88 d L I R S Q x1 (x3 + 1) (x4 + 1) (.int (oI 1)))) ∧ (¬ (x4 < x1) → ((ld I 88 x1.toNat < ld I 88 x4.toNat) → h186_1a88 d L I R S Q x1 (x3 + 1) (x4 + 1) (.int (oI 0))) ∧ (¬ (ld I 88 x1.toNat < ld I 88 x4.toNat) → h186_1a88 d L I R S Q x1 x3 (x4 + 1) (.int (oI 0)))))) ∧ (¬ (ld I 88 x4.toNat = ld I 88 x1.toNat) → ((ld I 88 x1.toNat < ld I 88 x4.toNat) → h186_1a88 d L I R S Q x1 (x3 + 1) (x4 + 1) (.int (oI 0))) ∧ (¬ (ld I 88 x1.toNat < ld I 88 x4.toNat) → h186_1a88 d L I R S Q x1 x3 (x4 + 1) (.int (oI 0))))))) ∧ (¬ (x4 < A 91 58) → Q (some (.int (oI x3))) (bd L I R S)))) : h186_1a88 d L I R S Q x1 x3 x4 w5 := by
  unfold h186_1a88
  refine xG gb186.2.1 ?_
  refine s4 (x := x4) rfl ?_
  refine s6 (p := 85) rfl ?_
  refine s50 (v := A 91 58) sh85 (by decide) (by decide) (rdC hC.1 rfl) ?_
  obtain ⟨g1, hE⟩ := hE
  refine s64 g1 (inC hC.1 (a := 85) (k := 1) rfl) (fun c2 => ?_) (fun c2 => ?_)
  · replace hE := hE.1 c2
    refine s6 (p := 88) rfl ?_
    refine s4 (x := x4) rfl ?_
    obtain ⟨g3, hE⟩ := hE
    refine s40 (v := ld I 88 x4.toNat) sh88 g3 rfl (oI_ld _ _ _) ?_
    refine s6 (p := 88) rfl ?_
    refine s4 (x := x1) rfl ?_
    obtain ⟨g4, hE⟩ := hE
    refine s40 (v := ld I 88 x1.toNat) sh88 g4 rfl (oI_ld _ _ _) ?_
    refine s62 (ld_inR _ _ _) (ld_inR _ _ _) (fun c5 => ?_) (fun c5 => ?_)
    · replace hE := hE.1 c5
      refine s4 (x := x4) rfl ?_
      refine s4 (x := x1) rfl ?_
      obtain ⟨g6, hE⟩ := hE
      refine s64 g1 g6 (fun c7 => ?_) (fun c7 => ?_)
      · replace hE := hE.1 c7
        refine s0 ?_
        refine s60 ?_
        refine xG gb186.2.2.2.1 ?_
        refine s7 (ls' := [.ref 85, .int (oI x1), .ref 88, .int (oI x3), .int (oI x4), .int (oI 1)]) (Nat.le_of_ble_eq_true rfl) rfl ?_
        refine s6 (p := 88) rfl ?_
        refine s4 (x := x4) rfl ?_
        refine s40 (v := ld I 88 x4.toNat) sh88 g3 rfl (oI_ld _ _ _) ?_
        refine s6 (p := 88) rfl ?_
        refine s4 (x := x1) rfl ?_
        refine s40 (v := ld I 88 x1.toNat) sh88 g4 rfl (oI_ld _ _ _) ?_
        refine s65 (ld_inR _ _ _) (ld_inR _ _ _) (fun c8 => ?_) (fun c8 => ?_)
        · replace hE := hE.1 c8
          refine xG gb186.2.2.2.2.1 ?_
          refine s10 (x := x3) (ls' := [.ref 85, .int (oI x1), .ref 88, .int (oI (x3 + 1)), .int (oI x4), .int (oI 1)]) rfl rfl ?_
          refine s79 ?_
          refine xG gb186.2.2.2.2.2.1 ?_
          refine s10 (x := x4) (ls' := [.ref 85, .int (oI x1), .ref 88, .int (oI (x3 + 1)), .int (oI (x4 + 1)), .int (oI 1)]) rfl rfl ?_
          refine s60 ?_
          exact hE
        · replace hE := hE.2 c8
          refine s4 (x := 1) rfl ?_
          refine s67 (inRd rfl) (fun c9 => absurd c9 (by decide)) (fun _ => ?_)
          refine s79 ?_
          refine xG gb186.2.2.2.2.1 ?_
          refine s10 (x := x3) (ls' := [.ref 85, .int (oI x1), .ref 88, .int (oI (x3 + 1)), .int (oI x4), .int (oI 1)]) rfl rfl ?_
          refine s79 ?_
          refine xG gb186.2.2.2.2.2.1 ?_
          refine s10 (x := x4) (ls' := [.ref 85, .int (oI x1), .ref 88, .int (oI (x3 + 1)), .int (oI (x4 + 1)), .int (oI 1)]) rfl rfl ?_
          refine s60 ?_
          exact hE
      · replace hE := hE.2 c7
        refine xG gb186.2.2.1 ?_
        refine s0 ?_
        refine s79 ?_
        refine xG gb186.2.2.2.1 ?_
        refine s7 (ls' := [.ref 85, .int (oI x1), .ref 88, .int (oI x3), .int (oI x4), .int (oI 0)]) (Nat.le_of_ble_eq_true rfl) rfl ?_
        refine s6 (p := 88) rfl ?_
        refine s4 (x := x4) rfl ?_
        refine s40 (v := ld I 88 x4.toNat) sh88 g3 rfl (oI_ld _ _ _) ?_
        refine s6 (p := 88) rfl ?_
        refine s4 (x := x1) rfl ?_
        refine s40 (v := ld I 88 x1.toNat) sh88 g4 rfl (oI_ld _ _ _) ?_
        refine s65 (ld_inR _ _ _) (ld_inR _ _ _) (fun c10 => ?_) (fun c10 => ?_)
        · replace hE := hE.1 c10
          refine xG gb186.2.2.2.2.1 ?_
          refine s10 (x := x3) (ls' := [.ref 85, .int (oI x1), .ref 88, .int (oI (x3 + 1)), .int (oI x4), .int (oI 0)]) rfl rfl ?_
          refine s79 ?_
          refine xG gb186.2.2.2.2.2.1 ?_
          refine s10 (x := x4) (ls' := [.ref 85, .int (oI x1), .ref 88, .int (oI (x3 + 1)), .int (oI (x4 + 1)), .int (oI 0)]) rfl rfl ?_
          refine s60 ?_
          exact hE
        · replace hE := hE.2 c10
          refine s4 (x := 0) rfl ?_
          refine s67 (inRd rfl) (fun _ => ?_) (fun c11 => absurd (by decide) c11)
          refine xG gb186.2.2.2.2.2.1 ?_
          refine s10 (x := x4) (ls' := [.ref 85, .int (oI x1), .ref 88, .int (oI x3), .int (oI (x4 + 1)), .int (oI 0)]) rfl rfl ?_
          refine s60 ?_
          exact hE
    · replace hE := hE.2 c5
      refine xG gb186.2.2.1 ?_
      refine s0 ?_
      refine s79 ?_
      refine xG gb186.2.2.2.1 ?_
      refine s7 (ls' := [.ref 85, .int (oI x1), .ref 88, .int (oI x3), .int (oI x4), .int (oI 0)]) (Nat.le_of_ble_eq_true rfl) rfl ?_
      refine s6 (p := 88) rfl ?_
      refine s4 (x := x4) rfl ?_
      refine s40 (v := ld I 88 x4.toNat) sh88 g3 rfl (oI_ld _ _ _) ?_
      refine s6 (p := 88) rfl ?_
      refine s4 (x := x1) rfl ?_
      refine s40 (v := ld I 88 x1.toNat) sh88 g4 rfl (oI_ld _ _ _) ?_
      refine s65 (ld_inR _ _ _) (ld_inR _ _ _) (fun c12 => ?_) (fun c12 => ?_)
      · replace hE := hE.1 c12
        refine xG gb186.2.2.2.2.1 ?_
        refine s10 (x := x3) (ls' := [.ref 85, .int (oI x1), .ref 88, .int (oI (x3 + 1)), .int (oI x4), .int (oI 0)]) rfl rfl ?_
        refine s79 ?_
        refine xG gb186.2.2.2.2.2.1 ?_
        refine s10 (x := x4) (ls' := [.ref 85, .int (oI x1), .ref 88, .int (oI (x3 + 1)), .int (oI (x4 + 1)), .int (oI 0)]) rfl rfl ?_
        refine s60 ?_
        exact hE
      · replace hE := hE.2 c12
        refine s4 (x := 0) rfl ?_
        refine s67 (inRd rfl) (fun _ => ?_) (fun c13 => absurd (by decide) c13)
        refine xG gb186.2.2.2.2.2.1 ?_
        refine s10 (x := x4) (ls' := [.ref 85, .int (oI x1), .ref 88, .int (oI x3), .int (oI (x4 + 1)), .int (oI 0)]) rfl rfl ?_
        refine s60 ?_
        exact hE
  · replace hE := hE.2 c2
    refine xG gb186.2.2.2.2.2.2 ?_
    refine s4 (x := x3) rfl ?_
    refine s80 ?_
    exact hE
set_option maxRecDepth 4000 in
theorem e186a88 {d L : Nat} {I : Nat → Nat → Int32} {R : Nat → Nat → Option Nat} {S : List (Nat × Nat)} {K : Int32 → mM → Prop} {A : aS} (hC : RC R S I A) {x1 : Int} (hE : h186_1a88 d L I R S (rqI K) x1 0 0 mUn) : CallI d 186 [.ref 85, .int (oI x1), .ref 88] (bd L I R S) K := by
  refine cI_of (ls := [.ref 85, .int (oI x1), .ref 88, mUn, mUn, mUn]) rfl ?_
  refine xG gb186.1 ?_
  refine s0 ?_
  refine s7 (ls' := [.ref 85, .int (oI x1), .ref 88, .int (oI 0), mUn, mUn]) (Nat.le_of_ble_eq_true rfl) rfl ?_
  refine s0 ?_
  refine s7 (ls' := [.ref 85, .int (oI x1), .ref 88, .int (oI 0), .int (oI 0), mUn]) (Nat.le_of_ble_eq_true rfl) rfl ?_
  refine s79 ?_
  exact hE
section
variable {d L : Nat} {I I0 : mI} {R : mR} {S : mSh} {Q : Option Value → mM → Prop} {A : aS} {c day known kind half year subj code : Int}
theorem l186a88 {k : Nat} (hV : WfV A) (hC : RC R S I A) (hk : k < 10) (hQ : Q (some (.int (oI (ahL (ld I 88) k (A 91 58).toNat)))) (bd L I R S)) : ∀ (n o : Nat) (w : Value), o + n = (A 91 58).toNat → h186_1a88 d L I R S Q k (ahL (ld I 88) k o) o w := by
  have v1 := hV.2.1
  intro n
  induction n with
  | zero =>
    intro o w ho
    refine e186_1a88 hC ⟨by unfold inR; omega, fun h => by exfalso; omega, fun _ => ?_⟩
    rw [show o = (A 91 58).toNat by omega]; exact hQ
  | succ n ih =>
    intro o w ho
    have ih := fun w => ih (o + 1) w (by omega)
    unfold ahL at ih
    refine e186_1a88 hC ?_
    simp only [Int.toNat_natCast]
    refine ⟨by unfold inR; omega, fun _ => ⟨by omega, by omega, fun c1 => ⟨by unfold inR; omega, fun c2 => ⟨fun c3 => ?_, fun c3 => ?_⟩, fun c2 => ⟨fun c3 => ?_, fun c3 => ?_⟩⟩, fun c1 => ⟨fun c3 => ?_, fun c3 => ?_⟩⟩, fun h => by exfalso; omega⟩
    · rw [if_pos (Or.inl c3)] at ih; exact ih _
    · rw [if_pos (Or.inr ⟨c1, by omega⟩)] at ih; exact ih _
    · rw [if_pos (Or.inl c3)] at ih; exact ih _
    · rw [if_neg (by rintro (h | ⟨h, h'⟩); exact c3 h; omega), Int.add_zero] at ih; exact ih _
    · rw [if_pos (Or.inl c3)] at ih; exact ih _
    · rw [if_neg (by rintro (h | ⟨h, h'⟩); exact c3 h; exact c1 h), Int.add_zero] at ih; exact ih _
theorem k186a88 {K : Int32 → mM → Prop} {x : Int} (hC : RC R S I A) (hV : WfV A) (hx : 0 ≤ x ∧ x < 10) (hK : K (oI (ahL (ld I 88) x.toNat (A 91 58).toNat)) (bd L I R S)) : CallI d 186 [.ref 85, .int (oI x), .ref 88] (bd L I R S) K := by
  have q := l186a88 (d := d) (L := L) (R := R) (S := S) (Q := rqI K) (k := x.toNat) hV hC (by omega) (rqI_of hK) (A 91 58).toNat 0 mUn (by omega)
  rw [show ((x.toNat : Nat) : Int) = x by omega] at q
  exact e186a88 hC q
end
def h188_1 (d L : Nat) (I : Nat → Nat → Int32) (R : Nat → Nat → Option Nat) (S : List (Nat × Nat)) (Q : Option Value → mM → Prop) (x1 : Int) (x2 : Int) (x3 : Int) (x4 : Int) (x5 : Int) : Prop := Wp d (gb 188 1) [.ref 85, .int (oI x1), .int (oI x2), .int (oI x3), .int (oI x4), .int (oI x5)] [] (bd L I R S) Q
def h188_8 (d L : Nat) (I : Nat → Nat → Int32) (R : Nat → Nat → Option Nat) (S : List (Nat × Nat)) (Q : Option Value → mM → Prop) (x1 : Int) (x2 : Int) (w3 : Value) (x4 : Int) (x5 : Int) : Prop := Wp d (gb 188 8) [.ref 85, .int (oI x1), .int (oI x2), w3, .int (oI x4), .int (oI x5)] [] (bd L I R S) Q
set_option maxRecDepth 4000 in
theorem e188_1 {d L : Nat} {I : Nat → Nat → Int32} {R : Nat → Nat → Option Nat} {S : List (Nat × Nat)} {Q : Option Value → mM → Prop} {A : aS} (hC : RC R S I A) {x1 : Int} {x2 : Int} {x3 : Int} {x4 : Int} {x5 : Int} (hE : inR x5 ∧ (((x5 < A 91 58) → (0 ≤ x5 ∧ x5 < 10) ∧ (inR x1 ∧ (((A 133 x5.toNat = x1) → inR x4 ∧ (inR x2 ∧ (((x4 < x2) → inR x3 ∧ (0 < x2 ∧ (0 < x2 ∧ (inR (x3 - Int.tdiv x3 x2 * x2) ∧ (h188_1 d L (u2 (u2 I 88 x5.toNat (oI (ld I 87 x5.toNat))) 88 x5.toNat (oI (Int.tdiv x3 x2 + (if x4 < x3 - Int.tdiv x3 x2 * x2 then (1 : Int) else 0)))) R S Q x1 x2 x3 (x4 + 1) (x5 + 1)))))) ∧ (¬ (x4 < x2) → h188_1 d L (u2 (u2 I 88 x5.toNat (oI (ld I 87 x5.toNat))) 88 x5.toNat (oI 0)) R S Q x1 x2 x3 (x4 + 1) (x5 + 1))))) ∧ (¬ (A 133 x5.toNat = x1) → h188_1 d L (u2 I 88 x5.toNat (oI (ld I 87 x5.toNat))) R S Q x1 x2 x3 x4 (x5 + 1))))) ∧ (¬ (x5 < A 91 58) → h188_8 d L I R S Q x1 x2 (.int (oI x3)) 0 0))) : h188_1 d L I R S Q x1 x2 x3 x4 x5 := by
  unfold h188_1
  refine xG gb188.2.1 ?_
  refine s4 (x := x5) rfl ?_
  refine s6 (p := 85) rfl ?_
  refine s50 (v := A 91 58) sh85 (by decide) (by decide) (rdC hC.1 rfl) ?_
  obtain ⟨g1, hE⟩ := hE
  refine s64 g1 (inC hC.1 (a := 85) (k := 1) rfl) (fun c2 => ?_) (fun c2 => ?_)
  · replace hE := hE.1 c2
    refine s6 (p := 85) rfl ?_
    refine s51 sh85 (by decide) (by decide) rf85_5 ?_
    refine s4 (x := x5) rfl ?_
    refine s6 (p := 85) rfl ?_
    refine s51 sh85 (by decide) (by decide) rf85_4 ?_
    refine s4 (x := x5) rfl ?_
    obtain ⟨g3, hE⟩ := hE
    refine s40 (v := ld I 87 x5.toNat) sh87 g3 rfl (oI_ld _ _ _) ?_
    refine s44 sh88 (by decide) g3 rfl ?_
    refine s6 (p := 85) rfl ?_
    refine s51 sh85 (by decide) (by decide) rf85_3 ?_
    refine s4 (x := x5) rfl ?_
    refine s40 (v := A 133 x5.toNat) sh86 g3 rfl ((v2_ne (by decide)).trans (rdC hC.1 rfl)) ?_
    refine s4 (x := x1) rfl ?_
    obtain ⟨g4, hE⟩ := hE
    refine s62 (inC hC.1 (a := 86) (k := x5.toNat) rfl) g4 (fun c5 => ?_) (fun c5 => ?_)
    · replace hE := hE.1 c5
      refine s6 (p := 85) rfl ?_
      refine s51 sh85 (by decide) (by decide) rf85_5 ?_
      refine s4 (x := x5) rfl ?_
      refine s4 (x := x4) rfl ?_
      refine s4 (x := x2) rfl ?_
      obtain ⟨g6, hE⟩ := hE
      obtain ⟨g7, hE⟩ := hE
      refine s64 g6 g7 (fun c8 => ?_) (fun c8 => ?_)
      · replace hE := hE.1 c8
        refine s4 (x := x3) rfl ?_
        refine s4 (x := x2) rfl ?_
        obtain ⟨g9, hE⟩ := hE
        obtain ⟨g10, hE⟩ := hE
        refine s19 g9 ⟨g7, g10⟩ ?_
        refine s4 (x := x4) rfl ?_
        refine s4 (x := x3) rfl ?_
        refine s4 (x := x2) rfl ?_
        obtain ⟨g11, hE⟩ := hE
        refine s20 g9 ⟨g7, g11⟩ ?_
        obtain ⟨g12, hE⟩ := hE
        refine s64j (j := 3) (v1 := 1) (v0 := 0) g6 g12 (fun hJ => ?_) (fun hJ => ?_) ?_
        · exact s0 (s60 hJ)
        · refine xG gb188.2.2.1 ?_
          exact s0 (s79 hJ)
        refine xG gb188.2.2.2.1 ?_
        refine s16 ?_
        refine s60 ?_
        refine xG gb188.2.2.2.2.2.1 ?_
        refine s44 sh88 (by decide) g3 rfl ?_
        refine s10 (x := x4) (ls' := [.ref 85, .int (oI x1), .int (oI x2), .int (oI x3), .int (oI (x4 + 1)), .int (oI x5)]) rfl rfl ?_
        refine s79 ?_
        refine xG gb188.2.2.2.2.2.2.1 ?_
        refine s10 (x := x5) (ls' := [.ref 85, .int (oI x1), .int (oI x2), .int (oI x3), .int (oI (x4 + 1)), .int (oI (x5 + 1))]) rfl rfl ?_
        refine s60 ?_
        exact hE
      · replace hE := hE.2 c8
        refine xG gb188.2.2.2.2.1 ?_
        refine s0 ?_
        refine s79 ?_
        refine xG gb188.2.2.2.2.2.1 ?_
        refine s44 sh88 (by decide) g3 rfl ?_
        refine s10 (x := x4) (ls' := [.ref 85, .int (oI x1), .int (oI x2), .int (oI x3), .int (oI (x4 + 1)), .int (oI x5)]) rfl rfl ?_
        refine s79 ?_
        refine xG gb188.2.2.2.2.2.2.1 ?_
        refine s10 (x := x5) (ls' := [.ref 85, .int (oI x1), .int (oI x2), .int (oI x3), .int (oI (x4 + 1)), .int (oI (x5 + 1))]) rfl rfl ?_
        refine s60 ?_
        exact hE
    · replace hE := hE.2 c5
      refine xG gb188.2.2.2.2.2.2.1 ?_
      refine s10 (x := x5) (ls' := [.ref 85, .int (oI x1), .int (oI x2), .int (oI x3), .int (oI x4), .int (oI (x5 + 1))]) rfl rfl ?_
      refine s60 ?_
      exact hE
  · replace hE := hE.2 c2
    refine xG gb188.2.2.2.2.2.2.2.1 ?_
    refine s0 ?_
    refine s7 (ls' := [.ref 85, .int (oI x1), .int (oI x2), .int (oI x3), .int (oI 0), .int (oI x5)]) (Nat.le_of_ble_eq_true rfl) rfl ?_
    refine s0 ?_
    refine s7 (ls' := [.ref 85, .int (oI x1), .int (oI x2), .int (oI x3), .int (oI 0), .int (oI 0)]) (Nat.le_of_ble_eq_true rfl) rfl ?_
    refine s79 ?_
    exact hE
set_option maxRecDepth 4000 in
theorem e188_8 {d L : Nat} {I : Nat → Nat → Int32} {R : Nat → Nat → Option Nat} {S : List (Nat × Nat)} {Q : Option Value → mM → Prop} {A : aS} (hC : RC R S I A) {x1 : Int} {x2 : Int} {w3 : Value} {x4 : Int} {x5 : Int} (hE : inR x5 ∧ (((x5 < A 91 58) → inR x4 ∧ (inR x2 ∧ (((x4 < x2) → (0 ≤ x5 ∧ x5 < 10) ∧ (inR x1 ∧ (((A 133 x5.toNat = x1) → WfV A ∧ ((0 ≤ x5 ∧ x5 < 10) ∧ (inR (ahL (ld I 88) x5.toNat (A 91 58).toNat) ∧ (((ahL (ld I 88) x5.toNat (A 91 58).toNat < A 91 57) → h188_8 (d + 1) L I R S Q x1 x2 (mNl w3) (x4 + 1) (x5 + 1)) ∧ (¬ (ahL (ld I 88) x5.toNat (A 91 58).toNat < A 91 57) → Q (some (.int (oI 0))) (bd L I R S)))))) ∧ (¬ (A 133 x5.toNat = x1) → h188_8 (d + 1) L I R S Q x1 x2 w3 x4 (x5 + 1))))) ∧ (¬ (x4 < x2) → Q (some (.int (oI 1))) (bd L I R S))))) ∧ (¬ (x5 < A 91 58) → Q (some (.int (oI 1))) (bd L I R S)))) : h188_8 (d + 1) L I R S Q x1 x2 w3 x4 x5 := by
  unfold h188_8
  refine xG gb188.2.2.2.2.2.2.2.2.1 ?_
  refine s4 (x := x5) rfl ?_
  refine s6 (p := 85) rfl ?_
  refine s50 (v := A 91 58) sh85 (by decide) (by decide) (rdC hC.1 rfl) ?_
  obtain ⟨g1, hE⟩ := hE
  refine s64 g1 (inC hC.1 (a := 85) (k := 1) rfl) (fun c2 => ?_) (fun c2 => ?_)
  · replace hE := hE.1 c2
    refine s4 (x := x4) rfl ?_
    refine s4 (x := x2) rfl ?_
    obtain ⟨g3, hE⟩ := hE
    obtain ⟨g4, hE⟩ := hE
    refine s64 g3 g4 (fun c5 => ?_) (fun c5 => ?_)
    · replace hE := hE.1 c5
      refine s6 (p := 85) rfl ?_
      refine s51 sh85 (by decide) (by decide) rf85_3 ?_
      refine s4 (x := x5) rfl ?_
      obtain ⟨g6, hE⟩ := hE
      refine s40 (v := A 133 x5.toNat) sh86 g6 rfl (rdC hC.1 rfl) ?_
      refine s4 (x := x1) rfl ?_
      obtain ⟨g7, hE⟩ := hE
      refine s62 (inC hC.1 (a := 86) (k := x5.toNat) rfl) g7 (fun c8 => ?_) (fun c8 => ?_)
      · replace hE := hE.1 c8
        refine s10 (x := x4) (ls' := [.ref 85, .int (oI x1), .int (oI x2), mNl w3, .int (oI (x4 + 1)), .int (oI x5)]) rfl rfl ?_
        refine s6 (p := 85) rfl ?_
        refine s4 (x := x5) rfl ?_
        refine s6 (p := 85) rfl ?_
        refine s51 sh85 (by decide) (by decide) rf85_5 ?_
        obtain ⟨g9, hE⟩ := hE
        obtain ⟨g10, hE⟩ := hE
        refine sI rc186 rfl (Nat.le_of_ble_eq_true rfl) ?_
        refine k186a88 hC g9 g10 ?_
        refine s6 (p := 85) rfl ?_
        refine s50 (v := A 91 57) sh85 (by decide) (by decide) (rdC hC.1 rfl) ?_
        obtain ⟨g11, hE⟩ := hE
        refine s63 g11 (inC hC.1 (a := 85) (k := 0) rfl) (fun c12 => ?_) (fun c12 => ?_)
        · replace hE := hE.1 c12
          refine xG gb188.2.2.2.2.2.2.2.2.2.1 ?_
          refine s10 (x := x5) (ls' := [.ref 85, .int (oI x1), .int (oI x2), mNl w3, .int (oI (x4 + 1)), .int (oI (x5 + 1))]) rfl rfl ?_
          refine s60 ?_
          exact hE
        · replace hE := hE.2 c12
          refine s0 ?_
          refine s84 (by decide) ?_
          exact hE
      · replace hE := hE.2 c8
        refine xG gb188.2.2.2.2.2.2.2.2.2.1 ?_
        refine s10 (x := x5) (ls' := [.ref 85, .int (oI x1), .int (oI x2), w3, .int (oI x4), .int (oI (x5 + 1))]) rfl rfl ?_
        refine s60 ?_
        exact hE
    · replace hE := hE.2 c5
      refine xG gb188.2.2.2.2.2.2.2.2.2.2 ?_
      refine s0 ?_
      refine s84 (by decide) ?_
      exact hE
  · replace hE := hE.2 c2
    refine xG gb188.2.2.2.2.2.2.2.2.2.2 ?_
    refine s0 ?_
    refine s84 (by decide) ?_
    exact hE
set_option maxRecDepth 4000 in
theorem e188 {d L : Nat} {I : Nat → Nat → Int32} {R : Nat → Nat → Option Nat} {S : List (Nat × Nat)} {K : Int32 → mM → Prop} {A : aS} (hC : RC R S I A) {x1 : Int} {x2 : Int} {x3 : Int} (hE : h188_1 d L I R S (rqI K) x1 x2 x3 0 0) : CallI d 188 [.ref 85, .int (oI x1), .int (oI x2), .int (oI x3)] (bd L I R S) K := by
  refine cI_of (ls := [.ref 85, .int (oI x1), .int (oI x2), .int (oI x3), mUn, mUn]) rfl ?_
  refine xG gb188.1 ?_
  refine s0 ?_
  refine s7 (ls' := [.ref 85, .int (oI x1), .int (oI x2), .int (oI x3), .int (oI 0), mUn]) (Nat.le_of_ble_eq_true rfl) rfl ?_
  refine s0 ?_
  refine s7 (ls' := [.ref 85, .int (oI x1), .int (oI x2), .int (oI x3), .int (oI 0), .int (oI 0)]) (Nat.le_of_ble_eq_true rfl) rfl ?_
  refine s79 ?_
  exact hE
section
variable {d L : Nat} {I I0 : mI} {R : mR} {S : mSh} {Q : Option Value → mM → Prop} {A : aS} {c day known kind half year subj code : Int}
theorem vtL_up (hV : WfV A) {c : Nat} (hc : c < 10) : ∀ n, (A 91 59).toNat + n ≤ 60 → vtL A c ((A 91 59).toNat + n) = vtS A c
  | 0, _ => rfl
  | n + 1, h => by
    have ih := vtL_up hV hc n (by omega)
    show vtL A c ((A 91 59).toNat + n) + A 134 (10 * ((A 91 59).toNat + n) + c) = _
    rw [ih, hV.2.2.2.2.2.1 ((A 91 59).toNat + n) c (by omega) hc (Or.inl (by omega)), Int.add_zero]
theorem vt60 (hV : WfV A) {c : Nat} (hc : c < 10) : vtL A c 60 = vtS A c := by
  have h := hV.2.2.1
  have := vtL_up hV hc (60 - (A 91 59).toNat) (by omega)
  rwa [show (A 91 59).toNat + (60 - (A 91 59).toNat) = 60 by omega] at this
theorem RC.sums (hC : RC R S I A) (hV : WfV A) {c : Nat} (hc : c < 10) : ld I 87 c = vtS A c := (hC.2.2.2.2.1.1 c hc).trans (vt60 hV hc)
theorem nkL_succ {q : Int} {c : Nat} : nkL A q (c + 1) = nkL A q c + (if A 133 c = q then 1 else 0) := rfl
theorem nkL_mono {q : Int} {c : Nat} : ∀ n, nkL A q c ≤ nkL A q (c + n)
  | 0 => Int.le_refl _
  | n + 1 => by
    have := nkL_mono (q := q) (c := c) n
    show nkL A q c ≤ nkL A q (c + n + 1)
    rw [nkL_succ]
    split <;> omega
theorem suL_up {q s : Int} : ∀ {m n : Nat}, n ≤ m → suL' A q s n = false → suL' A q s m = false
  | 0, n, h, hb => by rw [show n = 0 by omega] at hb; exact hb
  | m + 1, n, h, hb => by
    by_cases e : n = m + 1
    · rw [← e]; exact hb
    · show (suL' A q s m && _) = false
      rw [suL_up (show n ≤ m by omega) hb, Bool.false_and]
theorem suL_rest {q s : Int} {c : Nat} (h1 : suL' A q s c = true) (h2 : s ≤ nkL A q c) : ∀ n, suL' A q s (c + n) = true
  | 0 => h1
  | n + 1 => by
    have ih := suL_rest h1 h2 n
    have hm := nkL_mono (A := A) (q := q) (c := c) n
    show (suL' A q s (c + n) && (!decide (A 133 (c + n) = q ∧ nkL A q (c + n) < s) || decide (ahL (tvS A q s) (c + n) (A 91 58).toNat < A 91 57))) = true
    rw [ih, decide_eq_false (by omega)]; rfl
theorem l188_8 {q s : Int} (hV : WfV A) (hs : 1 ≤ s ∧ s ≤ 10) (hq : inR q) (hC : RC R S I A) (hv : ∀ j : Nat, j < (A 91 58).toNat → ld I 88 j = tvS A q s j) (hQ : Q (some (.int (oI (bI (suB A q s))))) (bd L I R S)) : ∀ (n k : Nat) (w3 : Value), k + n = (A 91 58).toNat → suL' A q s k = true → h188_8 (d + 1) L I R S Q q s w3 (nkL A q k) k := by
  have v1 := hV.2.1
  have v0 := hV.1
  intro n
  induction n with
  | zero =>
    intro k w3 hk hu
    have e : suB A q s = true := by unfold suB; rw [show (A 91 58).toNat = k by omega]; exact hu
    rw [e] at hQ
    exact e188_8 (d := d) hC ⟨by unfold inR; omega, fun h => by exfalso; omega, fun _ => hQ⟩
  | succ n ih =>
    intro k w3 hk hu
    have nk := nkL_in (A := A) (q := q) k
    have e : suL' A q s (k + 1) = (suL' A q s k && (!decide (A 133 k = q ∧ nkL A q k < s) || decide (ahL (tvS A q s) k (A 91 58).toNat < A 91 57))) := rfl
    have ea : ahL (ld I 88) k (A 91 58).toNat = ahL (tvS A q s) k (A 91 58).toNat := ahL_eq _ (fun j hj => hv j hj) (hv k (by omega))
    have ai := ahL_in (v := tvS A q s) (c := k) (A 91 58).toNat
    refine e188_8 (d := d) hC ?_
    rw [Int.toNat_natCast, ea]
    refine ⟨by unfold inR; omega, fun _ => ⟨by unfold inR; omega, by unfold inR; omega, fun q1 => ⟨by omega, hq, fun q2 => ⟨hV, by omega, by unfold inR; omega, fun q3 => ?_, fun q3 => ?_⟩, fun q2 => ?_⟩, fun q1 => ?_⟩, fun h => by exfalso; omega⟩
    · have := ih (k + 1) (mNl w3) (by omega) (by rw [e, hu, decide_eq_true q3]; simp)
      rw [nkL_succ, if_pos q2, show ((k + 1 : Nat) : Int) = (k : Int) + 1 by omega] at this
      exact this
    · have e2 : suB A q s = false := suL_up (show k + 1 ≤ (A 91 58).toNat by omega) (by rw [e, hu, decide_eq_false q3, decide_eq_true ⟨q2, q1⟩]; rfl)
      rw [e2] at hQ; exact hQ
    · have := ih (k + 1) w3 (by omega) (by rw [e, hu, decide_eq_false (fun h => q2 h.1)]; rfl)
      rw [nkL_succ, if_neg q2, Int.add_zero, show ((k + 1 : Nat) : Int) = (k : Int) + 1 by omega] at this
      exact this
    · have e2 : suB A q s = true := by
        have := suL_rest hu (show s ≤ nkL A q k by omega) ((A 91 58).toNat - k)
        unfold suB
        rwa [show k + ((A 91 58).toNat - k) = (A 91 58).toNat by omega] at this
      rw [e2] at hQ; exact hQ
theorem l188_1 {q s v : Int} (hV : WfV A) (hs : 1 ≤ s ∧ s ≤ 10) (hq : inR q) (hv : v = alL A q (A 91 58).toNat) (hK : ∀ I1, Fr [88] [] I0 I1 → Q (some (.int (oI (bI (suB A q s))))) (bd L I1 R S)) : ∀ (n k : Nat) (I : mI), k + n = (A 91 58).toNat → Fr [88] [] I0 I → RC R S I A → (∀ j : Nat, j < k → ld I 88 j = tvS A q s j) → h188_1 (d + 1) L I R S Q q s v (nkL A q k) k := by
  have v1 := hV.2.1
  have al := alL_in hV (q := q) (A 91 58).toNat (by omega)
  intro n
  induction n with
  | zero =>
    intro k I hk hf hC hj
    refine e188_1 (d := d + 1) hC ⟨by unfold inR; omega, fun h => by exfalso; omega, fun _ => ?_⟩
    exact l188_8 (d := d) hV hs hq hC (fun j h => hj j (by omega)) (hK I hf) (A 91 58).toNat 0 _ (by omega) rfl
  | succ n ih =>
    intro k I hk hf hC hj
    have nk := nkL_in (A := A) (q := q) k
    have su := hC.sums hV (c := k) (by omega)
    have vi := vtS_in hV (c := k) (by omega)
    have rv : inR (vtS A k) := by unfold inR; omega
    have dv : 0 ≤ Int.tdiv v s ∧ Int.tdiv v s * s ≤ v ∧ v - Int.tdiv v s * s < s ∧ Int.tdiv v s ≤ v := by
      rw [hv, Int.tdiv_eq_ediv_of_nonneg al.1]
      have a1 := Int.ediv_nonneg al.1 (show (0 : Int) ≤ s by omega)
      have a2 := Int.mul_ediv_self_le (x := alL A q (A 91 58).toNat) (k := s) (by omega)
      have a3 := Int.lt_mul_ediv_self_add (x := alL A q (A 91 58).toNat) (k := s) (by omega)
      have a4 := Int.ediv_le_self s al.1
      rw [Int.mul_comm] at a2 a3
      exact ⟨a1, a2, by omega, a4⟩
    have go : ∀ (z : Int) (I2 : mI), (∀ j : Nat, ld I2 88 j = if j = k then z else ld I 88 j) → z = tvS A q s k → Fr [88] [] I0 I2 → RC R S I2 A → ∀ x : Int, x = nkL A q (k + 1) → h188_1 (d + 1) L I2 R S Q q s v x ((k : Int) + 1) := fun z I2 h1 h2 h3 h4 x hx => by
      have := ih (k + 1) I2 (by omega) h3 h4 (fun j h => by
        rw [h1 j]
        split
        · rename_i e; rw [e, h2]
        · exact hj j (by omega))
      rw [hx, show (k : Int) + 1 = ((k + 1 : Nat) : Int) by omega]
      exact this
    refine e188_1 (d := d + 1) hC ?_
    rw [Int.toNat_natCast, su]
    refine ⟨by unfold inR; omega, fun _ => ⟨by omega, hq, fun q1 => ⟨by unfold inR; omega, by unfold inR; omega, fun q2 => ⟨by unfold inR; omega, by omega, by omega, by unfold inR; omega, ?_⟩, fun q2 => ?_⟩, fun q1 => ?_⟩, fun h => by exfalso; omega⟩
    · have rz : inR (Int.tdiv v s + (if nkL A q k < v - Int.tdiv v s * s then (1 : Int) else 0)) := by unfold inR; split <;> omega
      refine go (Int.tdiv v s + (if nkL A q k < v - Int.tdiv v s * s then (1 : Int) else 0)) _ (fun j => ?_) ?_ ((hf.wr rfl).wr rfl) ((hC.scr rfl).scr rfl) _ (by rw [nkL_succ, if_pos q1])
      · exact (ld_w rz).trans (by
          split
          · rfl
          · rename_i hne; rw [ld_w rv, if_neg hne])
      · unfold tvS; rw [if_pos q1, if_pos q2, ← hv]
    · refine go 0 _ (fun j => ?_) ?_ ((hf.wr rfl).wr rfl) ((hC.scr rfl).scr rfl) _ (by rw [nkL_succ, if_pos q1])
      · exact (ld_w (inRd rfl)).trans (by
          split
          · rfl
          · rename_i hne; rw [ld_w rv, if_neg hne])
      · unfold tvS; rw [if_pos q1, if_neg q2]
    · refine go (vtS A k) _ (fun j => ld_w rv) ?_ (hf.wr rfl) (hC.scr rfl) _ (by rw [nkL_succ, if_neg q1, Int.add_zero])
      unfold tvS; rw [if_neg q1]
theorem k188 {q s v : Int} {K : Int32 → mM → Prop} (hC : RC R S I A) (hV : WfV A) (hq : inR q) (hs : 1 ≤ s ∧ s ≤ 10) (hv : v = alL A q (A 91 58).toNat) (h1 : suB A q s = true → ∀ I1, Fr [88] [] I I1 → K (oI 1) (bd L I1 R S)) (h0 : ¬ suB A q s = true → ∀ I1, Fr [88] [] I I1 → K (oI 0) (bd L I1 R S)) : CallI (d + 1) 188 [.ref 85, .int (oI q), .int (oI s), .int (oI v)] (bd L I R S) K := by
  refine e188 (d := d + 1) hC (l188_1 (d := d) (I0 := I) hV hs hq hv (fun I1 f1 => rqI_of ?_) (A 91 58).toNat 0 I (by omega) (Fr.refl _ _ _) hC (fun j h => by omega))
  cases hb : suB A q s
  · exact h0 (by rw [hb]; decide) I1 f1
  · exact h1 hb I1 f1
end
def h187_1 (d L : Nat) (I : Nat → Nat → Int32) (R : Nat → Nat → Option Nat) (S : List (Nat × Nat)) (Q : Option Value → mM → Prop) (x1 : Int) (x2 : Int) (x3 : Int) (x4 : Int) : Prop := Wp d (gb 187 1) [.ref 85, .int (oI x1), .int (oI x2), .int (oI x3), .int (oI x4)] [] (bd L I R S) Q
def h187_4 (d L : Nat) (I : Nat → Nat → Int32) (R : Nat → Nat → Option Nat) (S : List (Nat × Nat)) (Q : Option Value → mM → Prop) (x1 : Int) (w2 : Value) (x3 : Int) (x4 : Int) : Prop := Wp d (gb 187 4) [.ref 85, .int (oI x1), w2, .int (oI x3), .int (oI x4)] [] (bd L I R S) Q
set_option maxRecDepth 4000 in
theorem e187_1 {d L : Nat} {I : Nat → Nat → Int32} {R : Nat → Nat → Option Nat} {S : List (Nat × Nat)} {Q : Option Value → mM → Prop} {A : aS} (hC : RC R S I A) {x1 : Int} {x2 : Int} {x3 : Int} {x4 : Int} (hE : inR x4 ∧ (((x4 < A 91 58) → (0 ≤ x4 ∧ x4 < 10) ∧ (inR x1 ∧ (((A 133 x4.toNat = x1) → h187_1 (d + 1) L I R S Q x1 (x2 + 1) (x3 + (ld I 87 x4.toNat)) (x4 + 1)) ∧ (¬ (A 133 x4.toNat = x1) → h187_1 (d + 1) L I R S Q x1 x2 x3 (x4 + 1))))) ∧ (¬ (x4 < A 91 58) → inR x2 ∧ (h187_4 (d + 1) L I R S Q x1 (.int (oI x2)) x3 (min x2 (A 91 57)))))) : h187_1 (d + 1) L I R S Q x1 x2 x3 x4 := by
  unfold h187_1
  refine xG gb187.2.1 ?_
  refine s4 (x := x4) rfl ?_
  refine s6 (p := 85) rfl ?_
  refine s50 (v := A 91 58) sh85 (by decide) (by decide) (rdC hC.1 rfl) ?_
  obtain ⟨g1, hE⟩ := hE
  refine s64 g1 (inC hC.1 (a := 85) (k := 1) rfl) (fun c2 => ?_) (fun c2 => ?_)
  · replace hE := hE.1 c2
    refine s6 (p := 85) rfl ?_
    refine s51 sh85 (by decide) (by decide) rf85_3 ?_
    refine s4 (x := x4) rfl ?_
    obtain ⟨g3, hE⟩ := hE
    refine s40 (v := A 133 x4.toNat) sh86 g3 rfl (rdC hC.1 rfl) ?_
    refine s4 (x := x1) rfl ?_
    obtain ⟨g4, hE⟩ := hE
    refine s62 (inC hC.1 (a := 86) (k := x4.toNat) rfl) g4 (fun c5 => ?_) (fun c5 => ?_)
    · replace hE := hE.1 c5
      refine s10 (x := x2) (ls' := [.ref 85, .int (oI x1), .int (oI (x2 + 1)), .int (oI x3), .int (oI x4)]) rfl rfl ?_
      refine s4 (x := x3) rfl ?_
      refine s6 (p := 85) rfl ?_
      refine s51 sh85 (by decide) (by decide) rf85_4 ?_
      refine s4 (x := x4) rfl ?_
      refine s40 (v := ld I 87 x4.toNat) sh87 g3 rfl (oI_ld _ _ _) ?_
      refine s16 ?_
      refine s7 (ls' := [.ref 85, .int (oI x1), .int (oI (x2 + 1)), .int (oI (x3 + (ld I 87 x4.toNat))), .int (oI x4)]) (Nat.le_of_ble_eq_true rfl) rfl ?_
      refine s79 ?_
      refine xG gb187.2.2.1 ?_
      refine s10 (x := x4) (ls' := [.ref 85, .int (oI x1), .int (oI (x2 + 1)), .int (oI (x3 + (ld I 87 x4.toNat))), .int (oI (x4 + 1))]) rfl rfl ?_
      refine s60 ?_
      exact hE
    · replace hE := hE.2 c5
      refine xG gb187.2.2.1 ?_
      refine s10 (x := x4) (ls' := [.ref 85, .int (oI x1), .int (oI x2), .int (oI x3), .int (oI (x4 + 1))]) rfl rfl ?_
      refine s60 ?_
      exact hE
  · replace hE := hE.2 c2
    refine xG gb187.2.2.2.1 ?_
    refine s4 (x := x2) rfl ?_
    refine s6 (p := 85) rfl ?_
    refine s50 (v := A 91 57) sh85 (by decide) (by decide) (rdC hC.1 rfl) ?_
    obtain ⟨g6, hE⟩ := hE
    refine sI rc345 rfl (Nat.le_of_ble_eq_true rfl) ?_
    refine k345 g6 (inC hC.1 (a := 85) (k := 0) rfl) ?_
    refine s7 (ls' := [.ref 85, .int (oI x1), .int (oI x2), .int (oI x3), .int (oI (min x2 (A 91 57)))]) (Nat.le_of_ble_eq_true rfl) rfl ?_
    refine s79 ?_
    exact hE
set_option maxRecDepth 4000 in
theorem e187_4 {d L : Nat} {I : Nat → Nat → Int32} {R : Nat → Nat → Option Nat} {S : List (Nat × Nat)} {Q : Option Value → mM → Prop} {A : aS} (hC : RC R S I A) {x1 : Int} {w2 : Value} {x3 : Int} {x4 : Int} (hE : inR x4 ∧ (((0 < x4) → WfV A ∧ (inR x1 ∧ ((1 ≤ x4 ∧ x4 ≤ 10) ∧ (x3 = alL A x1 (A 91 58).toNat ∧ (((suB A x1 x4 = true) → ∀ (I8 : mI), (Fr [88] [] I I8) → Q (some (.int (oI x4))) (bd L I8 R S)) ∧ (¬ (suB A x1 x4 = true) → ∀ (I8 : mI), (Fr [88] [] I I8) → h187_4 (d + 2) L I8 R S Q x1 w2 x3 (x4 + (-1)))))))) ∧ (¬ (0 < x4) → Q (some (.int (oI 0))) (bd L I R S)))) : h187_4 (d + 2) L I R S Q x1 w2 x3 x4 := by
  unfold h187_4
  refine xG gb187.2.2.2.2.1 ?_
  refine s4 (x := x4) rfl ?_
  obtain ⟨g1, hE⟩ := hE
  refine s72 g1 (fun c2 => ?_) (fun c2 => ?_)
  · replace hE := hE.1 c2
    refine s6 (p := 85) rfl ?_
    refine s4 (x := x1) rfl ?_
    refine s4 (x := x4) rfl ?_
    refine s4 (x := x3) rfl ?_
    obtain ⟨g3, hE⟩ := hE
    obtain ⟨g4, hE⟩ := hE
    obtain ⟨g5, hE⟩ := hE
    obtain ⟨g6, hE⟩ := hE
    refine sI rc188 rfl (Nat.le_of_ble_eq_true rfl) ?_
    refine k188 hC g3 g4 g5 g6 (fun c7 I8 q9 => ?_) (fun c7 I8 q9 => ?_)
    · replace hE := hE.1 c7 I8 q9
      refine s67 (inRd rfl) (fun c10 => absurd c10 (by decide)) (fun _ => ?_)
      refine s4 (x := x4) rfl ?_
      refine s80 ?_
      exact hE
    · replace hE := hE.2 c7 I8 q9
      refine s67 (inRd rfl) (fun _ => ?_) (fun c11 => absurd (by decide) c11)
      refine xG gb187.2.2.2.2.2.1 ?_
      refine s10 (x := x4) (ls' := [.ref 85, .int (oI x1), w2, .int (oI x3), .int (oI (x4 + (-1)))]) rfl rfl ?_
      refine s60 ?_
      exact hE
  · replace hE := hE.2 c2
    refine xG gb187.2.2.2.2.2.2 ?_
    refine s0 ?_
    refine s80 ?_
    exact hE
set_option maxRecDepth 4000 in
theorem e187 {d L : Nat} {I : Nat → Nat → Int32} {R : Nat → Nat → Option Nat} {S : List (Nat × Nat)} {K : Int32 → mM → Prop} {A : aS} (hC : RC R S I A) {x1 : Int} (hE : h187_1 d L I R S (rqI K) x1 0 0 0) : CallI d 187 [.ref 85, .int (oI x1)] (bd L I R S) K := by
  refine cI_of (ls := [.ref 85, .int (oI x1), mUn, mUn, mUn]) rfl ?_
  refine xG gb187.1 ?_
  refine s0 ?_
  refine s7 (ls' := [.ref 85, .int (oI x1), .int (oI 0), mUn, mUn]) (Nat.le_of_ble_eq_true rfl) rfl ?_
  refine s0 ?_
  refine s7 (ls' := [.ref 85, .int (oI x1), .int (oI 0), .int (oI 0), mUn]) (Nat.le_of_ble_eq_true rfl) rfl ?_
  refine s0 ?_
  refine s7 (ls' := [.ref 85, .int (oI x1), .int (oI 0), .int (oI 0), .int (oI 0)]) (Nat.le_of_ble_eq_true rfl) rfl ?_
  refine s79 ?_
  exact hE
