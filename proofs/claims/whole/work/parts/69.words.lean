/-! the reference: reading a word -/
def ltk (T : Nat → Int) (N : Nat) : Nat → Nat → Nat
  | 0, z => z
  | f + 1, z => if z < N ∧ 97 ≤ T z ∧ T z ≤ 122 then ltk T N f (z + 1) else z
/-- behind the letters -/
def lt (T : Nat → Int) (N q : Nat) : Nat := ltk T N (N - q) q
def whL (T : Nat → Int) (q : Nat) : Nat → Int64
  | 0 => Int64.ofInt 0
  | k + 1 => (whL T q k <<< ((oI 8).toInt64 &&& 63)) ||| ((oI (T (q + k))).toInt64)
def whS (T : Nat → Int) (q k : Nat) : Int64 := if k ≤ 8 then whL T q k else Int64.ofInt 0
abbrev tkOk (T : Nat → Int) (N q : Nat) (w : Int64) : Prop := lt T N q - q ≤ 8 ∧ whL T q (lt T N q - q) = w
theorem ltk_in {T : Nat → Int} {N : Nat} : ∀ f p, p ≤ N → p ≤ ltk T N f p ∧ ltk T N f p ≤ N
  | 0, p, h => ⟨Nat.le_refl _, h⟩
  | f + 1, p, h => by
    show p ≤ (if p < N ∧ 97 ≤ T p ∧ T p ≤ 122 then ltk T N f (p + 1) else p) ∧ (if p < N ∧ 97 ≤ T p ∧ T p ≤ 122 then ltk T N f (p + 1) else p) ≤ N
    split
    · rename_i q
      have := ltk_in (T := T) (N := N) f (p + 1) (by omega)
      omega
    · omega
theorem lCmp_0 {X Y : Int64} : lCmp X Y = 0 ↔ X = Y := by
  unfold lCmp
  rw [← lg_cmp_eq]
  constructor
  · intro h; exact Int32.toInt_inj.mp h
  · intro h; rw [h]; rfl
def h304_1 (d L : Nat) (I : Nat → Nat → Int32) (R : Nat → Nat → Option Nat) (S : List (Nat × Nat)) (Q : Option Value → mM → Prop) (X1 : Int64) (w2 : Value) (x3 : Int) (X4 : Int64) (w5 : Value) : Prop := Wp d (gb 304 1) [.ref 91, .long X1, w2, .int (oI x3), .long X4, w5] [] (bd L I R S) Q
set_option maxRecDepth 4000 in
theorem e304_1 {d L : Nat} {I : Nat → Nat → Int32} {R : Nat → Nat → Option Nat} {S : List (Nat × Nat)} {Q : Option Value → mM → Prop} {A : aS} (hR : RM I A) {X1 : Int64} {w2 : Value} {x3 : Int} {X4 : Int64} {w5 : Value} (hE : inR x3 ∧ (((x3 < ld I 91 68) → (0 ≤ x3 ∧ x3 < 800) ∧ (((ld I 153 x3.toNat < 97) → inR (x3 - (ld I 91 69)) ∧ (((8 < x3 - (ld I 91 69)) → Q (some (.int (oI 0))) (bd L I R S)) ∧ (¬ (8 < x3 - (ld I 91 69)) → inR (lCmp X4 X1) ∧ (((lCmp X4 X1 = 0) → Q (some (.int (oI 1))) (bd L (u2 I 91 69 (oI x3)) R S)) ∧ (¬ (lCmp X4 X1 = 0) → Q (some (.int (oI 0))) (bd L I R S)))))) ∧ (¬ (ld I 153 x3.toNat < 97) → ((122 < ld I 153 x3.toNat) → inR (x3 - (ld I 91 69)) ∧ (((8 < x3 - (ld I 91 69)) → Q (some (.int (oI 0))) (bd L I R S)) ∧ (¬ (8 < x3 - (ld I 91 69)) → inR (lCmp X4 X1) ∧ (((lCmp X4 X1 = 0) → Q (some (.int (oI 1))) (bd L (u2 I 91 69 (oI x3)) R S)) ∧ (¬ (lCmp X4 X1 = 0) → Q (some (.int (oI 0))) (bd L I R S)))))) ∧ (¬ (122 < ld I 153 x3.toNat) → inR (x3 - (ld I 91 69)) ∧ (((x3 - (ld I 91 69) < 8) → h304_1 d L I R S Q X1 (mNl w2) (x3 + 1) ((X4 <<< ((oI 8).toInt64 &&& 63)) ||| ((oI (ld I 153 x3.toNat)).toInt64)) mUn) ∧ (¬ (x3 - (ld I 91 69) < 8) → h304_1 d L I R S Q X1 (mNl w2) (x3 + 1) (Int64.ofInt 0) mUn)))))) ∧ (¬ (x3 < ld I 91 68) → inR (x3 - (ld I 91 69)) ∧ (((8 < x3 - (ld I 91 69)) → Q (some (.int (oI 0))) (bd L I R S)) ∧ (¬ (8 < x3 - (ld I 91 69)) → inR (lCmp X4 X1) ∧ (((lCmp X4 X1 = 0) → Q (some (.int (oI 1))) (bd L (u2 I 91 69 (oI x3)) R S)) ∧ (¬ (lCmp X4 X1 = 0) → Q (some (.int (oI 0))) (bd L I R S)))))))) : h304_1 d L I R S Q X1 w2 x3 X4 w5 := by
  unfold h304_1
  refine xG gb304.2.1 ?_
  refine s4 (x := x3) rfl ?_
  refine s6 (p := 91) rfl ?_
  refine s50 (v := ld I 91 68) sh91 (by decide) (by decide) (oI_ld _ _ _) ?_
  obtain ⟨g1, hE⟩ := hE
  refine s64 g1 (ld_inR _ _ _) (fun c2 => ?_) (fun c2 => ?_)
  · replace hE := hE.1 c2
    refine s6 (p := 91) rfl ?_
    refine s51 sh91 (by decide) (by decide) rf91_89 ?_
    refine s4 (x := x3) rfl ?_
    obtain ⟨g3, hE⟩ := hE
    refine s41 (v := ld I 153 x3.toNat) sh153 g3 rfl (oI_ld _ _ _) ?_
    refine s0 ?_
    refine s63 (ld_inR _ _ _) (inRd rfl) (fun c4 => ?_) (fun c4 => ?_)
    · replace hE := hE.1 c4
      refine xG gb304.2.2.2.2.1 ?_
      refine s4 (x := x3) rfl ?_
      refine s6 (p := 91) rfl ?_
      refine s50 (v := ld I 91 69) sh91 (by decide) (by decide) (oI_ld _ _ _) ?_
      refine s17 ?_
      refine s0 ?_
      obtain ⟨g5, hE⟩ := hE
      refine s65 g5 (inRd rfl) (fun c6 => ?_) (fun c6 => ?_)
      · replace hE := hE.1 c6
        refine xG gb304.2.2.2.2.2.1 ?_
        refine s0 ?_
        refine s84 (by decide) ?_
        exact hE
      · replace hE := hE.2 c6
        refine s5 (X := X4) rfl ?_
        refine s5 (X := X1) rfl ?_
        refine s36 ?_
        obtain ⟨g7, hE⟩ := hE
        refine s67 g7 (fun c8 => ?_) (fun c8 => ?_)
        · replace hE := hE.1 c8
          refine xG gb304.2.2.2.2.2.2 ?_
          refine s6 (p := 91) rfl ?_
          refine s4 (x := x3) rfl ?_
          refine s52 sh91 (by decide) (by decide) ?_
          refine s0 ?_
          refine s84 (by decide) ?_
          exact hE
        · replace hE := hE.2 c8
          refine s79 ?_
          refine xG gb304.2.2.2.2.2.1 ?_
          refine s0 ?_
          refine s84 (by decide) ?_
          exact hE
    · replace hE := hE.2 c4
      refine s6 (p := 91) rfl ?_
      refine s51 sh91 (by decide) (by decide) rf91_89 ?_
      refine s4 (x := x3) rfl ?_
      refine s41 (v := ld I 153 x3.toNat) sh153 g3 rfl (oI_ld _ _ _) ?_
      refine s0 ?_
      refine s65 (ld_inR _ _ _) (inRd rfl) (fun c9 => ?_) (fun c9 => ?_)
      · replace hE := hE.1 c9
        refine xG gb304.2.2.2.2.1 ?_
        refine s4 (x := x3) rfl ?_
        refine s6 (p := 91) rfl ?_
        refine s50 (v := ld I 91 69) sh91 (by decide) (by decide) (oI_ld _ _ _) ?_
        refine s17 ?_
        refine s0 ?_
        obtain ⟨g10, hE⟩ := hE
        refine s65 g10 (inRd rfl) (fun c11 => ?_) (fun c11 => ?_)
        · replace hE := hE.1 c11
          refine xG gb304.2.2.2.2.2.1 ?_
          refine s0 ?_
          refine s84 (by decide) ?_
          exact hE
        · replace hE := hE.2 c11
          refine s5 (X := X4) rfl ?_
          refine s5 (X := X1) rfl ?_
          refine s36 ?_
          obtain ⟨g12, hE⟩ := hE
          refine s67 g12 (fun c13 => ?_) (fun c13 => ?_)
          · replace hE := hE.1 c13
            refine xG gb304.2.2.2.2.2.2 ?_
            refine s6 (p := 91) rfl ?_
            refine s4 (x := x3) rfl ?_
            refine s52 sh91 (by decide) (by decide) ?_
            refine s0 ?_
            refine s84 (by decide) ?_
            exact hE
          · replace hE := hE.2 c13
            refine s79 ?_
            refine xG gb304.2.2.2.2.2.1 ?_
            refine s0 ?_
            refine s84 (by decide) ?_
            exact hE
      · replace hE := hE.2 c9
        refine s4 (x := x3) rfl ?_
        refine s6 (p := 91) rfl ?_
        refine s50 (v := ld I 91 69) sh91 (by decide) (by decide) (oI_ld _ _ _) ?_
        refine s17 ?_
        refine s0 ?_
        obtain ⟨g14, hE⟩ := hE
        refine s64 g14 (inRd rfl) (fun c15 => ?_) (fun c15 => ?_)
        · replace hE := hE.1 c15
          refine s5 (X := X4) rfl ?_
          refine s0 ?_
          refine s32 ?_
          refine s6 (p := 91) rfl ?_
          refine s51 sh91 (by decide) (by decide) rf91_89 ?_
          refine s4 (x := x3) rfl ?_
          refine s41 (v := ld I 153 x3.toNat) sh153 g3 rfl (oI_ld _ _ _) ?_
          refine s30 ?_
          refine s35 ?_
          refine s60 ?_
          refine xG gb304.2.2.2.1 ?_
          refine s8 (ls' := [.ref 91, .long X1, w2, .int (oI x3), .long ((X4 <<< ((oI 8).toInt64 &&& 63)) ||| ((oI (ld I 153 x3.toNat)).toInt64)), mUn]) (Nat.le_of_ble_eq_true rfl) rfl ?_
          refine s10 (x := x3) (ls' := [.ref 91, .long X1, mNl w2, .int (oI (x3 + 1)), .long ((X4 <<< ((oI 8).toInt64 &&& 63)) ||| ((oI (ld I 153 x3.toNat)).toInt64)), mUn]) rfl rfl ?_
          refine s60 ?_
          exact hE
        · replace hE := hE.2 c15
          refine xG gb304.2.2.1 ?_
          refine s2 ?_
          refine s79 ?_
          refine xG gb304.2.2.2.1 ?_
          refine s8 (ls' := [.ref 91, .long X1, w2, .int (oI x3), .long (Int64.ofInt 0), mUn]) (Nat.le_of_ble_eq_true rfl) rfl ?_
          refine s10 (x := x3) (ls' := [.ref 91, .long X1, mNl w2, .int (oI (x3 + 1)), .long (Int64.ofInt 0), mUn]) rfl rfl ?_
          refine s60 ?_
          exact hE
  · replace hE := hE.2 c2
    refine xG gb304.2.2.2.2.1 ?_
    refine s4 (x := x3) rfl ?_
    refine s6 (p := 91) rfl ?_
    refine s50 (v := ld I 91 69) sh91 (by decide) (by decide) (oI_ld _ _ _) ?_
    refine s17 ?_
    refine s0 ?_
    obtain ⟨g16, hE⟩ := hE
    refine s65 g16 (inRd rfl) (fun c17 => ?_) (fun c17 => ?_)
    · replace hE := hE.1 c17
      refine xG gb304.2.2.2.2.2.1 ?_
      refine s0 ?_
      refine s84 (by decide) ?_
      exact hE
    · replace hE := hE.2 c17
      refine s5 (X := X4) rfl ?_
      refine s5 (X := X1) rfl ?_
      refine s36 ?_
      obtain ⟨g18, hE⟩ := hE
      refine s67 g18 (fun c19 => ?_) (fun c19 => ?_)
      · replace hE := hE.1 c19
        refine xG gb304.2.2.2.2.2.2 ?_
        refine s6 (p := 91) rfl ?_
        refine s4 (x := x3) rfl ?_
        refine s52 sh91 (by decide) (by decide) ?_
        refine s0 ?_
        refine s84 (by decide) ?_
        exact hE
      · replace hE := hE.2 c19
        refine s79 ?_
        refine xG gb304.2.2.2.2.2.1 ?_
        refine s0 ?_
        refine s84 (by decide) ?_
        exact hE
set_option maxRecDepth 4000 in
theorem e304 {d L : Nat} {I : Nat → Nat → Int32} {R : Nat → Nat → Option Nat} {S : List (Nat × Nat)} {K : Int32 → mM → Prop} {A : aS} (hR : RM I A) {X1 : Int64} (hE : ∃ (T1 : Nat → Int) (N2 p3 : Nat), Tx I T1 N2 p3 ∧ (∀ (I5 : mI), (Fr [] [(91, 69)] I I5) → (RM I5 A) → (Tx I5 T1 N2 (bl T1 N2 p3)) → h304_1 (d + 1) L I5 R S (rqI K) X1 mUn (ld I5 91 69) (Int64.ofInt 0) mUn)) : CallI (d + 1) 304 [.ref 91, .long X1] (bd L I R S) K := by
  refine cI_of (ls := [.ref 91, .long X1, mUn, mUn, mUn, mUn]) rfl ?_
  refine xG gb304.1 ?_
  refine s6 (p := 91) rfl ?_
  obtain ⟨T1, N2, p3, k4, hE⟩ := hE
  refine sV rc302 rfl (Nat.le_of_ble_eq_true rfl) ?_
  refine k302 hR k4 (fun I5 q6 q7 q8 => ?_)
  replace hE := hE I5 q6 q7 q8
  refine s6 (p := 91) rfl ?_
  refine s50 (v := ld I5 91 69) sh91 (by decide) (by decide) (oI_ld _ _ _) ?_
  refine s7 (ls' := [.ref 91, .long X1, mUn, .int (oI (ld I5 91 69)), mUn, mUn]) (Nat.le_of_ble_eq_true rfl) rfl ?_
  refine s2 ?_
  refine s8 (ls' := [.ref 91, .long X1, mUn, .int (oI (ld I5 91 69)), .long (Int64.ofInt 0), mUn]) (Nat.le_of_ble_eq_true rfl) rfl ?_
  refine s79 ?_
  exact hE
section
variable {d L : Nat} {I I0 : mI} {R : Nat → Nat → Option Nat} {S : List (Nat × Nat)} {Q : Option Value → mM → Prop} {A : aS} {T : Nat → Int} {N p : Nat}
theorem l304 {w : Int64} {q : Nat} (h1 : tkOk T N q w → ∀ I1, Fr [] [(91, 69)] I0 I1 → RM I1 A → Tx I1 T N (lt T N q) → Q (some (.int (oI 1))) (bd L I1 R S)) (h0 : ¬ tkOk T N q w → ∀ I1, Fr [] [(91, 69)] I0 I1 → RM I1 A → Tx I1 T N q → Q (some (.int (oI 0))) (bd L I1 R S)) (hR : RM I A) (hfr : Fr [] [(91, 69)] I0 I) (ht : Tx I T N q) : ∀ (f z : Nat) (w2 w5 : Value), f + z = N → q ≤ z → ltk T N f z = lt T N q → h304_1 d L I R S Q w w2 z (whS T q (z - q)) w5 := by
  have ht2 := ht
  obtain ⟨a, b, c, e, t⟩ := ht2
  have fin : ∀ z : Nat, q ≤ z → z ≤ N → z = lt T N q → inR ((z : Int) - (q : Int)) ∧ (((8 < (z : Int) - (q : Int)) → Q (some (.int (oI 0))) (bd L I R S)) ∧ (¬ (8 < (z : Int) - (q : Int)) → inR (lCmp (whS T q (z - q)) w) ∧ (((lCmp (whS T q (z - q)) w = 0) → Q (some (.int (oI 1))) (bd L (u2 I 91 69 (oI (z : Int))) R S)) ∧ (¬ (lCmp (whS T q (z - q)) w = 0) → Q (some (.int (oI 0))) (bd L I R S))))) := by
    intro z hq hz he
    refine ⟨⟨by omega, by omega⟩, fun c1 => h0 (by rintro ⟨x, -⟩; omega) I hfr hR ht, fun c1 => ⟨inR_toInt _, fun c2 => ?_, fun c2 => ?_⟩⟩
    · have ew : whS T q (z - q) = whL T q (z - q) := if_pos (by omega)
      rw [lCmp_0, ew, he] at c2
      refine h1 ⟨by omega, c2⟩ _ (hfr.wr rfl) (hR.scr rfl) ?_
      rw [← he]; exact ht.at hz
    · have ew : whS T q (z - q) = whL T q (z - q) := if_pos (by omega)
      rw [lCmp_0, ew, he] at c2
      exact h0 (by rintro ⟨-, x⟩; exact c2 x) I hfr hR ht
  intro f
  induction f with
  | zero =>
    intro z w2 w5 hf hq he
    refine e304_1 hR ?_
    rw [a, c]
    exact ⟨⟨by omega, by omega⟩, fun h => by exfalso; omega, fun _ => fin z hq (by omega) he⟩
  | succ f ih =>
    intro z w2 w5 hf hq he
    have e1 : ltk T N (f + 1) z = if z < N ∧ 97 ≤ T z ∧ T z ≤ 122 then ltk T N f (z + 1) else z := rfl
    rw [he] at e1
    refine e304_1 hR ?_
    rw [a, c, Int.toNat_natCast, t z (by omega)]
    refine ⟨⟨by omega, by omega⟩, fun _ => ⟨⟨by omega, by omega⟩, fun g1 => ?_, fun g1 => ⟨fun g2 => ?_, fun g2 => ?_⟩⟩, fun h => by exfalso; omega⟩
    · rw [if_neg (by rintro ⟨-, x, -⟩; omega)] at e1
      exact fin z hq (by omega) e1.symm
    · rw [if_neg (by rintro ⟨-, -, x⟩; omega)] at e1
      exact fin z hq (by omega) e1.symm
    · rw [if_pos ⟨by omega, by omega, by omega⟩] at e1
      refine ⟨⟨by omega, by omega⟩, fun g3 => ?_, fun g3 => ?_⟩
      · have ei : whS T q (z + 1 - q) = (whS T q (z - q) <<< ((oI 8).toInt64 &&& 63)) ||| ((oI (T z)).toInt64) := by
          unfold whS
          rw [if_pos (by omega), if_pos (by omega), show z + 1 - q = (z - q) + 1 by omega]
          show (whL T q (z - q) <<< ((oI 8).toInt64 &&& 63)) ||| ((oI (T (q + (z - q)))).toInt64) = _
          rw [show q + (z - q) = z by omega]
        rw [← ei]
        exact ih (z + 1) _ _ (by omega) (by omega) e1.symm
      · have ei : whS T q (z + 1 - q) = Int64.ofInt 0 := if_neg (by omega)
        rw [← ei]
        exact ih (z + 1) _ _ (by omega) (by omega) e1.symm
theorem k304 {K : Int32 → mM → Prop} {w : Int64} (hR : RM I A) (ht : Tx I T N p) (h1 : tkOk T N (bl T N p) w → ∀ I1, Fr [] [(91, 69)] I I1 → RM I1 A → Tx I1 T N (lt T N (bl T N p)) → K (oI 1) (bd L I1 R S)) (h0 : ¬ tkOk T N (bl T N p) w → ∀ I1, Fr [] [(91, 69)] I I1 → RM I1 A → Tx I1 T N (bl T N p) → K (oI 0) (bd L I1 R S)) : CallI (d + 1) 304 [.ref 91, .long w] (bd L I R S) K := by
  refine e304 (d := d) hR ⟨T, N, p, ht, fun I1 hf hR1 ht1 => ?_⟩
  have hb := bl_in (T := T) ht.2.2.2.1
  rw [ht1.2.2.1]
  have q9 := l304 (d := d + 1) (L := L) (R := R) (S := S) (Q := rqI K) (I := I1) (I0 := I) (A := A) (T := T) (N := N) (w := w) (q := bl T N p) (fun h I2 g1 g2 g3 => rqI_of (h1 h I2 g1 g2 g3)) (fun h I2 g1 g2 g3 => rqI_of (h0 h I2 g1 g2 g3)) hR1 hf ht1 (N - bl T N p) (bl T N p) mUn mUn (by omega) (Nat.le_refl _) rfl
  rw [Nat.sub_self] at q9
  exact q9
end
