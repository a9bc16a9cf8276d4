/-! the reference: the code of each year -/
def cdA (A : aS) (n : Int) (a : Nat) (v : Int) : Nat → Int
  | 0 => v
  | j + 1 => if A 139 (40 * a + j) = n then (if A 140 (40 * a + j) = 0 then -1 else (40 * a + j : Nat)) else cdA A n a v j
def cdF (A : aS) (n : Int) (from' : Int) (v : Int) : Nat → Int
  | 0 => v
  | a + 1 => if A 138 a = from' then cdA A n a (cdF A n from' v a) (A 137 a).toNat else cdF A n from' v a
def cdY (A : aS) (n : Int) : Nat → Int
  | 0 => -1
  | f + 1 => cdF A n f (cdY A n f) (A 91 65).toNat
def cdS (A : aS) (y n : Int) : Int := cdY A n (y.toNat + 1)
def WfS (A : aS) (s : Nat) : Prop := (1 ≤ A 139 s ∧ A 139 s ≤ 60) ∧ (0 ≤ A 140 s ∧ A 140 s ≤ 15) ∧ (¬ A 140 s = 0 → (¬ A 140 s = 9 → 0 ≤ A 141 s ∧ A 141 s ≤ 9999) ∧ (A 140 s = 1 ∨ A 140 s = 2 ∨ A 140 s = 4 ∨ A 140 s = 13 ∨ A 140 s = 14 → 0 ≤ A 142 s ∧ A 142 s ≤ 9999) ∧ (A 140 s = 6 → A 142 s = -2 ∨ A 142 s = -3 ∨ (0 ≤ A 142 s ∧ A 142 s ≤ 5)) ∧ (A 140 s = 1 → (1 ≤ A 141 s ∧ A 141 s ≤ 3) ∧ A 142 s ≤ 2) ∧ (A 140 s = 2 → A 141 s ≤ 5 ∧ A 142 s ≤ 2) ∧ (A 140 s = 4 ∨ A 140 s = 14 → A 141 s ≤ 5) ∧ (A 140 s = 7 ∨ 10 ≤ A 140 s → A 143 s = -1) ∧ (A 143 s = -1 ∨ ∃ t : Any 10, MAny A 10 (A 143 s) t))
def WfC (A : aS) : Prop := (0 ≤ A 91 65 ∧ A 91 65 ≤ 8) ∧ ∀ a : Nat, a < (A 91 65).toNat → (0 ≤ A 137 a ∧ A 137 a ≤ 40) ∧ (0 ≤ A 138 a ∧ A 138 a ≤ 7) ∧ ∀ j : Nat, j < (A 137 a).toNat → WfS A (40 * a + j)
def CodM (I : mI) (A : aS) : Prop := ld I 91 87 = 0 ∨ (ld I 91 87 = 1 ∧ ∀ y n : Nat, y < 8 → n ≤ 60 → ld I 151 (61 * y + n) = cdS A y n)
def RM (I : mI) (A : aS) : Prop := RelM I A ∧ CodM I A
theorem CodM.kept {I I' : mI} {A : aS} (h : CodM I A) (h1 : ld I' 91 87 = ld I 91 87) (h2 : ∀ k, ld I' 151 k = ld I 151 k) : CodM I' A := by
  unfold CodM at h ⊢
  rw [h1]
  rcases h with h | ⟨h, h3⟩
  · exact Or.inl h
  · exact Or.inr ⟨h, fun y n hy hn => (h2 _).trans (h3 y n hy hn)⟩
theorem RM.scr {I : mI} {A : aS} {a k : Nat} {x : Int32} (h : RM I A) (hp : (pm a k || a == 151 || (a == 91 && k == 87)) = false) : RM (u2 I a k x) A := by
  simp only [Bool.or_eq_false_iff, beq_eq_false_iff_ne] at hp
  obtain ⟨⟨h1, h2⟩, h3⟩ := hp
  refine ⟨h.1.scr h1, h.2.kept ?_ fun j => ld_o (Ne.symm h2)⟩
  rw [ld_u2x, if_neg]
  rintro ⟨rfl, rfl⟩
  exact absurd h3 (by decide)
theorem RM.fr {ws : List Nat} {os : List (Nat × Nat)} {I I' : mI} {A : aS} (h : RM I A) (hf : Fr ws os I I') (hw : (ws.all (fun a => !pmA.contains a && a != 91) && os.all (fun q => !pm q.1 q.2)) = true) (h1 : (ws.contains 91 || os.contains (91, 87)) = false) (h2 : ∀ k, (ws.contains 151 || os.contains (151, k)) = false) : RM I' A :=
  ⟨h.1.fr hf hw, h.2.kept (hf.ld h1) fun k => hf.ld (h2 k)⟩
theorem RM.out {I : mI} {A : aS} {a k : Nat} {x : Int32} (h : RM I A) (ha : a < 91 ∨ 154 < a) : RM (u2 I a k x) A :=
  ⟨h.1.out ha, h.2.kept (ld_o (by omega)) fun j => ld_o (by omega)⟩
theorem cdA_succ {A : aS} {n : Int} {a : Nat} {v : Int} {j : Nat} : cdA A n a v (j + 1) = if A 139 (40 * a + j) = n then (if A 140 (40 * a + j) = 0 then -1 else ((40 * a + j : Nat) : Int)) else cdA A n a v j := rfl
theorem cdF_succ {A : aS} {n f : Int} {v : Int} {a : Nat} : cdF A n f v (a + 1) = if A 138 a = f then cdA A n a (cdF A n f v a) (A 137 a).toNat else cdF A n f v a := rfl
theorem cdY_succ {A : aS} {n : Int} {f : Nat} : cdY A n (f + 1) = cdF A n f (cdY A n f) (A 91 65).toNat := rfl
/-- what lies at a number of a year's code: nothing, or a statement of that number -/
def CdP (A : aS) (n v : Int) : Prop := v = -1 ∨ ∃ a j : Nat, a < (A 91 65).toNat ∧ j < (A 137 a).toNat ∧ v = ((40 * a + j : Nat) : Int) ∧ A 139 (40 * a + j) = n ∧ ¬ A 140 (40 * a + j) = 0
theorem cdA_prop {A : aS} {n : Int} {a : Nat} {v : Int} (ha : a < (A 91 65).toNat) (hv : CdP A n v) : ∀ j, j ≤ (A 137 a).toNat → CdP A n (cdA A n a v j)
  | 0, _ => hv
  | j + 1, h => by
    rw [cdA_succ]
    split
    · split
      · exact Or.inl rfl
      · rename_i h1 h2
        exact Or.inr ⟨a, j, ha, by omega, rfl, h1, h2⟩
    · exact cdA_prop ha hv j (by omega)
theorem cdF_prop {A : aS} {n f : Int} {v : Int} (hv : CdP A n v) : ∀ a, a ≤ (A 91 65).toNat → CdP A n (cdF A n f v a)
  | 0, _ => hv
  | a + 1, h => by
    rw [cdF_succ]
    split
    · exact cdA_prop (by omega) (cdF_prop hv a (by omega)) _ (Nat.le_refl _)
    · exact cdF_prop hv a (by omega)
theorem cdY_prop {A : aS} {n : Int} : ∀ f, CdP A n (cdY A n f)
  | 0 => Or.inl rfl
  | f + 1 => by rw [cdY_succ]; exact cdF_prop (cdY_prop f) _ (Nat.le_refl _)
theorem cdS_prop {A : aS} {y n : Int} : CdP A n (cdS A y n) := cdY_prop _
/-- the statement at a number, its bounds -/
theorem cdS_wf {A : aS} (hC : WfC A) {y n : Int} (h : ¬ cdS A y n = -1) : ∃ s : Nat, cdS A y n = s ∧ s < 320 ∧ WfS A s ∧ A 139 s = n ∧ ¬ A 140 s = 0 ∧ ∃ a j : Nat, s = 40 * a + j ∧ a < (A 91 65).toNat ∧ j < (A 137 a).toNat := by
  rcases cdS_prop (A := A) (y := y) (n := n) with h1 | ⟨a, j, h1, h2, h3, h4, h5⟩
  · exact absurd h1 h
  · obtain ⟨w1, w2⟩ := hC
    obtain ⟨w3, w4, w5⟩ := w2 a h1
    exact ⟨40 * a + j, h3, by omega, w5 j h2, h4, h5, a, j, rfl, h1, h2⟩
theorem cdS_in {A : aS} (hC : WfC A) {y n : Int} : -1 ≤ cdS A y n ∧ cdS A y n < 320 := by
  by_cases h : cdS A y n = -1
  · omega
  · obtain ⟨s, h1, h2, -⟩ := cdS_wf hC h
    omega
def h222_1 (d L : Nat) (I : Nat → Nat → Int32) (R : Nat → Nat → Option Nat) (S : List (Nat × Nat)) (Q : Option Value → mM → Prop) (x1 : Int) (w2 : Value) (w3 : Value) (w4 : Value) : Prop := Wp d (gb 222 1) [.ref 91, .int (oI x1), w2, w3, w4] [] (bd L I R S) Q
def h222_2 (d L : Nat) (I : Nat → Nat → Int32) (R : Nat → Nat → Option Nat) (S : List (Nat × Nat)) (Q : Option Value → mM → Prop) (x1 : Int) (x2 : Int) (w3 : Value) (w4 : Value) : Prop := Wp d (gb 222 2) [.ref 91, .int (oI x1), .int (oI x2), w3, w4] [] (bd L I R S) Q
def h222_4 (d L : Nat) (I : Nat → Nat → Int32) (R : Nat → Nat → Option Nat) (S : List (Nat × Nat)) (Q : Option Value → mM → Prop) (x1 : Int) (x2 : Int) (w3 : Value) (w4 : Value) : Prop := Wp d (gb 222 4) [.ref 91, .int (oI x1), .int (oI x2), w3, w4] [] (bd L I R S) Q
def h222_5 (d L : Nat) (I : Nat → Nat → Int32) (R : Nat → Nat → Option Nat) (S : List (Nat × Nat)) (Q : Option Value → mM → Prop) (x1 : Int) (x2 : Int) (x3 : Int) (w4 : Value) : Prop := Wp d (gb 222 5) [.ref 91, .int (oI x1), .int (oI x2), .int (oI x3), w4] [] (bd L I R S) Q
def h222_7 (d L : Nat) (I : Nat → Nat → Int32) (R : Nat → Nat → Option Nat) (S : List (Nat × Nat)) (Q : Option Value → mM → Prop) (x1 : Int) (x2 : Int) (x3 : Int) (x4 : Int) : Prop := Wp d (gb 222 7) [.ref 91, .int (oI x1), .int (oI x2), .int (oI x3), .int (oI x4)] [] (bd L I R S) Q
set_option maxRecDepth 4000 in
theorem e222_1 {d L : Nat} {I : Nat → Nat → Int32} {R : Nat → Nat → Option Nat} {S : List (Nat × Nat)} {Q : Option Value → mM → Prop} {A : aS} (hM : RelM I A) {x1 : Int} {w2 : Value} {w3 : Value} {w4 : Value} (hE : inR x1 ∧ (((x1 < 8) → h222_2 d L I R S Q x1 0 w3 w4) ∧ (¬ (x1 < 8) → Q none (bd L I R S)))) : h222_1 d L I R S Q x1 w2 w3 w4 := by
  unfold h222_1
  refine xG gb222.2.1 ?_
  refine s4 (x := x1) rfl ?_
  refine s0 ?_
  obtain ⟨g1, hE⟩ := hE
  refine s64 g1 (inRd rfl) (fun c2 => ?_) (fun c2 => ?_)
  · replace hE := hE.1 c2
    refine s0 ?_
    refine s7 (ls' := [.ref 91, .int (oI x1), .int (oI 0), w3, w4]) (Nat.le_of_ble_eq_true rfl) rfl ?_
    refine s79 ?_
    exact hE
  · replace hE := hE.2 c2
    refine xG gb222.2.2.2.2.2.2.2.2.2.2.2.2.2 ?_
    refine s83 ?_
    exact hE
set_option maxRecDepth 4000 in
theorem e222_2 {d L : Nat} {I : Nat → Nat → Int32} {R : Nat → Nat → Option Nat} {S : List (Nat × Nat)} {Q : Option Value → mM → Prop} {A : aS} (hM : RelM I A) {x1 : Int} {x2 : Int} {w3 : Value} {w4 : Value} (hE : inR x2 ∧ (((60 < x2) → h222_4 d L I R S Q x1 0 w3 w4) ∧ (¬ (60 < x2) → (0 ≤ (61 * x1) + x2 ∧ (61 * x1) + x2 < 488) ∧ (h222_2 d L (u2 I 151 ((61 * x1) + x2).toNat (oI (-1))) R S Q x1 (x2 + 1) w3 w4)))) : h222_2 d L I R S Q x1 x2 w3 w4 := by
  unfold h222_2
  refine xG gb222.2.2.1 ?_
  refine s4 (x := x2) rfl ?_
  refine s0 ?_
  obtain ⟨g1, hE⟩ := hE
  refine s65 g1 (inRd rfl) (fun c2 => ?_) (fun c2 => ?_)
  · replace hE := hE.1 c2
    refine xG gb222.2.2.2.1 ?_
    refine s0 ?_
    refine s7 (ls' := [.ref 91, .int (oI x1), .int (oI 0), w3, w4]) (Nat.le_of_ble_eq_true rfl) rfl ?_
    refine s79 ?_
    exact hE
  · replace hE := hE.2 c2
    refine s6 (p := 91) rfl ?_
    refine s51 sh91 (by decide) (by decide) rf91_86 ?_
    refine s0 ?_
    refine s4 (x := x1) rfl ?_
    refine s18 ?_
    refine s4 (x := x2) rfl ?_
    refine s16 ?_
    refine s0 ?_
    obtain ⟨g3, hE⟩ := hE
    refine s44 sh151 (by decide) g3 rfl ?_
    refine s10 (x := x2) (ls' := [.ref 91, .int (oI x1), .int (oI (x2 + 1)), w3, w4]) rfl rfl ?_
    refine s60 ?_
    exact hE
set_option maxRecDepth 4000 in
theorem e222_4 {d L : Nat} {I : Nat → Nat → Int32} {R : Nat → Nat → Option Nat} {S : List (Nat × Nat)} {Q : Option Value → mM → Prop} {A : aS} (hM : RelM I A) {x1 : Int} {x2 : Int} {w3 : Value} {w4 : Value} (hE : inR x2 ∧ (inR x1 ∧ (((x1 < x2) → h222_1 d L I R S Q (x1 + 1) (.int (oI x2)) w3 w4) ∧ (¬ (x1 < x2) → h222_5 d L I R S Q x1 x2 0 w4)))) : h222_4 d L I R S Q x1 x2 w3 w4 := by
  unfold h222_4
  refine xG gb222.2.2.2.2.1 ?_
  refine s4 (x := x2) rfl ?_
  refine s4 (x := x1) rfl ?_
  obtain ⟨g1, hE⟩ := hE
  obtain ⟨g2, hE⟩ := hE
  refine s65 g1 g2 (fun c3 => ?_) (fun c3 => ?_)
  · replace hE := hE.1 c3
    refine xG gb222.2.2.2.2.2.2.2.2.2.2.2.2.1 ?_
    refine s10 (x := x1) (ls' := [.ref 91, .int (oI (x1 + 1)), .int (oI x2), w3, w4]) rfl rfl ?_
    refine s60 ?_
    exact hE
  · replace hE := hE.2 c3
    refine s0 ?_
    refine s7 (ls' := [.ref 91, .int (oI x1), .int (oI x2), .int (oI 0), w4]) (Nat.le_of_ble_eq_true rfl) rfl ?_
    refine s79 ?_
    exact hE
set_option maxRecDepth 4000 in
theorem e222_5 {d L : Nat} {I : Nat → Nat → Int32} {R : Nat → Nat → Option Nat} {S : List (Nat × Nat)} {Q : Option Value → mM → Prop} {A : aS} (hM : RelM I A) {x1 : Int} {x2 : Int} {x3 : Int} {w4 : Value} (hE : inR x3 ∧ (((x3 < A 91 65) → (0 ≤ x3 ∧ x3 < 9) ∧ (inR x2 ∧ (((A 138 x3.toNat = x2) → h222_7 d L I R S Q x1 x2 x3 (40 * x3)) ∧ (¬ (A 138 x3.toNat = x2) → h222_5 d L I R S Q x1 x2 (x3 + 1) w4)))) ∧ (¬ (x3 < A 91 65) → h222_4 d L I R S Q x1 (x2 + 1) (.int (oI x3)) w4))) : h222_5 d L I R S Q x1 x2 x3 w4 := by
  unfold h222_5
  refine xG gb222.2.2.2.2.2.1 ?_
  refine s4 (x := x3) rfl ?_
  refine s6 (p := 91) rfl ?_
  refine s50 (v := A 91 65) sh91 (by decide) (by decide) (rdM hM rfl) ?_
  obtain ⟨g1, hE⟩ := hE
  refine s64 g1 (inA hM (a := 91) (k := 65) rfl) (fun c2 => ?_) (fun c2 => ?_)
  · replace hE := hE.1 c2
    refine s6 (p := 91) rfl ?_
    refine s51 sh91 (by decide) (by decide) rf91_73 ?_
    refine s4 (x := x3) rfl ?_
    obtain ⟨g3, hE⟩ := hE
    refine s40 (v := A 138 x3.toNat) sh138 g3 rfl (rdM hM rfl) ?_
    refine s4 (x := x2) rfl ?_
    obtain ⟨g4, hE⟩ := hE
    refine s61 (inA hM (a := 138) (k := x3.toNat) rfl) g4 (fun c5 => ?_) (fun c5 => ?_)
    · replace hE := hE.1 c5
      refine xG gb222.2.2.2.2.2.2.1 ?_
      refine s0 ?_
      refine s4 (x := x3) rfl ?_
      refine s18 ?_
      refine s7 (ls' := [.ref 91, .int (oI x1), .int (oI x2), .int (oI x3), .int (oI (40 * x3))]) (Nat.le_of_ble_eq_true rfl) rfl ?_
      refine s79 ?_
      exact hE
    · replace hE := hE.2 c5
      refine s60 ?_
      refine xG gb222.2.2.2.2.2.2.2.2.2.2.1 ?_
      refine s10 (x := x3) (ls' := [.ref 91, .int (oI x1), .int (oI x2), .int (oI (x3 + 1)), w4]) rfl rfl ?_
      refine s60 ?_
      exact hE
  · replace hE := hE.2 c2
    refine xG gb222.2.2.2.2.2.2.2.2.2.2.2.1 ?_
    refine s10 (x := x2) (ls' := [.ref 91, .int (oI x1), .int (oI (x2 + 1)), .int (oI x3), w4]) rfl rfl ?_
    refine s60 ?_
    exact hE
set_option maxRecDepth 4000 in
theorem e222_7 {d L : Nat} {I : Nat → Nat → Int32} {R : Nat → Nat → Option Nat} {S : List (Nat × Nat)} {Q : Option Value → mM → Prop} {A : aS} (hM : RelM I A) {x1 : Int} {x2 : Int} {x3 : Int} {x4 : Int} (hE : (0 ≤ x3 ∧ x3 < 9) ∧ (inR x4 ∧ (inR ((40 * x3) + (A 137 x3.toNat)) ∧ (((x4 < (40 * x3) + (A 137 x3.toNat)) → (0 ≤ x4 ∧ x4 < 360) ∧ (((A 140 x4.toNat = 0) → (0 ≤ (61 * x1) + (A 139 x4.toNat) ∧ (61 * x1) + (A 139 x4.toNat) < 488) ∧ (h222_7 d L (u2 I 151 ((61 * x1) + (A 139 x4.toNat)).toNat (oI (-1))) R S Q x1 x2 x3 (x4 + 1))) ∧ (¬ (A 140 x4.toNat = 0) → (0 ≤ (61 * x1) + (A 139 x4.toNat) ∧ (61 * x1) + (A 139 x4.toNat) < 488) ∧ (h222_7 d L (u2 I 151 ((61 * x1) + (A 139 x4.toNat)).toNat (oI x4)) R S Q x1 x2 x3 (x4 + 1))))) ∧ (¬ (x4 < (40 * x3) + (A 137 x3.toNat)) → h222_5 d L I R S Q x1 x2 (x3 + 1) (.int (oI x4))))))) : h222_7 d L I R S Q x1 x2 x3 x4 := by
  unfold h222_7
  refine xG gb222.2.2.2.2.2.2.2.1 ?_
  refine s4 (x := x4) rfl ?_
  refine s0 ?_
  refine s4 (x := x3) rfl ?_
  refine s18 ?_
  refine s6 (p := 91) rfl ?_
  refine s51 sh91 (by decide) (by decide) rf91_72 ?_
  refine s4 (x := x3) rfl ?_
  obtain ⟨g1, hE⟩ := hE
  refine s40 (v := A 137 x3.toNat) sh137 g1 rfl (rdM hM rfl) ?_
  refine s16 ?_
  obtain ⟨g2, hE⟩ := hE
  obtain ⟨g3, hE⟩ := hE
  refine s64 g2 g3 (fun c4 => ?_) (fun c4 => ?_)
  · replace hE := hE.1 c4
    refine s6 (p := 91) rfl ?_
    refine s51 sh91 (by decide) (by decide) rf91_86 ?_
    refine s0 ?_
    refine s4 (x := x1) rfl ?_
    refine s18 ?_
    refine s6 (p := 91) rfl ?_
    refine s51 sh91 (by decide) (by decide) rf91_74 ?_
    refine s4 (x := x4) rfl ?_
    obtain ⟨g5, hE⟩ := hE
    refine s40 (v := A 139 x4.toNat) sh139 g5 rfl (rdM hM rfl) ?_
    refine s16 ?_
    refine s6 (p := 91) rfl ?_
    refine s51 sh91 (by decide) (by decide) rf91_75 ?_
    refine s4 (x := x4) rfl ?_
    refine s40 (v := A 140 x4.toNat) sh140 g5 rfl (rdM hM rfl) ?_
    refine s68 (inA hM (a := 140) (k := x4.toNat) rfl) (fun c6 => ?_) (fun c6 => ?_)
    · replace hE := hE.1 c6
      refine s0 ?_
      refine s60 ?_
      refine xG gb222.2.2.2.2.2.2.2.2.2.1 ?_
      obtain ⟨g7, hE⟩ := hE
      refine s44 sh151 (by decide) g7 rfl ?_
      refine s10 (x := x4) (ls' := [.ref 91, .int (oI x1), .int (oI x2), .int (oI x3), .int (oI (x4 + 1))]) rfl rfl ?_
      refine s60 ?_
      exact hE
    · replace hE := hE.2 c6
      refine xG gb222.2.2.2.2.2.2.2.2.1 ?_
      refine s4 (x := x4) rfl ?_
      refine s79 ?_
      refine xG gb222.2.2.2.2.2.2.2.2.2.1 ?_
      obtain ⟨g8, hE⟩ := hE
      refine s44 sh151 (by decide) g8 rfl ?_
      refine s10 (x := x4) (ls' := [.ref 91, .int (oI x1), .int (oI x2), .int (oI x3), .int (oI (x4 + 1))]) rfl rfl ?_
      refine s60 ?_
      exact hE
  · replace hE := hE.2 c4
    refine xG gb222.2.2.2.2.2.2.2.2.2.2.1 ?_
    refine s10 (x := x3) (ls' := [.ref 91, .int (oI x1), .int (oI x2), .int (oI (x3 + 1)), .int (oI x4)]) rfl rfl ?_
    refine s60 ?_
    exact hE
set_option maxRecDepth 4000 in
theorem e222 {d L : Nat} {I : Nat → Nat → Int32} {R : Nat → Nat → Option Nat} {S : List (Nat × Nat)} {K : mM → Prop} {A : aS} (hM : RelM I A)  (hE : h222_1 d L (u2 I 91 87 (oI 1)) R S (rqV K) 0 mUn mUn mUn) : CallV d 222 [.ref 91] (bd L I R S) K := by
  refine cV_of (ls := [.ref 91, mUn, mUn, mUn, mUn]) rfl ?_
  refine xG gb222.1 ?_
  refine s6 (p := 91) rfl ?_
  refine s0 ?_
  refine s49 sh91 (by decide) (by decide) (by decide) ?_
  refine s0 ?_
  refine s7 (ls' := [.ref 91, .int (oI 0), mUn, mUn, mUn]) (Nat.le_of_ble_eq_true rfl) rfl ?_
  refine s79 ?_
  exact hE
def h236_1 (d L : Nat) (I : Nat → Nat → Int32) (R : Nat → Nat → Option Nat) (S : List (Nat × Nat)) (Q : Option Value → mM → Prop) (x1 : Int) : Prop := Wp d (gb 236 1) [.ref 91, .int (oI x1)] [] (bd L I R S) Q
set_option maxRecDepth 4000 in
theorem e236_1 {d L : Nat} {I : Nat → Nat → Int32} {R : Nat → Nat → Option Nat} {S : List (Nat × Nat)} {Q : Option Value → mM → Prop} {A : aS} (hM : RelM I A) {x1 : Int} (hE : inR x1 ∧ (((x1 < 12) → (0 ≤ x1 ∧ x1 < 12) ∧ (h236_1 d L (u2 I 150 x1.toNat (oI 0)) R S Q (x1 + 1))) ∧ (¬ (x1 < 12) → Q none (bd L I R S)))) : h236_1 d L I R S Q x1 := by
  unfold h236_1
  refine xG gb236.2.1 ?_
  refine s4 (x := x1) rfl ?_
  refine s0 ?_
  obtain ⟨g1, hE⟩ := hE
  refine s64 g1 (inRd rfl) (fun c2 => ?_) (fun c2 => ?_)
  · replace hE := hE.1 c2
    refine s6 (p := 91) rfl ?_
    refine s51 sh91 (by decide) (by decide) rf91_85 ?_
    refine s4 (x := x1) rfl ?_
    refine s0 ?_
    obtain ⟨g3, hE⟩ := hE
    refine s44 sh150 (by decide) g3 rfl ?_
    refine s10 (x := x1) (ls' := [.ref 91, .int (oI (x1 + 1))]) rfl rfl ?_
    refine s60 ?_
    exact hE
  · replace hE := hE.2 c2
    refine xG gb236.2.2 ?_
    refine s83 ?_
    exact hE
set_option maxRecDepth 4000 in
theorem e236 {d L : Nat} {I : Nat → Nat → Int32} {R : Nat → Nat → Option Nat} {S : List (Nat × Nat)} {K : mM → Prop} {A : aS} (hM : RelM I A)  (hE : h236_1 d L I R S (rqV K) 0) : CallV d 236 [.ref 91] (bd L I R S) K := by
  refine cV_of (ls := [.ref 91, mUn]) rfl ?_
  refine xG gb236.1 ?_
  refine s0 ?_
  refine s7 (ls' := [.ref 91, .int (oI 0)]) (Nat.le_of_ble_eq_true rfl) rfl ?_
  refine s79 ?_
  exact hE
section
variable {d L : Nat} {I I0 : mI} {R : Nat → Nat → Option Nat} {S : List (Nat × Nat)} {Q : Option Value → mM → Prop} {A : aS} {c day known kind half year subj code : Int}
def CI (A : aS) (y : Nat) (I : mI) (V : Nat → Int) : Prop := (∀ y' n : Nat, y' < y → n ≤ 60 → ld I 151 (61 * y' + n) = cdS A y' n) ∧ ∀ n : Nat, n ≤ 60 → ld I 151 (61 * y + n) = V n
theorem CI.put {y : Nat} {V : Nat → Int} (h : CI A y I V) {m : Nat} (hm : m ≤ 60) {v : Int} (hv : inR v) : CI A y (u2 I 151 (61 * y + m) (oI v)) (fun n => if n = m then v else V n) := by
  refine ⟨fun y' n hy hn => ?_, fun n hn => ?_⟩
  · rw [ld_w hv, if_neg (by omega)]; exact h.1 y' n hy hn
  · rw [ld_w hv]
    dsimp only
    by_cases e : n = m
    · rw [if_pos (by omega), if_pos e]
    · rw [if_neg (by omega), if_neg e]; exact h.2 n hn
theorem l222_7 (hC : WfC A) {y f a : Nat} (hy : y < 8) (ha : a < (A 91 65).toNat) {V : Nat → Int} (hK : ∀ I1 w, RelM I1 A → Fr [151] [] I0 I1 → CI A y I1 (fun n => cdA A n a (V n) (A 137 a).toNat) → h222_5 d L I1 R S Q y f (a + 1 : Nat) w) : ∀ (n j : Nat) (I : mI), j + n = (A 137 a).toNat → RelM I A → Fr [151] [] I0 I → CI A y I (fun n => cdA A n a (V n) j) → h222_7 d L I R S Q y f a (40 * a + j : Nat) := by
  obtain ⟨w1, w2⟩ := hC
  obtain ⟨w3, w4, w5⟩ := w2 a ha
  intro n
  induction n with
  | zero =>
    intro j I hj hM hf hI
    have ih := hK I (.int (oI (40 * a + j : Nat))) hM hf (by rw [show (A 137 a).toNat = j by omega]; exact hI)
    refine e222_7 hM ?_
    simp only [Int.toNat_natCast]
    repeat' first | exact ih | with_reducible assumption | refine And.intro ?_ ?_ | intro _ | omega | exact absurd trivial ‹¬ True› | (exfalso; omega)
  | succ n ih =>
    intro j I hj hM hf hI
    have ws := (w5 j (by omega))
    unfold WfS at ws
    obtain ⟨ws, -⟩ := ws
    have hix : (61 * (y : Int) + A 139 (40 * a + j)).toNat = 61 * y + (A 139 (40 * a + j)).toNat := by omega
    have hs : inR ((40 * a + j : Nat) : Int) := ⟨by omega, by omega⟩
    refine e222_7 hM ?_
    simp only [Int.toNat_natCast, hix]
    have key : ∀ v : Int, inR v → v = (if A 140 (40 * a + j) = 0 then -1 else ((40 * a + j : Nat) : Int)) → h222_7 d L (u2 I 151 (61 * y + (A 139 (40 * a + j)).toNat) (oI v)) R S Q y f a (((40 * a + j : Nat) : Int) + 1) := by
      intro v hv hve
      refine ih (j + 1) _ (by omega) (hM.scr rfl) (hf.wr rfl) ?_
      have h9 := hI.put (m := (A 139 (40 * a + j)).toNat) (by omega) hv
      refine ⟨h9.1, fun n hn => ?_⟩
      rw [h9.2 n hn]
      dsimp only
      rw [cdA_succ]
      by_cases e : n = (A 139 (40 * a + j)).toNat
      · rw [if_pos e, if_pos (by omega), hve]
      · rw [if_neg e, if_neg (by omega)]
    refine ⟨by omega, hs, ⟨by omega, by omega⟩, fun h => ⟨by omega, fun h0 => ⟨by omega, key _ (inRd rfl) (by rw [if_pos h0])⟩, fun h0 => ⟨by omega, key _ hs (by rw [if_neg h0])⟩⟩, fun h => by exfalso; omega⟩
theorem l222_5 (hC : WfC A) {y f : Nat} (hy : y < 8) (hf8 : f < 8) (hK : ∀ I1 w3 w4, RelM I1 A → Fr [151] [] I0 I1 → CI A y I1 (fun n => cdY A n (f + 1)) → h222_4 d L I1 R S Q y (f + 1 : Nat) w3 w4) : ∀ (n a : Nat) (I : mI) (w : Value), a + n = (A 91 65).toNat → RelM I A → Fr [151] [] I0 I → CI A y I (fun n => cdF A n f (cdY A n f) a) → h222_5 d L I R S Q y f a w := by
  obtain ⟨w1, w2⟩ := id hC
  intro n
  induction n with
  | zero =>
    intro a I w ha hM hf hI
    have ih := hK I (.int (oI a)) w hM hf (by rw [show a = (A 91 65).toNat by omega] at hI; exact hI)
    refine e222_5 hM ?_
    simp only [Int.toNat_natCast]
    repeat' first | exact ih | with_reducible assumption | refine And.intro ?_ ?_ | intro _ | omega | exact absurd trivial ‹¬ True› | (exfalso; omega)
  | succ n ih =>
    intro a I w ha hM hf hI
    refine e222_5 hM ?_
    simp only [Int.toNat_natCast]
    refine ⟨⟨by omega, by omega⟩, fun h => ⟨by omega, ⟨by omega, by omega⟩, fun he => ?_, fun he => ?_⟩, fun h => by exfalso; omega⟩
    · refine l222_7 hC hy (by omega) (fun I1 w1 hM1 hf1 hI1 => ih (a + 1) I1 w1 (by omega) hM1 hf1 ?_) (A 137 a).toNat 0 I (by omega) hM hf hI
      refine ⟨hI1.1, fun n hn => ?_⟩
      rw [hI1.2 n hn]
      dsimp only
      rw [cdF_succ, if_pos he]
    · refine ih (a + 1) I w (by omega) hM hf ⟨hI.1, fun n hn => ?_⟩
      rw [hI.2 n hn]
      dsimp only
      rw [cdF_succ, if_neg he]
theorem l222_4 (hC : WfC A) {y : Nat} (hy : y < 8) (hK : ∀ I1 w2 w3 w4, RelM I1 A → Fr [151] [] I0 I1 → CI A y I1 (fun n => cdY A n (y + 1)) → h222_1 d L I1 R S Q (y + 1 : Nat) w2 w3 w4) : ∀ (n f : Nat) (I : mI) (w3 w4 : Value), f + n = y + 1 → RelM I A → Fr [151] [] I0 I → CI A y I (fun n => cdY A n f) → h222_4 d L I R S Q y f w3 w4 := by
  intro n
  induction n with
  | zero =>
    intro f I w3 w4 hn hM hf hI
    have ih := hK I (.int (oI f)) w3 w4 hM hf (by rw [show f = y + 1 by omega] at hI; exact hI)
    refine e222_4 hM ?_
    repeat' first | exact ih | with_reducible assumption | refine And.intro ?_ ?_ | intro _ | omega | exact absurd trivial ‹¬ True› | (exfalso; omega)
  | succ n ih =>
    intro f I w3 w4 hn hM hf hI
    refine e222_4 hM ⟨⟨by omega, by omega⟩, ⟨by omega, by omega⟩, fun h => by exfalso; omega, fun h => ?_⟩
    exact l222_5 hC hy (by omega) (fun I1 w3 w4 hM1 hf1 hI1 => ih (f + 1) I1 w3 w4 (by omega) hM1 hf1 hI1) (A 91 65).toNat 0 I w4 (by omega) hM hf hI
theorem l222_2 (hC : WfC A) {y : Nat} (hy : y < 8) (hK : ∀ I1 w2 w3 w4, RelM I1 A → Fr [151] [] I0 I1 → CI A y I1 (fun n => cdY A n (y + 1)) → h222_1 d L I1 R S Q (y + 1 : Nat) w2 w3 w4) : ∀ (n k : Nat) (I : mI) (w3 w4 : Value), k + n = 61 → RelM I A → Fr [151] [] I0 I → (∀ y' n : Nat, y' < y → n ≤ 60 → ld I 151 (61 * y' + n) = cdS A y' n) → (∀ n, n < k → ld I 151 (61 * y + n) = -1) → h222_2 d L I R S Q y k w3 w4 := by
  intro n
  induction n with
  | zero =>
    intro k I w3 w4 hn hM hf h1 h2
    refine e222_2 hM ⟨⟨by omega, by omega⟩, fun h => ?_, fun h => by exfalso; omega⟩
    exact l222_4 hC hy hK (y + 1) 0 I w3 w4 (by omega) hM hf ⟨h1, fun n hn => h2 n (by omega)⟩
  | succ n ih =>
    intro k I w3 w4 hn hM hf h1 h2
    have hix : (61 * (y : Int) + k).toNat = 61 * y + k := by omega
    refine e222_2 hM ?_
    simp only [hix]
    refine ⟨⟨by omega, by omega⟩, fun h => by exfalso; omega, fun h => ⟨by omega, ?_⟩⟩
    refine ih (k + 1) _ w3 w4 (by omega) (hM.scr rfl) (hf.wr rfl) (fun y' n hy' hn' => ?_) (fun n hn' => ?_)
    · rw [ld_w (inRd rfl), if_neg (by omega)]; exact h1 y' n hy' hn'
    · rw [ld_w (inRd rfl)]
      split
      · rfl
      · exact h2 n (by omega)
theorem l222_1 (hC : WfC A) (hK : ∀ I1, RelM I1 A → Fr [151] [] I0 I1 → (∀ y n : Nat, y < 8 → n ≤ 60 → ld I1 151 (61 * y + n) = cdS A y n) → Q none (bd L I1 R S)) : ∀ (n y : Nat) (I : mI) (w2 w3 w4 : Value), y + n = 8 → RelM I A → Fr [151] [] I0 I → (∀ y' n : Nat, y' < y → n ≤ 60 → ld I 151 (61 * y' + n) = cdS A y' n) → h222_1 d L I R S Q y w2 w3 w4 := by
  intro n
  induction n with
  | zero =>
    intro y I w2 w3 w4 hn hM hf h1
    refine e222_1 hM ⟨⟨by omega, by omega⟩, fun h => by exfalso; omega, fun h => hK I hM hf fun y' n hy hn => h1 y' n (by omega) hn⟩
  | succ n ih =>
    intro y I w2 w3 w4 hn hM hf h1
    refine e222_1 hM ⟨⟨by omega, by omega⟩, fun h => ?_, fun h => by exfalso; omega⟩
    refine l222_2 hC (by omega) (fun I1 w2 w3 w4 hM1 hf1 hI1 => ih (y + 1) I1 w2 w3 w4 (by omega) hM1 hf1 fun y' n hy' hn' => ?_) 61 0 I w3 w4 (by omega) hM hf h1 (fun n hn => by omega)
    by_cases e : y' = y
    · subst e; exact hI1.2 n hn'
    · exact hI1.1 y' n (by omega) hn'
theorem k222 {K : mM → Prop} (hM : RelM I A) (hC : WfC A) (hK : ∀ I1, Fr [151] [(91, 87)] I I1 → RM I1 A → ld I1 91 87 = 1 → (∀ y n : Nat, y < 8 → n ≤ 60 → ld I1 151 (61 * y + n) = cdS A y n) → K (bd L I1 R S)) : CallV d 222 [.ref 91] (bd L I R S) K := by
  have h0 : ld (u2 I 91 87 (oI 1)) 91 87 = 1 := by rw [ld_w (inRd rfl), if_pos rfl]
  refine e222 hM (l222_1 hC (I0 := u2 I 91 87 (oI 1)) (fun I1 h1 h2 h3 => rqV_of ?_) 8 0 _ mUn mUn mUn rfl (hM.scr rfl) (Fr.refl _ _ _) (fun y' n hy => by omega))
  have h9 : ld I1 91 87 = 1 := (h2.ld rfl).trans h0
  exact hK I1 (((Fr.refl [151] [(91, 87)] I).wr rfl).trans (h2.sub rfl rfl)) ⟨h1, Or.inr ⟨h9, h3⟩⟩ h9 h3
theorem l236 (hK : ∀ I1, Fr [150] [] I0 I1 → (∀ j : Nat, j < 12 → ld I1 150 j = 0) → Q none (bd L I1 R S)) : ∀ (n k : Nat) (I : mI), k + n = 12 → RelM I A → Fr [150] [] I0 I → (∀ j : Nat, j < k → ld I 150 j = 0) → h236_1 d L I R S Q k := by
  intro n
  induction n with
  | zero =>
    intro k I hn hM hf h1
    exact e236_1 hM ⟨⟨by omega, by omega⟩, fun h => by exfalso; omega, fun h => hK I hf fun j hj => h1 j (by omega)⟩
  | succ n ih =>
    intro k I hn hM hf h1
    refine e236_1 hM ?_
    simp only [Int.toNat_natCast]
    refine ⟨⟨by omega, by omega⟩, fun h => ⟨by omega, ih (k + 1) _ (by omega) (hM.scr rfl) (hf.wr rfl) fun j hj => ?_⟩, fun h => by exfalso; omega⟩
    rw [ld_w (inRd rfl)]
    split
    · rfl
    · exact h1 j (by omega)
theorem k236 {K : mM → Prop} (hM : RelM I A) (hK : ∀ I1, Fr [150] [] I I1 → (∀ j : Nat, j < 12 → ld I1 150 j = 0) → K (bd L I1 R S)) : CallV d 236 [.ref 91] (bd L I R S) K :=
  e236 hM (l236 (fun I1 h1 h2 => rqV_of (hK I1 h1 h2)) 12 0 I rfl hM (Fr.refl _ _ _) (fun j hj => by omega))
end
set_option maxRecDepth 4000 in
theorem e221 {d L : Nat} {I : Nat → Nat → Int32} {R : Nat → Nat → Option Nat} {S : List (Nat × Nat)} {K : Int32 → mM → Prop} {A : aS} (hM : RelM I A) {x1 : Int} {x2 : Int} (hE : ((ld I 91 87 = 0) → WfC A ∧ (∀ (I3 : mI), (Fr [151] [(91, 87)] I I3) → (RM I3 A) → (ld I3 91 87 = 1) → (∀ y n : Nat, y < 8 → n ≤ 60 → ld I3 151 (61 * y + n) = cdS A y n) → (0 ≤ (61 * x1) + x2 ∧ (61 * x1) + x2 < 488) ∧ (K (oI (ld I3 151 ((61 * x1) + x2).toNat)) (bd L I3 R S)))) ∧ (¬ (ld I 91 87 = 0) → (0 ≤ (61 * x1) + x2 ∧ (61 * x1) + x2 < 488) ∧ (K (oI (ld I 151 ((61 * x1) + x2).toNat)) (bd L I R S)))) : CallI (d + 1) 221 [.ref 91, .int (oI x1), .int (oI x2)] (bd L I R S) K := by
  refine cI_of (ls := [.ref 91, .int (oI x1), .int (oI x2)]) rfl ?_
  refine xG gb221.1 ?_
  refine s6 (p := 91) rfl ?_
  refine s50 (v := ld I 91 87) sh91 (by decide) (by decide) (oI_ld _ _ _) ?_
  refine s68 (ld_inR _ _ _) (fun c1 => ?_) (fun c1 => ?_)
  · replace hE := hE.1 c1
    refine s6 (p := 91) rfl ?_
    obtain ⟨g2, hE⟩ := hE
    refine sV rc222 rfl (Nat.le_of_ble_eq_true rfl) ?_
    refine k222 hM g2 (fun I3 q4 q5 q6 q7 => ?_)
    replace hE := hE I3 q4 q5 q6 q7
    refine s79 ?_
    refine xG gb221.2 ?_
    refine s6 (p := 91) rfl ?_
    refine s51 sh91 (by decide) (by decide) rf91_86 ?_
    refine s0 ?_
    refine s4 (x := x1) rfl ?_
    refine s18 ?_
    refine s4 (x := x2) rfl ?_
    refine s16 ?_
    obtain ⟨g8, hE⟩ := hE
    refine s40 (v := ld I3 151 ((61 * x1) + x2).toNat) sh151 g8 rfl (oI_ld _ _ _) ?_
    refine s80 ?_
    exact rqI_of hE
  · replace hE := hE.2 c1
    refine xG gb221.2 ?_
    refine s6 (p := 91) rfl ?_
    refine s51 sh91 (by decide) (by decide) rf91_86 ?_
    refine s0 ?_
    refine s4 (x := x1) rfl ?_
    refine s18 ?_
    refine s4 (x := x2) rfl ?_
    refine s16 ?_
    obtain ⟨g9, hE⟩ := hE
    refine s40 (v := ld I 151 ((61 * x1) + x2).toNat) sh151 g9 rfl (oI_ld _ _ _) ?_
    refine s80 ?_
    exact rqI_of hE
section
variable {d L : Nat} {I I0 : mI} {R : Nat → Nat → Option Nat} {S : List (Nat × Nat)} {Q : Option Value → mM → Prop} {A : aS} {c day known kind half year subj code : Int}
theorem k221 {K : Int32 → mM → Prop} {n : Int} (hM : RM I A) (hC : WfC A) (hy : 0 ≤ code ∧ code ≤ 7) (hn : 0 ≤ n ∧ n ≤ 60) (hK : ∀ I1, Fr [151] [(91, 87)] I I1 → RM I1 A → K (oI (cdS A code n)) (bd L I1 R S)) : CallI (d + 1) 221 [.ref 91, .int (oI code), .int (oI n)] (bd L I R S) K := by
  have hix : (61 * code + n).toNat = 61 * code.toNat + n.toNat := by omega
  have key : ∀ I1, (∀ y n : Nat, y < 8 → n ≤ 60 → ld I1 151 (61 * y + n) = cdS A y n) → ld I1 151 (61 * code + n).toNat = cdS A code n := by
    intro I1 h
    rw [hix, h code.toNat n.toNat (by omega) (by omega), show ((code.toNat : Nat) : Int) = code by omega, show ((n.toNat : Nat) : Int) = n by omega]
  refine e221 hM.1 ⟨fun h => ⟨hC, fun I1 h1 h2 h3 h4 => ⟨by omega, ?_⟩⟩, fun h => ⟨by omega, ?_⟩⟩
  · rw [key I1 h4]; exact hK I1 h1 h2
  · rcases hM.2 with h0 | ⟨-, h1⟩
    · exact absurd h0 h
    · rw [key I h1]; exact hK I (Fr.refl _ _ _) hM
end
