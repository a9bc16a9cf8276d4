/-! what an IF says: leaves (name, sign, number); ten may be open in one another -/
abbrev Lf : Type := Int × Int × Int
def One : Nat → Type
  | 0 => Lf
  | n + 1 => Lf ⊕ (One n ⊕ List (List (One n)))
abbrev Any (n : Nat) : Type := List (List (One n))
def lfB (h : Nat → Int) (l : Lf) : Bool := if l.2.1 = 60 then decide (h l.1.toNat < l.2.2) else if l.2.1 = 62 then decide (l.2.2 < h l.1.toNat) else decide (h l.1.toNat = l.2.2)
def tvO (h : Nat → Int) : (n : Nat) → One n → Bool
  | 0 => fun l => lfB h l
  | n + 1 => Sum.elim (lfB h) (Sum.elim (fun o => !tvO h n o) (fun t => t.any (fun al => al.all (tvO h n))))
def tvA (h : Nat → Int) (n : Nat) (t : Any n) : Bool := t.any (fun al => al.all (tvO h n))
/-- the reference's nodes: a chain of them, and what they stand for -/
def MCh {α : Type} (P : Int → α → Prop) (nx : Nat → Int) : List α → Int → Prop
  | [], a => a = -1
  | x :: xs, a => P a x ∧ MCh P nx xs (nx a.toNat)
def ndIn (A : aS) (k : Int) : Prop := 0 ≤ k ∧ k < A 91 66 ∧ A 91 66 ≤ 7200
def MLf (A : aS) (k : Int) (l : Lf) : Prop := ndIn A k ∧ A 144 k.toNat = 3 ∧ A 147 k.toNat = l.1 ∧ A 148 k.toNat = l.2.1 ∧ A 149 k.toNat = l.2.2 ∧ (0 ≤ l.1 ∧ l.1 < 12) ∧ (l.2.1 = 60 ∨ l.2.1 = 61 ∨ l.2.1 = 62) ∧ (0 ≤ l.2.2 ∧ l.2.2 ≤ 9999)
def MAllP (A : aS) {α : Type} (P : Int → α → Prop) (k : Int) (l : List α) : Prop := ndIn A k ∧ A 144 k.toNat = 1 ∧ l ≠ [] ∧ MCh P (A 146) l (A 145 k.toNat)
def MAnyP (A : aS) {α : Type} (P : Int → α → Prop) (k : Int) (t : List (List α)) : Prop := ndIn A k ∧ A 144 k.toNat = 0 ∧ t ≠ [] ∧ MCh (MAllP A P) (A 146) t (A 145 k.toNat)
def MOne (A : aS) : (n : Nat) → Int → One n → Prop
  | 0 => fun k l => MLf A k l
  | n + 1 => fun k => Sum.elim (MLf A k) (Sum.elim (fun o => ndIn A k ∧ A 144 k.toNat = 2 ∧ MOne A n (A 145 k.toNat) o) (fun t => MAnyP A (MOne A n) k t))
def MAny (A : aS) (n : Nat) (k : Int) (t : Any n) : Prop := MAnyP A (MOne A n) k t
theorem MOne.nd {A : aS} : ∀ {n : Nat} {k : Int} {o : One n}, MOne A n k o → ndIn A k
  | 0, k, o, h => h.1
  | n + 1, k, .inl l, h => h.1
  | n + 1, k, .inr (.inl o), h => h.1
  | n + 1, k, .inr (.inr t), h => h.1
/-- what is asked lies in 'here' -/
def EnvI (I : mI) (h : Nat → Int) : Prop := ∀ i : Nat, i < 12 → ld I 150 i = h i
theorem EnvI.fr {ws : List Nat} {os : List (Nat × Nat)} {I I1 : mI} {h : Nat → Int} (hh : EnvI I h) (hf : Fr ws os I I1) (hp : ∀ k, (ws.contains 150 || os.contains (150, k)) = false) : EnvI I1 h := fun i hi => (hf.ld (hp i)).trans (hh i hi)
/-- an answer of isTrue -/
def R224 (d L : Nat) (I : mI) (R : Nat → Nat → Option Nat) (S : List (Nat × Nat)) (k : Int) (b : Bool) : Prop := ∀ K : Int32 → mM → Prop, K (oI (bI b)) (bd L I R S) → CallI d 224 [.ref 91, .int (oI k)] (bd L I R S) K
def h224_2 (d L : Nat) (I : Nat → Nat → Int32) (R : Nat → Nat → Option Nat) (S : List (Nat × Nat)) (Q : Option Value → mM → Prop) (w1 : Value) (x2 : Int) : Prop := Wp d (gb 224 2) [.ref 91, w1, .int (oI x2)] [] (bd L I R S) Q
def h224_6 (d L : Nat) (I : Nat → Nat → Int32) (R : Nat → Nat → Option Nat) (S : List (Nat × Nat)) (Q : Option Value → mM → Prop) (w1 : Value) (x2 : Int) : Prop := Wp d (gb 224 6) [.ref 91, w1, .int (oI x2)] [] (bd L I R S) Q
set_option maxRecDepth 4000 in
theorem e224_2 {d L : Nat} {I : Nat → Nat → Int32} {R : Nat → Nat → Option Nat} {S : List (Nat × Nat)} {Q : Option Value → mM → Prop} {A : aS} (hM : RelM I A) {w1 : Value} {x2 : Int} (hE : inR x2 ∧ (((x2 = (-1)) → Q (some (.int (oI 0))) (bd L I R S)) ∧ (¬ (x2 = (-1)) → ∃ (b3 : Bool), R224 d L I R S x2 b3 ∧ (inR (bI b3) ∧ (((bI b3 = 0) → (0 ≤ x2 ∧ x2 < 7200) ∧ (h224_2 (d + 1) L I R S Q (mNl w1) (A 146 x2.toNat))) ∧ (¬ (bI b3 = 0) → Q (some (.int (oI 1))) (bd L I R S))))))) : h224_2 (d + 1) L I R S Q w1 x2 := by
  unfold h224_2
  refine xG gb224.2.2.1 ?_
  refine s4 (x := x2) rfl ?_
  refine s0 ?_
  obtain ⟨g1, hE⟩ := hE
  refine s61 g1 (inRd rfl) (fun c2 => ?_) (fun c2 => ?_)
  · replace hE := hE.1 c2
    refine xG gb224.2.2.2.2.1 ?_
    refine s0 ?_
    refine s84 (by decide) ?_
    exact hE
  · replace hE := hE.2 c2
    refine s6 (p := 91) rfl ?_
    refine s4 (x := x2) rfl ?_
    obtain ⟨b3, r4, hE⟩ := hE
    refine sI rc224 rfl (Nat.le_of_ble_eq_true rfl) ?_
    refine r4 _ ?_
    obtain ⟨g5, hE⟩ := hE
    refine s67 g5 (fun c6 => ?_) (fun c6 => ?_)
    · replace hE := hE.1 c6
      refine xG gb224.2.2.2.1 ?_
      refine s6 (p := 91) rfl ?_
      refine s51 sh91 (by decide) (by decide) rf91_81 ?_
      refine s4 (x := x2) rfl ?_
      obtain ⟨g7, hE⟩ := hE
      refine s40 (v := A 146 x2.toNat) sh146 g7 rfl (rdM hM rfl) ?_
      refine s7 (ls' := [.ref 91, mNl w1, .int (oI (A 146 x2.toNat))]) (Nat.le_of_ble_eq_true rfl) rfl ?_
      refine s60 ?_
      exact hE
    · replace hE := hE.2 c6
      refine s0 ?_
      refine s84 (by decide) ?_
      exact hE
set_option maxRecDepth 4000 in
theorem e224_6 {d L : Nat} {I : Nat → Nat → Int32} {R : Nat → Nat → Option Nat} {S : List (Nat × Nat)} {Q : Option Value → mM → Prop} {A : aS} (hM : RelM I A) {w1 : Value} {x2 : Int} (hE : inR x2 ∧ (((x2 = (-1)) → Q (some (.int (oI 1))) (bd L I R S)) ∧ (¬ (x2 = (-1)) → ∃ (b3 : Bool), R224 d L I R S x2 b3 ∧ (inR (bI b3) ∧ (((bI b3 = 0) → Q (some (.int (oI 0))) (bd L I R S)) ∧ (¬ (bI b3 = 0) → (0 ≤ x2 ∧ x2 < 7200) ∧ (h224_6 (d + 1) L I R S Q (mNl w1) (A 146 x2.toNat)))))))) : h224_6 (d + 1) L I R S Q w1 x2 := by
  unfold h224_6
  refine xG gb224.2.2.2.2.2.2.1 ?_
  refine s4 (x := x2) rfl ?_
  refine s0 ?_
  obtain ⟨g1, hE⟩ := hE
  refine s61 g1 (inRd rfl) (fun c2 => ?_) (fun c2 => ?_)
  · replace hE := hE.1 c2
    refine xG gb224.2.2.2.2.2.2.2.2.1 ?_
    refine s0 ?_
    refine s84 (by decide) ?_
    exact hE
  · replace hE := hE.2 c2
    refine s6 (p := 91) rfl ?_
    refine s4 (x := x2) rfl ?_
    obtain ⟨b3, r4, hE⟩ := hE
    refine sI rc224 rfl (Nat.le_of_ble_eq_true rfl) ?_
    refine r4 _ ?_
    obtain ⟨g5, hE⟩ := hE
    refine s68 g5 (fun c6 => ?_) (fun c6 => ?_)
    · replace hE := hE.1 c6
      refine s0 ?_
      refine s84 (by decide) ?_
      exact hE
    · replace hE := hE.2 c6
      refine xG gb224.2.2.2.2.2.2.2.1 ?_
      refine s6 (p := 91) rfl ?_
      refine s51 sh91 (by decide) (by decide) rf91_81 ?_
      refine s4 (x := x2) rfl ?_
      obtain ⟨g7, hE⟩ := hE
      refine s40 (v := A 146 x2.toNat) sh146 g7 rfl (rdM hM rfl) ?_
      refine s7 (ls' := [.ref 91, mNl w1, .int (oI (A 146 x2.toNat))]) (Nat.le_of_ble_eq_true rfl) rfl ?_
      refine s60 ?_
      exact hE
set_option maxRecDepth 4000 in
theorem e224 {d L : Nat} {I : Nat → Nat → Int32} {R : Nat → Nat → Option Nat} {S : List (Nat × Nat)} {K : Int32 → mM → Prop} {A : aS} (hM : RelM I A) {x1 : Int} (hE : (0 ≤ x1 ∧ x1 < 7200) ∧ ((A 144 x1.toNat = 0 → h224_2 (d + 1) L I R S (rqI K) (.int (oI x1)) (A 145 x1.toNat)) ∧ (A 144 x1.toNat = 1 → h224_6 (d + 1) L I R S (rqI K) (.int (oI x1)) (A 145 x1.toNat)) ∧ (A 144 x1.toNat = 2 → ∃ (b5 : Bool), R224 d L I R S (A 145 x1.toNat) b5 ∧ (inR (bI b5) ∧ (((bI b5 = 0) → K (oI 1) (bd L I R S)) ∧ (¬ (bI b5 = 0) → K (oI 0) (bd L I R S))))) ∧ (¬ A 144 x1.toNat = 0 ∧ ¬ A 144 x1.toNat = 1 ∧ ¬ A 144 x1.toNat = 2 → (0 ≤ A 147 x1.toNat ∧ A 147 x1.toNat < 12) ∧ (((A 148 x1.toNat = 60) → ((ld I 150 (A 147 x1.toNat).toNat < A 149 x1.toNat) → K (oI 1) (bd L I R S)) ∧ (¬ (ld I 150 (A 147 x1.toNat).toNat < A 149 x1.toNat) → K (oI 0) (bd L I R S))) ∧ (¬ (A 148 x1.toNat = 60) → ((A 148 x1.toNat = 62) → ((A 149 x1.toNat < ld I 150 (A 147 x1.toNat).toNat) → K (oI 1) (bd L I R S)) ∧ (¬ (A 149 x1.toNat < ld I 150 (A 147 x1.toNat).toNat) → K (oI 0) (bd L I R S))) ∧ (¬ (A 148 x1.toNat = 62) → ((ld I 150 (A 147 x1.toNat).toNat = A 149 x1.toNat) → K (oI 1) (bd L I R S)) ∧ (¬ (ld I 150 (A 147 x1.toNat).toNat = A 149 x1.toNat) → K (oI 0) (bd L I R S)))))))) : CallI (d + 1) 224 [.ref 91, .int (oI x1)] (bd L I R S) K := by
  refine cI_of (ls := [.ref 91, .int (oI x1), mUn]) rfl ?_
  refine xG gb224.1 ?_
  refine s6 (p := 91) rfl ?_
  refine s51 sh91 (by decide) (by decide) rf91_79 ?_
  refine s4 (x := x1) rfl ?_
  obtain ⟨g1, hE⟩ := hE
  refine s40 (v := A 144 x1.toNat) sh144 g1 rfl (rdM hM rfl) ?_
  refine s76 (inA hM (a := 144) (k := x1.toNat) rfl) ?_
  by_cases c2 : A 144 x1.toNat = 0
  · replace hE := hE.1 c2
    rw [show mSel ((jSW.getD 224 []).getD 0 []) (A 144 x1.toNat - 0) = 1 by rw [c2]; rfl]
    refine xG gb224.2.1 ?_
    refine s6 (p := 91) rfl ?_
    refine s51 sh91 (by decide) (by decide) rf91_80 ?_
    refine s4 (x := x1) rfl ?_
    refine s40 (v := A 145 x1.toNat) sh145 g1 rfl (rdM hM rfl) ?_
    refine s7 (ls' := [.ref 91, .int (oI x1), .int (oI (A 145 x1.toNat))]) (Nat.le_of_ble_eq_true rfl) rfl ?_
    refine s79 ?_
    exact hE
  replace hE := hE.2
  by_cases c3 : A 144 x1.toNat = 1
  · replace hE := hE.1 c3
    rw [show mSel ((jSW.getD 224 []).getD 0 []) (A 144 x1.toNat - 0) = 5 by rw [c3]; rfl]
    refine xG gb224.2.2.2.2.2.1 ?_
    refine s6 (p := 91) rfl ?_
    refine s51 sh91 (by decide) (by decide) rf91_80 ?_
    refine s4 (x := x1) rfl ?_
    refine s40 (v := A 145 x1.toNat) sh145 g1 rfl (rdM hM rfl) ?_
    refine s7 (ls' := [.ref 91, .int (oI x1), .int (oI (A 145 x1.toNat))]) (Nat.le_of_ble_eq_true rfl) rfl ?_
    refine s79 ?_
    exact hE
  replace hE := hE.2
  by_cases c4 : A 144 x1.toNat = 2
  · replace hE := hE.1 c4
    rw [show mSel ((jSW.getD 224 []).getD 0 []) (A 144 x1.toNat - 0) = 9 by rw [c4]; rfl]
    refine xG gb224.2.2.2.2.2.2.2.2.2.1 ?_
    refine s6 (p := 91) rfl ?_
    refine s6 (p := 91) rfl ?_
    refine s51 sh91 (by decide) (by decide) rf91_80 ?_
    refine s4 (x := x1) rfl ?_
    refine s40 (v := A 145 x1.toNat) sh145 g1 rfl (rdM hM rfl) ?_
    obtain ⟨b5, r6, hE⟩ := hE
    refine sI rc224 rfl (Nat.le_of_ble_eq_true rfl) ?_
    refine r6 _ ?_
    obtain ⟨g7, hE⟩ := hE
    refine s68 g7 (fun c8 => ?_) (fun c8 => ?_)
    · replace hE := hE.1 c8
      refine s0 ?_
      refine s60 ?_
      refine xG gb224.2.2.2.2.2.2.2.2.2.2.2.1 ?_
      refine s84 (by decide) ?_
      exact rqI_of hE
    · replace hE := hE.2 c8
      refine xG gb224.2.2.2.2.2.2.2.2.2.2.1 ?_
      refine s0 ?_
      refine s79 ?_
      refine xG gb224.2.2.2.2.2.2.2.2.2.2.2.1 ?_
      refine s84 (by decide) ?_
      exact rqI_of hE
  replace hE := hE.2
  replace hE := hE ⟨c2, c3, c4⟩
  rw [show mSel ((jSW.getD 224 []).getD 0 []) (A 144 x1.toNat - 0) = 12 by exact mSel_def (lo := 0) (vs := [0, 1, 2]) rfl (by intro v hv; simp only [List.mem_cons, List.not_mem_nil, or_false] at hv; omega)]
  refine xG gb224.2.2.2.2.2.2.2.2.2.2.2.2.1 ?_
  refine s6 (p := 91) rfl ?_
  refine s51 sh91 (by decide) (by decide) rf91_85 ?_
  refine s6 (p := 91) rfl ?_
  refine s51 sh91 (by decide) (by decide) rf91_82 ?_
  refine s4 (x := x1) rfl ?_
  refine s40 (v := A 147 x1.toNat) sh147 g1 rfl (rdM hM rfl) ?_
  obtain ⟨g9, hE⟩ := hE
  refine s40 (v := ld I 150 (A 147 x1.toNat).toNat) sh150 g9 rfl (oI_ld _ _ _) ?_
  refine s7 (ls' := [.ref 91, .int (oI x1), .int (oI (ld I 150 (A 147 x1.toNat).toNat))]) (Nat.le_of_ble_eq_true rfl) rfl ?_
  refine s6 (p := 91) rfl ?_
  refine s51 sh91 (by decide) (by decide) rf91_83 ?_
  refine s4 (x := x1) rfl ?_
  refine s40 (v := A 148 x1.toNat) sh148 g1 rfl (rdM hM rfl) ?_
  refine s0 ?_
  refine s62 (inA hM (a := 148) (k := x1.toNat) rfl) (inRd rfl) (fun c10 => ?_) (fun c10 => ?_)
  · replace hE := hE.1 c10
    refine s4 (x := ld I 150 (A 147 x1.toNat).toNat) rfl ?_
    refine s6 (p := 91) rfl ?_
    refine s51 sh91 (by decide) (by decide) rf91_84 ?_
    refine s4 (x := x1) rfl ?_
    refine s40 (v := A 149 x1.toNat) sh149 g1 rfl (rdM hM rfl) ?_
    refine s64 (ld_inR _ _ _) (inA hM (a := 149) (k := x1.toNat) rfl) (fun c11 => ?_) (fun c11 => ?_)
    · replace hE := hE.1 c11
      refine s0 ?_
      refine s60 ?_
      refine xG gb224.2.2.2.2.2.2.2.2.2.2.2.2.2.2.2.2.2.2 ?_
      refine s84 (by decide) ?_
      exact rqI_of hE
    · replace hE := hE.2 c11
      refine xG gb224.2.2.2.2.2.2.2.2.2.2.2.2.2.1 ?_
      refine s0 ?_
      refine s60 ?_
      refine xG gb224.2.2.2.2.2.2.2.2.2.2.2.2.2.2.2.2.2.2 ?_
      refine s84 (by decide) ?_
      exact rqI_of hE
  · replace hE := hE.2 c10
    refine xG gb224.2.2.2.2.2.2.2.2.2.2.2.2.2.2.1 ?_
    refine s6 (p := 91) rfl ?_
    refine s51 sh91 (by decide) (by decide) rf91_83 ?_
    refine s4 (x := x1) rfl ?_
    refine s40 (v := A 148 x1.toNat) sh148 g1 rfl (rdM hM rfl) ?_
    refine s0 ?_
    refine s62 (inA hM (a := 148) (k := x1.toNat) rfl) (inRd rfl) (fun c12 => ?_) (fun c12 => ?_)
    · replace hE := hE.1 c12
      refine s4 (x := ld I 150 (A 147 x1.toNat).toNat) rfl ?_
      refine s6 (p := 91) rfl ?_
      refine s51 sh91 (by decide) (by decide) rf91_84 ?_
      refine s4 (x := x1) rfl ?_
      refine s40 (v := A 149 x1.toNat) sh149 g1 rfl (rdM hM rfl) ?_
      refine s66 (ld_inR _ _ _) (inA hM (a := 149) (k := x1.toNat) rfl) (fun c13 => ?_) (fun c13 => ?_)
      · replace hE := hE.1 c13
        refine s0 ?_
        refine s60 ?_
        refine xG gb224.2.2.2.2.2.2.2.2.2.2.2.2.2.2.2.2.2.2 ?_
        refine s84 (by decide) ?_
        exact rqI_of hE
      · replace hE := hE.2 c13
        refine xG gb224.2.2.2.2.2.2.2.2.2.2.2.2.2.2.2.1 ?_
        refine s0 ?_
        refine s60 ?_
        refine xG gb224.2.2.2.2.2.2.2.2.2.2.2.2.2.2.2.2.2.2 ?_
        refine s84 (by decide) ?_
        exact rqI_of hE
    · replace hE := hE.2 c12
      refine xG gb224.2.2.2.2.2.2.2.2.2.2.2.2.2.2.2.2.1 ?_
      refine s4 (x := ld I 150 (A 147 x1.toNat).toNat) rfl ?_
      refine s6 (p := 91) rfl ?_
      refine s51 sh91 (by decide) (by decide) rf91_84 ?_
      refine s4 (x := x1) rfl ?_
      refine s40 (v := A 149 x1.toNat) sh149 g1 rfl (rdM hM rfl) ?_
      refine s62 (ld_inR _ _ _) (inA hM (a := 149) (k := x1.toNat) rfl) (fun c14 => ?_) (fun c14 => ?_)
      · replace hE := hE.1 c14
        refine s0 ?_
        refine s60 ?_
        refine xG gb224.2.2.2.2.2.2.2.2.2.2.2.2.2.2.2.2.2.2 ?_
        refine s84 (by decide) ?_
        exact rqI_of hE
      · replace hE := hE.2 c14
        refine xG gb224.2.2.2.2.2.2.2.2.2.2.2.2.2.2.2.2.2.1 ?_
        refine s0 ?_
        refine s79 ?_
        refine xG gb224.2.2.2.2.2.2.2.2.2.2.2.2.2.2.2.2.2.2 ?_
        refine s84 (by decide) ?_
        exact rqI_of hE
section
variable {d L : Nat} {I I0 : mI} {R : Nat → Nat → Option Nat} {S : List (Nat × Nat)} {Q : Option Value → mM → Prop} {A : aS} {c day known kind half year subj code : Int}
theorem l224_2 {α : Type} {P : Int → α → Prop} {f : α → Bool} (hM : RelM I A) (hb : ∀ k x, P k x → ndIn A k) (hP : ∀ k x, P k x → R224 d L I R S k (f x)) : ∀ (l : List α) (a : Int) (w : Value), MCh P (A 146) l a → Q (some (.int (oI (bI (l.any f))))) (bd L I R S) → h224_2 (d + 1) L I R S Q w a
  | [], a, w, h, hQ => by
    have h : a = -1 := h
    subst h
    exact e224_2 hM ⟨inRd rfl, fun _ => hQ, fun h => absurd rfl h⟩
  | x :: xs, a, w, h, hQ => by
    obtain ⟨h1, h2⟩ := h
    have hn := hb a x h1
    unfold ndIn at hn
    refine e224_2 hM ⟨⟨by omega, by omega⟩, fun h => by exfalso; omega, fun _ => ⟨f x, hP a x h1, bI_in _, fun h0 => ⟨by omega, ?_⟩, fun h0 => ?_⟩⟩
    · have hf : f x = false := by cases hf : f x; rfl; rw [hf] at h0; exact absurd h0 (by decide)
      refine l224_2 hM hb hP xs _ _ h2 ?_
      rw [List.any_cons, hf, Bool.false_or] at hQ
      exact hQ
    · have hf : f x = true := by cases hf : f x; rw [hf] at h0; exact absurd rfl h0; rfl
      rw [List.any_cons, hf, Bool.true_or] at hQ
      exact hQ
theorem l224_6 {α : Type} {P : Int → α → Prop} {f : α → Bool} (hM : RelM I A) (hb : ∀ k x, P k x → ndIn A k) (hP : ∀ k x, P k x → R224 d L I R S k (f x)) : ∀ (l : List α) (a : Int) (w : Value), MCh P (A 146) l a → Q (some (.int (oI (bI (l.all f))))) (bd L I R S) → h224_6 (d + 1) L I R S Q w a
  | [], a, w, h, hQ => by
    have h : a = -1 := h
    subst h
    exact e224_6 hM ⟨inRd rfl, fun _ => hQ, fun h => absurd rfl h⟩
  | x :: xs, a, w, h, hQ => by
    obtain ⟨h1, h2⟩ := h
    have hn := hb a x h1
    unfold ndIn at hn
    refine e224_6 hM ⟨⟨by omega, by omega⟩, fun h => by exfalso; omega, fun _ => ⟨f x, hP a x h1, bI_in _, fun h0 => ?_, fun h0 => ⟨by omega, ?_⟩⟩⟩
    · have hf : f x = false := by cases hf : f x; rfl; rw [hf] at h0; exact absurd h0 (by decide)
      rw [List.all_cons, hf, Bool.false_and] at hQ
      exact hQ
    · have hf : f x = true := by cases hf : f x; rw [hf] at h0; exact absurd rfl h0; rfl
      refine l224_6 hM hb hP xs _ _ h2 ?_
      rw [List.all_cons, hf, Bool.true_and] at hQ
      exact hQ
theorem r224_all {α : Type} {P : Int → α → Prop} {f : α → Bool} (hM : RelM I A) (hb : ∀ k x, P k x → ndIn A k) (hP : ∀ k x, P k x → R224 d L I R S k (f x)) {k : Int} {l : List α} (h : MAllP A P k l) : R224 (d + 1) L I R S k (l.all f) := by
  obtain ⟨h1, h2, -, h3⟩ := h
  unfold ndIn at h1
  intro K hK
  refine e224 hM ⟨by omega, fun h => by exfalso; omega, fun _ => l224_6 hM hb hP l _ _ h3 (rqI_of hK), fun h => by exfalso; omega, fun h => by exfalso; omega⟩
theorem r224_any {α : Type} {P : Int → α → Prop} {f : α → Bool} (hM : RelM I A) (hb : ∀ k x, P k x → ndIn A k) (hP : ∀ k x, P k x → R224 d L I R S k (f x)) {k : Int} {t : List (List α)} (h : MAnyP A P k t) : R224 (d + 2) L I R S k (t.any (fun al => al.all f)) := by
  obtain ⟨h1, h2, -, h3⟩ := h
  unfold ndIn at h1
  intro K hK
  refine e224 hM ⟨by omega, fun _ => l224_2 (d := d + 1) hM (fun k x h => h.1) (fun k x h => r224_all hM hb hP h) t _ _ h3 (rqI_of hK), fun h => by exfalso; omega, fun h => by exfalso; omega, fun h => by exfalso; omega⟩
theorem r224_leaf {e : Nat → Int} (he : EnvI I e) (hM : RelM I A) {k : Int} {l : Lf} (h : MLf A k l) : R224 (d + 1) L I R S k (lfB e l) := by
  obtain ⟨h1, h2, h3, h4, h5, h6, h7, h8⟩ := h
  unfold ndIn at h1
  intro K hK
  refine e224 hM ?_
  rw [h2, h3, h4, h5, he l.1.toNat (by omega)]
  unfold lfB at hK
  refine ⟨by omega, fun h => by exfalso; omega, fun h => by exfalso; omega, fun h => by exfalso; omega, fun _ => ⟨by omega, fun h => ⟨fun q => ?_, fun q => ?_⟩, fun h => ⟨fun h' => ⟨fun q => ?_, fun q => ?_⟩, fun h' => ⟨fun q => ?_, fun q => ?_⟩⟩⟩⟩
  · rw [if_pos h, decide_eq_true q] at hK; exact hK
  · rw [if_pos h, decide_eq_false q] at hK; exact hK
  · rw [if_neg h, if_pos h', decide_eq_true q] at hK; exact hK
  · rw [if_neg h, if_pos h', decide_eq_false q] at hK; exact hK
  · rw [if_neg h, if_neg h', decide_eq_true q] at hK; exact hK
  · rw [if_neg h, if_neg h', decide_eq_false q] at hK; exact hK
theorem r224 {e : Nat → Int} (he : EnvI I e) (hM : RelM I A) : ∀ (n d : Nat) (k : Int) (o : One n), MOne A n k o → R224 (d + 1 + 2 * n) L I R S k (tvO e n o)
  | 0, d, k, o, h => r224_leaf he hM h
  | n + 1, d, k, .inl l, h => r224_leaf (d := d + 2 * (n + 1)) he hM h |> fun q => by rw [show d + 1 + 2 * (n + 1) = d + 2 * (n + 1) + 1 by omega]; exact q
  | n + 1, d, k, .inr (.inl o), h => by
    obtain ⟨h1, h2, h3⟩ := h
    have ih := r224 he hM n (d + 1) _ o h3
    unfold ndIn at h1
    intro K hK
    have hK : K (oI (bI (!tvO e n o))) (bd L I R S) := hK
    rw [show d + 1 + 2 * (n + 1) = (d + 1 + 1 + 2 * n) + 1 by omega]
    refine e224 hM ⟨by omega, fun h => by exfalso; omega, fun h => by exfalso; omega, fun _ => ⟨_, ih, bI_in _, fun h0 => ?_, fun h0 => ?_⟩, fun h => by exfalso; omega⟩
    · cases hf : tvO e n o
      · rw [hf] at hK; exact hK
      · rw [hf] at h0; exact absurd h0 (by decide)
    · cases hf : tvO e n o
      · rw [hf] at h0; exact absurd rfl h0
      · rw [hf] at hK; exact hK
  | n + 1, d, k, .inr (.inr t), h => by
    have q := r224_any (d := d + 1 + 2 * n) (f := tvO e n) hM (fun k x h => MOne.nd h) (fun k x h => r224 he hM n d k x h) (k := k) (t := t) h
    exact q
theorem r224A {e : Nat → Int} (he : EnvI I e) (hM : RelM I A) {n d : Nat} {k : Int} {t : Any n} (h : MAny A n k t) : R224 (d + 3 + 2 * n) L I R S k (tvA e n t) := by
  have q := r224_any (L := L) (R := R) (S := S) (d := d + 1 + 2 * n) (f := tvO e n) hM (fun k x h => MOne.nd h) (fun k x h => r224 he hM n d k x h) (k := k) (t := t) h
  rw [show d + 3 + 2 * n = d + 1 + 2 * n + 2 by omega]
  exact q
/-! what the nodes stand for is one thing -/
theorem MCh.inj {α : Type} {P : Int → α → Prop} {nx : Nat → Int} (hb : ∀ k x, P k x → 0 ≤ k) (hP : ∀ k x y, P k x → P k y → x = y) : ∀ (l l' : List α) (a : Int), MCh P nx l a → MCh P nx l' a → l = l'
  | [], [], _, _, _ => rfl
  | [], y :: ys, a, h, h' => by have h : a = -1 := h; have := hb a y h'.1; omega
  | x :: xs, [], a, h, h' => by have h' : a = -1 := h'; have := hb a x h.1; omega
  | x :: xs, y :: ys, a, h, h' => by rw [hP a x y h.1 h'.1, MCh.inj hb hP xs ys _ h.2 h'.2]
theorem MAllP.inj {α : Type} {P : Int → α → Prop} (hb : ∀ k x, P k x → 0 ≤ k) (hP : ∀ k x y, P k x → P k y → x = y) {k : Int} {l l' : List α} (h : MAllP A P k l) (h' : MAllP A P k l') : l = l' := MCh.inj hb hP _ _ _ h.2.2.2 h'.2.2.2
theorem MAnyP.inj {α : Type} {P : Int → α → Prop} (hb : ∀ k x, P k x → 0 ≤ k) (hP : ∀ k x y, P k x → P k y → x = y) {k : Int} {l l' : List (List α)} (h : MAnyP A P k l) (h' : MAnyP A P k l') : l = l' := MCh.inj (P := MAllP A P) (fun k x h => (And.left h).1) (fun k x y h h' => MAllP.inj hb hP h h') _ _ _ h.2.2.2 h'.2.2.2
theorem MLf.inj {k : Int} {l l' : Lf} (h : MLf A k l) (h' : MLf A k l') : l = l' := by
  obtain ⟨a, b, c⟩ := l
  obtain ⟨a', b', c'⟩ := l'
  obtain ⟨-, -, h1, h2, h3, -⟩ := h
  obtain ⟨-, -, h1', h2', h3', -⟩ := h'
  dsimp only at h1 h2 h3 h1' h2' h3'
  rw [← h1, ← h2, ← h3, ← h1', ← h2', ← h3']
theorem MOne.inj : ∀ (n : Nat) (k : Int) (o o' : One n), MOne A n k o → MOne A n k o' → o = o'
  | 0, k, o, o', h, h' => MLf.inj h h'
  | n + 1, k, .inl l, .inl l', h, h' => congrArg Sum.inl (MLf.inj h h')
  | n + 1, k, .inl l, .inr (.inl o), h, h' => by have h1 := h.2.1; have h2 := h'.2.1; omega
  | n + 1, k, .inl l, .inr (.inr t), h, h' => by have h1 := h.2.1; have h2 := h'.2.1; omega
  | n + 1, k, .inr (.inl o), .inl l, h, h' => by have h1 := h.2.1; have h2 := h'.2.1; omega
  | n + 1, k, .inr (.inr t), .inl l, h, h' => by have h1 := h.2.1; have h2 := h'.2.1; omega
  | n + 1, k, .inr (.inl o), .inr (.inr t), h, h' => by have h1 := h.2.1; have h2 := h'.2.1; omega
  | n + 1, k, .inr (.inr t), .inr (.inl o), h, h' => by have h1 := h.2.1; have h2 := h'.2.1; omega
  | n + 1, k, .inr (.inl o), .inr (.inl o'), h, h' => congrArg (fun q => Sum.inr (Sum.inl q)) (MOne.inj n _ o o' h.2.2 h'.2.2)
  | n + 1, k, .inr (.inr t), .inr (.inr t'), h, h' => congrArg (fun q => Sum.inr (Sum.inr q)) (MAnyP.inj (fun k x h => (MOne.nd h).1) (fun k x y h h' => MOne.inj n k x y h h') h h')
theorem MAny.inj {n : Nat} {k : Int} {t t' : Any n} (h : MAny A n k t) (h' : MAny A n k t') : t = t' := MAnyP.inj (fun k x h => (MOne.nd h).1) (fun k x y h h' => MOne.inj n k x y h h') h h'
end
