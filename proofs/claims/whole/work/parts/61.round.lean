/-! the reference: an officer's round -/
def osL (V : Nat → Int) (set : Int) : Nat → Int
  | 0 => 0
  | s + 1 => if iAnd (iShr set s) 1 = 0 then osL V set s else osL V set s + V s
def ofL (A : aS) (set : Int) : Nat → Int
  | 0 => 0
  | s + 1 => if iAnd (iShr set s) 1 = 0 then ofL A set s else max (ofL A set s) (A 101 s + A 102 s)
def oiL (V : Nat → Int) (set : Int) : Nat → Bool
  | 0 => true
  | s + 1 => if iAnd (iShr set s) 1 = 0 then oiL V set s else oiL V set s && decide (0 < V s)
noncomputable def lk9 (A : aS) (s : Nat) : Int := lackV A (A 91 1).toNat s
def lv9 (A : aS) (s : Nat) : Int := liveV A (A 91 1).toNat s
def otS (A : aS) (set : Int) : Int := 2 * osL (lv9 A) set 10 + 2 * ofL A set 10
noncomputable def obS (A : aS) (minutes : Int) : Nat → Int × Int × Int
  | 0 => (0, 0, 0)
  | k + 1 => if oiL (lv9 A) ((k + 1 : Nat) : Int) 10 = true ∧ otS A ((k + 1 : Nat) : Int) ≤ minutes ∧ (obS A minutes k).2.1 < osL (lk9 A) ((k + 1 : Nat) : Int) 10 then (((k + 1 : Nat) : Int), osL (lk9 A) ((k + 1 : Nat) : Int) 10, otS A ((k + 1 : Nat) : Int)) else obS A minutes k
noncomputable def officerA (A : aS) (minutes what : Int) : Int := if ¬ (0 ≤ minutes ∧ minutes ≤ 2000) ∨ ¬ ((0 ≤ what ∧ what ≤ 2) ∨ (10 ≤ what ∧ what ≤ 19)) then -1 else if 10 ≤ what then lk9 A (what - 10).toNat else if what = 0 then (obS A minutes 1023).2.1 else if what = 1 then (obS A minutes 1023).1 else (obS A minutes 1023).2.2
theorem osL_in {V : Nat → Int} {set M : Int} (hV : ∀ s : Nat, s < 10 → 0 ≤ V s ∧ V s ≤ M) : ∀ s : Nat, s ≤ 10 → 0 ≤ osL V set s ∧ osL V set s ≤ M * s
  | 0, _ => by unfold osL; omega
  | s + 1, h => by
    have ih := osL_in (set := set) hV s (by omega)
    have h1 := hV s (by omega)
    have e : M * ((s + 1 : Nat) : Int) = M * s + M := by rw [show ((s + 1 : Nat) : Int) = s + 1 by omega, Int.mul_add, Int.mul_one]
    unfold osL
    rw [e]
    split <;> omega
theorem ofL_in {A : aS} (hX : WfX A) {set : Int} : ∀ s : Nat, s ≤ 10 → 0 ≤ ofL A set s ∧ ofL A set s ≤ 120
  | 0, _ => by unfold ofL; omega
  | s + 1, h => by
    have ih := ofL_in hX (set := set) s (by omega)
    have h1 := hX.2.1 s (by omega)
    unfold ofL
    split <;> omega
theorem lk9_in {A : aS} (hW : WfA A) (hC : WfC A) (s : Nat) : 0 ≤ lk9 A s ∧ lk9 A s ≤ 1600 := by
  have h := lackV_in hW hC (s := s) (A 91 1).toNat
  have := hW.2.1
  unfold lk9; omega
theorem lv9_in {A : aS} (hW : WfA A) (s : Nat) : 0 ≤ lv9 A s ∧ lv9 A s ≤ 40 := by
  have h := liveV_in (A := A) (s := s) (A 91 1).toNat
  have := hW.2.1
  unfold lv9; omega
theorem obS_in {A : aS} (hW : WfA A) (hC : WfC A) {m : Int} : ∀ k, 0 ≤ (obS A m k).2.1 ∧ (obS A m k).2.1 ≤ 16000
  | 0 => by unfold obS; dsimp only; omega
  | k + 1 => by
    have ih := obS_in hW hC (m := m) k
    have h := osL_in (V := lk9 A) (set := ((k + 1 : Nat) : Int)) (M := 1600) (fun s _ => lk9_in hW hC s) 10 (by omega)
    unfold obS
    split
    · dsimp only; omega
    · exact ih
def h281_4 (d L : Nat) (I : Nat → Nat → Int32) (R : Nat → Nat → Option Nat) (S : List (Nat × Nat)) (Q : Option Value → mM → Prop) (x1 : Int) (x2 : Int) (x3 : Int) (x4 : Int) (x5 : Int) (x6 : Int) (w7 : Value) (w8 : Value) (w9 : Value) (w10 : Value) (w11 : Value) : Prop := Wp d (gb 281 4) [.ref 91, .int (oI x1), .int (oI x2), .int (oI x3), .int (oI x4), .int (oI x5), .int (oI x6), w7, w8, w9, w10, w11] [] (bd L I R S) Q
def h281_5 (d L : Nat) (I : Nat → Nat → Int32) (R : Nat → Nat → Option Nat) (S : List (Nat × Nat)) (Q : Option Value → mM → Prop) (x1 : Int) (x2 : Int) (x3 : Int) (x4 : Int) (x5 : Int) (x6 : Int) (x7 : Int) (x8 : Int) (x9 : Int) (x10 : Int) (x11 : Int) : Prop := Wp d (gb 281 5) [.ref 91, .int (oI x1), .int (oI x2), .int (oI x3), .int (oI x4), .int (oI x5), .int (oI x6), .int (oI x7), .int (oI x8), .int (oI x9), .int (oI x10), .int (oI x11)] [] (bd L I R S) Q
set_option maxRecDepth 4000 in
theorem e281_4 {d L : Nat} {I : Nat → Nat → Int32} {R : Nat → Nat → Option Nat} {S : List (Nat × Nat)} {Q : Option Value → mM → Prop} {A : aS} (hR : RM I A) {x1 : Int} {x2 : Int} {x3 : Int} {x4 : Int} {x5 : Int} {x6 : Int} {w7 : Value} {w8 : Value} {w9 : Value} {w10 : Value} {w11 : Value} (hE : inR x6 ∧ (((x6 < 1024) → h281_5 d L I R S Q x1 x2 x3 x4 x5 x6 0 0 0 1 0) ∧ (¬ (x6 < 1024) → inR x2 ∧ (((x2 = 0) → Q (some (.int (oI x4))) (bd L I R S)) ∧ (¬ (x2 = 0) → ((x2 = 1) → Q (some (.int (oI x3))) (bd L I R S)) ∧ (¬ (x2 = 1) → Q (some (.int (oI x5))) (bd L I R S))))))) : h281_4 d L I R S Q x1 x2 x3 x4 x5 x6 w7 w8 w9 w10 w11 := by
  unfold h281_4
  refine xG gb281.2.2.2.2.1 ?_
  refine s4 (x := x6) rfl ?_
  refine s0 ?_
  obtain ⟨g1, hE⟩ := hE
  refine s64 g1 (inRd rfl) (fun c2 => ?_) (fun c2 => ?_)
  · replace hE := hE.1 c2
    refine s0 ?_
    refine s7 (ls' := [.ref 91, .int (oI x1), .int (oI x2), .int (oI x3), .int (oI x4), .int (oI x5), .int (oI x6), .int (oI 0), w8, w9, w10, w11]) (Nat.le_of_ble_eq_true rfl) rfl ?_
    refine s0 ?_
    refine s7 (ls' := [.ref 91, .int (oI x1), .int (oI x2), .int (oI x3), .int (oI x4), .int (oI x5), .int (oI x6), .int (oI 0), .int (oI 0), w9, w10, w11]) (Nat.le_of_ble_eq_true rfl) rfl ?_
    refine s0 ?_
    refine s7 (ls' := [.ref 91, .int (oI x1), .int (oI x2), .int (oI x3), .int (oI x4), .int (oI x5), .int (oI x6), .int (oI 0), .int (oI 0), .int (oI 0), w10, w11]) (Nat.le_of_ble_eq_true rfl) rfl ?_
    refine s0 ?_
    refine s7 (ls' := [.ref 91, .int (oI x1), .int (oI x2), .int (oI x3), .int (oI x4), .int (oI x5), .int (oI x6), .int (oI 0), .int (oI 0), .int (oI 0), .int (oI 1), w11]) (Nat.le_of_ble_eq_true rfl) rfl ?_
    refine s0 ?_
    refine s7 (ls' := [.ref 91, .int (oI x1), .int (oI x2), .int (oI x3), .int (oI x4), .int (oI x5), .int (oI x6), .int (oI 0), .int (oI 0), .int (oI 0), .int (oI 1), .int (oI 0)]) (Nat.le_of_ble_eq_true rfl) rfl ?_
    refine s79 ?_
    exact hE
  · replace hE := hE.2 c2
    refine xG gb281.2.2.2.2.2.2.2.2.2.2.2.2.2.1 ?_
    refine s4 (x := x2) rfl ?_
    obtain ⟨g3, hE⟩ := hE
    refine s68 g3 (fun c4 => ?_) (fun c4 => ?_)
    · replace hE := hE.1 c4
      refine s4 (x := x4) rfl ?_
      refine s60 ?_
      refine xG gb281.2.2.2.2.2.2.2.2.2.2.2.2.2.2.2.2 ?_
      refine s80 ?_
      exact hE
    · replace hE := hE.2 c4
      refine xG gb281.2.2.2.2.2.2.2.2.2.2.2.2.2.2.1 ?_
      refine s4 (x := x2) rfl ?_
      refine s0 ?_
      refine s62 g3 (inRd rfl) (fun c5 => ?_) (fun c5 => ?_)
      · replace hE := hE.1 c5
        refine s4 (x := x3) rfl ?_
        refine s60 ?_
        refine xG gb281.2.2.2.2.2.2.2.2.2.2.2.2.2.2.2.2 ?_
        refine s80 ?_
        exact hE
      · replace hE := hE.2 c5
        refine xG gb281.2.2.2.2.2.2.2.2.2.2.2.2.2.2.2.1 ?_
        refine s4 (x := x5) rfl ?_
        refine s79 ?_
        refine xG gb281.2.2.2.2.2.2.2.2.2.2.2.2.2.2.2.2 ?_
        refine s80 ?_
        exact hE
set_option maxRecDepth 4000 in
theorem e281_5 {d L : Nat} {I : Nat → Nat → Int32} {R : Nat → Nat → Option Nat} {S : List (Nat × Nat)} {Q : Option Value → mM → Prop} {A : aS} (hR : RM I A) {x1 : Int} {x2 : Int} {x3 : Int} {x4 : Int} {x5 : Int} {x6 : Int} {x7 : Int} {x8 : Int} {x9 : Int} {x10 : Int} {x11 : Int} (hE : inR x11 ∧ (((x11 < 10) → inR (iAnd (iShr x6 x11) 1) ∧ (((iAnd (iShr x6 x11) 1 = 0) → h281_5 (d + 1) L I R S Q x1 x2 x3 x4 x5 x6 x7 x8 x9 x10 (x11 + 1)) ∧ (¬ (iAnd (iShr x6 x11) 1 = 0) → inR x10 ∧ (((x10 = 0) → (0 ≤ x11 ∧ x11 < 10) ∧ (inR x9 ∧ (inR (A 101 x11.toNat + (A 102 x11.toNat)) ∧ (h281_5 (d + 1) L I R S Q x1 x2 x3 x4 x5 x6 (x7 + (ld I 129 x11.toNat)) (x8 + (2 * (ld I 130 x11.toNat))) (max x9 (A 101 x11.toNat + (A 102 x11.toNat))) 0 (x11 + 1))))) ∧ (¬ (x10 = 0) → (0 ≤ x11 ∧ x11 < 10) ∧ (((0 < ld I 130 x11.toNat) → inR x9 ∧ (inR (A 101 x11.toNat + (A 102 x11.toNat)) ∧ (h281_5 (d + 1) L I R S Q x1 x2 x3 x4 x5 x6 (x7 + (ld I 129 x11.toNat)) (x8 + (2 * (ld I 130 x11.toNat))) (max x9 (A 101 x11.toNat + (A 102 x11.toNat))) 1 (x11 + 1)))) ∧ (¬ (0 < ld I 130 x11.toNat) → inR x9 ∧ (inR (A 101 x11.toNat + (A 102 x11.toNat)) ∧ (h281_5 (d + 1) L I R S Q x1 x2 x3 x4 x5 x6 (x7 + (ld I 129 x11.toNat)) (x8 + (2 * (ld I 130 x11.toNat))) (max x9 (A 101 x11.toNat + (A 102 x11.toNat))) 0 (x11 + 1)))))))))) ∧ (¬ (x11 < 10) → inR x10 ∧ (((x10 = 0) → h281_4 (d + 1) L I R S Q x1 x2 x3 x4 x5 (x6 + 1) (.int (oI x7)) (.int (oI x8)) (.int (oI x9)) (.int (oI x10)) (.int (oI x11))) ∧ (¬ (x10 = 0) → inR (x8 + (2 * x9)) ∧ (inR x1 ∧ (((x1 < x8 + (2 * x9)) → h281_4 (d + 1) L I R S Q x1 x2 x3 x4 x5 (x6 + 1) (.int (oI x7)) (.int (oI x8)) (.int (oI x9)) (.int (oI x10)) (.int (oI x11))) ∧ (¬ (x1 < x8 + (2 * x9)) → inR x7 ∧ (inR x4 ∧ (((x4 < x7) → h281_4 (d + 1) L I R S Q x1 x2 x6 x7 (x8 + (2 * x9)) (x6 + 1) (.int (oI x7)) (.int (oI x8)) (.int (oI x9)) (.int (oI x10)) (.int (oI x11))) ∧ (¬ (x4 < x7) → h281_4 (d + 1) L I R S Q x1 x2 x3 x4 x5 (x6 + 1) (.int (oI x7)) (.int (oI x8)) (.int (oI x9)) (.int (oI x10)) (.int (oI x11))))))))))))) : h281_5 (d + 1) L I R S Q x1 x2 x3 x4 x5 x6 x7 x8 x9 x10 x11 := by
  unfold h281_5
  refine xG gb281.2.2.2.2.2.1 ?_
  refine s4 (x := x11) rfl ?_
  refine s0 ?_
  obtain ⟨g1, hE⟩ := hE
  refine s64 g1 (inRd rfl) (fun c2 => ?_) (fun c2 => ?_)
  · replace hE := hE.1 c2
    refine s4 (x := x6) rfl ?_
    refine s4 (x := x11) rfl ?_
    refine s23 ?_
    refine s0 ?_
    refine s25 ?_
    obtain ⟨g3, hE⟩ := hE
    refine s68 g3 (fun c4 => ?_) (fun c4 => ?_)
    · replace hE := hE.1 c4
      refine s60 ?_
      refine xG gb281.2.2.2.2.2.2.2.2.2.1 ?_
      refine s10 (x := x11) (ls' := [.ref 91, .int (oI x1), .int (oI x2), .int (oI x3), .int (oI x4), .int (oI x5), .int (oI x6), .int (oI x7), .int (oI x8), .int (oI x9), .int (oI x10), .int (oI (x11 + 1))]) rfl rfl ?_
      refine s60 ?_
      exact hE
    · replace hE := hE.2 c4
      refine xG gb281.2.2.2.2.2.2.1 ?_
      refine s4 (x := x10) rfl ?_
      obtain ⟨g5, hE⟩ := hE
      refine s67 g5 (fun c6 => ?_) (fun c6 => ?_)
      · replace hE := hE.1 c6
        refine xG gb281.2.2.2.2.2.2.2.1 ?_
        refine s0 ?_
        refine s79 ?_
        refine xG gb281.2.2.2.2.2.2.2.2.1 ?_
        refine s7 (ls' := [.ref 91, .int (oI x1), .int (oI x2), .int (oI x3), .int (oI x4), .int (oI x5), .int (oI x6), .int (oI x7), .int (oI x8), .int (oI x9), .int (oI 0), .int (oI x11)]) (Nat.le_of_ble_eq_true rfl) rfl ?_
        refine s4 (x := x7) rfl ?_
        refine s6 (p := 91) rfl ?_
        refine s51 sh91 (by decide) (by decide) rf91_52 ?_
        refine s4 (x := x11) rfl ?_
        obtain ⟨g7, hE⟩ := hE
        refine s40 (v := ld I 129 x11.toNat) sh129 g7 rfl (oI_ld _ _ _) ?_
        refine s16 ?_
        refine s7 (ls' := [.ref 91, .int (oI x1), .int (oI x2), .int (oI x3), .int (oI x4), .int (oI x5), .int (oI x6), .int (oI (x7 + (ld I 129 x11.toNat))), .int (oI x8), .int (oI x9), .int (oI 0), .int (oI x11)]) (Nat.le_of_ble_eq_true rfl) rfl ?_
        refine s4 (x := x8) rfl ?_
        refine s0 ?_
        refine s6 (p := 91) rfl ?_
        refine s51 sh91 (by decide) (by decide) rf91_53 ?_
        refine s4 (x := x11) rfl ?_
        refine s40 (v := ld I 130 x11.toNat) sh130 g7 rfl (oI_ld _ _ _) ?_
        refine s18 ?_
        refine s16 ?_
        refine s7 (ls' := [.ref 91, .int (oI x1), .int (oI x2), .int (oI x3), .int (oI x4), .int (oI x5), .int (oI x6), .int (oI (x7 + (ld I 129 x11.toNat))), .int (oI (x8 + (2 * (ld I 130 x11.toNat)))), .int (oI x9), .int (oI 0), .int (oI x11)]) (Nat.le_of_ble_eq_true rfl) rfl ?_
        refine s4 (x := x9) rfl ?_
        refine s6 (p := 91) rfl ?_
        refine s51 sh91 (by decide) (by decide) rf91_14 ?_
        refine s4 (x := x11) rfl ?_
        refine s40 (v := A 101 x11.toNat) sh101 g7 rfl (rdM hR.1 rfl) ?_
        refine s6 (p := 91) rfl ?_
        refine s51 sh91 (by decide) (by decide) rf91_15 ?_
        refine s4 (x := x11) rfl ?_
        refine s40 (v := A 102 x11.toNat) sh102 g7 rfl (rdM hR.1 rfl) ?_
        refine s16 ?_
        obtain ⟨g8, hE⟩ := hE
        obtain ⟨g9, hE⟩ := hE
        refine sI rc346 rfl (Nat.le_of_ble_eq_true rfl) ?_
        refine k346 g8 g9 ?_
        refine s7 (ls' := [.ref 91, .int (oI x1), .int (oI x2), .int (oI x3), .int (oI x4), .int (oI x5), .int (oI x6), .int (oI (x7 + (ld I 129 x11.toNat))), .int (oI (x8 + (2 * (ld I 130 x11.toNat)))), .int (oI (max x9 (A 101 x11.toNat + (A 102 x11.toNat)))), .int (oI 0), .int (oI x11)]) (Nat.le_of_ble_eq_true rfl) rfl ?_
        refine s79 ?_
        refine xG gb281.2.2.2.2.2.2.2.2.2.1 ?_
        refine s10 (x := x11) (ls' := [.ref 91, .int (oI x1), .int (oI x2), .int (oI x3), .int (oI x4), .int (oI x5), .int (oI x6), .int (oI (x7 + (ld I 129 x11.toNat))), .int (oI (x8 + (2 * (ld I 130 x11.toNat)))), .int (oI (max x9 (A 101 x11.toNat + (A 102 x11.toNat)))), .int (oI 0), .int (oI (x11 + 1))]) rfl rfl ?_
        refine s60 ?_
        exact hE
      · replace hE := hE.2 c6
        refine s6 (p := 91) rfl ?_
        refine s51 sh91 (by decide) (by decide) rf91_53 ?_
        refine s4 (x := x11) rfl ?_
        obtain ⟨g10, hE⟩ := hE
        refine s40 (v := ld I 130 x11.toNat) sh130 g10 rfl (oI_ld _ _ _) ?_
        refine s72 (ld_inR _ _ _) (fun c11 => ?_) (fun c11 => ?_)
        · replace hE := hE.1 c11
          refine s0 ?_
          refine s60 ?_
          refine xG gb281.2.2.2.2.2.2.2.2.1 ?_
          refine s7 (ls' := [.ref 91, .int (oI x1), .int (oI x2), .int (oI x3), .int (oI x4), .int (oI x5), .int (oI x6), .int (oI x7), .int (oI x8), .int (oI x9), .int (oI 1), .int (oI x11)]) (Nat.le_of_ble_eq_true rfl) rfl ?_
          refine s4 (x := x7) rfl ?_
          refine s6 (p := 91) rfl ?_
          refine s51 sh91 (by decide) (by decide) rf91_52 ?_
          refine s4 (x := x11) rfl ?_
          refine s40 (v := ld I 129 x11.toNat) sh129 g10 rfl (oI_ld _ _ _) ?_
          refine s16 ?_
          refine s7 (ls' := [.ref 91, .int (oI x1), .int (oI x2), .int (oI x3), .int (oI x4), .int (oI x5), .int (oI x6), .int (oI (x7 + (ld I 129 x11.toNat))), .int (oI x8), .int (oI x9), .int (oI 1), .int (oI x11)]) (Nat.le_of_ble_eq_true rfl) rfl ?_
          refine s4 (x := x8) rfl ?_
          refine s0 ?_
          refine s6 (p := 91) rfl ?_
          refine s51 sh91 (by decide) (by decide) rf91_53 ?_
          refine s4 (x := x11) rfl ?_
          refine s40 (v := ld I 130 x11.toNat) sh130 g10 rfl (oI_ld _ _ _) ?_
          refine s18 ?_
          refine s16 ?_
          refine s7 (ls' := [.ref 91, .int (oI x1), .int (oI x2), .int (oI x3), .int (oI x4), .int (oI x5), .int (oI x6), .int (oI (x7 + (ld I 129 x11.toNat))), .int (oI (x8 + (2 * (ld I 130 x11.toNat)))), .int (oI x9), .int (oI 1), .int (oI x11)]) (Nat.le_of_ble_eq_true rfl) rfl ?_
          refine s4 (x := x9) rfl ?_
          refine s6 (p := 91) rfl ?_
          refine s51 sh91 (by decide) (by decide) rf91_14 ?_
          refine s4 (x := x11) rfl ?_
          refine s40 (v := A 101 x11.toNat) sh101 g10 rfl (rdM hR.1 rfl) ?_
          refine s6 (p := 91) rfl ?_
          refine s51 sh91 (by decide) (by decide) rf91_15 ?_
          refine s4 (x := x11) rfl ?_
          refine s40 (v := A 102 x11.toNat) sh102 g10 rfl (rdM hR.1 rfl) ?_
          refine s16 ?_
          obtain ⟨g12, hE⟩ := hE
          obtain ⟨g13, hE⟩ := hE
          refine sI rc346 rfl (Nat.le_of_ble_eq_true rfl) ?_
          refine k346 g12 g13 ?_
          refine s7 (ls' := [.ref 91, .int (oI x1), .int (oI x2), .int (oI x3), .int (oI x4), .int (oI x5), .int (oI x6), .int (oI (x7 + (ld I 129 x11.toNat))), .int (oI (x8 + (2 * (ld I 130 x11.toNat)))), .int (oI (max x9 (A 101 x11.toNat + (A 102 x11.toNat)))), .int (oI 1), .int (oI x11)]) (Nat.le_of_ble_eq_true rfl) rfl ?_
          refine s79 ?_
          refine xG gb281.2.2.2.2.2.2.2.2.2.1 ?_
          refine s10 (x := x11) (ls' := [.ref 91, .int (oI x1), .int (oI x2), .int (oI x3), .int (oI x4), .int (oI x5), .int (oI x6), .int (oI (x7 + (ld I 129 x11.toNat))), .int (oI (x8 + (2 * (ld I 130 x11.toNat)))), .int (oI (max x9 (A 101 x11.toNat + (A 102 x11.toNat)))), .int (oI 1), .int (oI (x11 + 1))]) rfl rfl ?_
          refine s60 ?_
          exact hE
        · replace hE := hE.2 c11
          refine xG gb281.2.2.2.2.2.2.2.1 ?_
          refine s0 ?_
          refine s79 ?_
          refine xG gb281.2.2.2.2.2.2.2.2.1 ?_
          refine s7 (ls' := [.ref 91, .int (oI x1), .int (oI x2), .int (oI x3), .int (oI x4), .int (oI x5), .int (oI x6), .int (oI x7), .int (oI x8), .int (oI x9), .int (oI 0), .int (oI x11)]) (Nat.le_of_ble_eq_true rfl) rfl ?_
          refine s4 (x := x7) rfl ?_
          refine s6 (p := 91) rfl ?_
          refine s51 sh91 (by decide) (by decide) rf91_52 ?_
          refine s4 (x := x11) rfl ?_
          refine s40 (v := ld I 129 x11.toNat) sh129 g10 rfl (oI_ld _ _ _) ?_
          refine s16 ?_
          refine s7 (ls' := [.ref 91, .int (oI x1), .int (oI x2), .int (oI x3), .int (oI x4), .int (oI x5), .int (oI x6), .int (oI (x7 + (ld I 129 x11.toNat))), .int (oI x8), .int (oI x9), .int (oI 0), .int (oI x11)]) (Nat.le_of_ble_eq_true rfl) rfl ?_
          refine s4 (x := x8) rfl ?_
          refine s0 ?_
          refine s6 (p := 91) rfl ?_
          refine s51 sh91 (by decide) (by decide) rf91_53 ?_
          refine s4 (x := x11) rfl ?_
          refine s40 (v := ld I 130 x11.toNat) sh130 g10 rfl (oI_ld _ _ _) ?_
          refine s18 ?_
          refine s16 ?_
          refine s7 (ls' := [.ref 91, .int (oI x1), .int (oI x2), .int (oI x3), .int (oI x4), .int (oI x5), .int (oI x6), .int (oI (x7 + (ld I 129 x11.toNat))), .int (oI (x8 + (2 * (ld I 130 x11.toNat)))), .int (oI x9), .int (oI 0), .int (oI x11)]) (Nat.le_of_ble_eq_true rfl) rfl ?_
          refine s4 (x := x9) rfl ?_
          refine s6 (p := 91) rfl ?_
          refine s51 sh91 (by decide) (by decide) rf91_14 ?_
          refine s4 (x := x11) rfl ?_
          refine s40 (v := A 101 x11.toNat) sh101 g10 rfl (rdM hR.1 rfl) ?_
          refine s6 (p := 91) rfl ?_
          refine s51 sh91 (by decide) (by decide) rf91_15 ?_
          refine s4 (x := x11) rfl ?_
          refine s40 (v := A 102 x11.toNat) sh102 g10 rfl (rdM hR.1 rfl) ?_
          refine s16 ?_
          obtain ⟨g14, hE⟩ := hE
          obtain ⟨g15, hE⟩ := hE
          refine sI rc346 rfl (Nat.le_of_ble_eq_true rfl) ?_
          refine k346 g14 g15 ?_
          refine s7 (ls' := [.ref 91, .int (oI x1), .int (oI x2), .int (oI x3), .int (oI x4), .int (oI x5), .int (oI x6), .int (oI (x7 + (ld I 129 x11.toNat))), .int (oI (x8 + (2 * (ld I 130 x11.toNat)))), .int (oI (max x9 (A 101 x11.toNat + (A 102 x11.toNat)))), .int (oI 0), .int (oI x11)]) (Nat.le_of_ble_eq_true rfl) rfl ?_
          refine s79 ?_
          refine xG gb281.2.2.2.2.2.2.2.2.2.1 ?_
          refine s10 (x := x11) (ls' := [.ref 91, .int (oI x1), .int (oI x2), .int (oI x3), .int (oI x4), .int (oI x5), .int (oI x6), .int (oI (x7 + (ld I 129 x11.toNat))), .int (oI (x8 + (2 * (ld I 130 x11.toNat)))), .int (oI (max x9 (A 101 x11.toNat + (A 102 x11.toNat)))), .int (oI 0), .int (oI (x11 + 1))]) rfl rfl ?_
          refine s60 ?_
          exact hE
  · replace hE := hE.2 c2
    refine xG gb281.2.2.2.2.2.2.2.2.2.2.1 ?_
    refine s4 (x := x10) rfl ?_
    obtain ⟨g16, hE⟩ := hE
    refine s67 g16 (fun c17 => ?_) (fun c17 => ?_)
    · replace hE := hE.1 c17
      refine xG gb281.2.2.2.2.2.2.2.2.2.2.2.2.1 ?_
      refine s10 (x := x6) (ls' := [.ref 91, .int (oI x1), .int (oI x2), .int (oI x3), .int (oI x4), .int (oI x5), .int (oI (x6 + 1)), .int (oI x7), .int (oI x8), .int (oI x9), .int (oI x10), .int (oI x11)]) rfl rfl ?_
      refine s60 ?_
      exact hE
    · replace hE := hE.2 c17
      refine s4 (x := x8) rfl ?_
      refine s0 ?_
      refine s4 (x := x9) rfl ?_
      refine s18 ?_
      refine s16 ?_
      refine s4 (x := x1) rfl ?_
      obtain ⟨g18, hE⟩ := hE
      obtain ⟨g19, hE⟩ := hE
      refine s65 g18 g19 (fun c20 => ?_) (fun c20 => ?_)
      · replace hE := hE.1 c20
        refine xG gb281.2.2.2.2.2.2.2.2.2.2.2.2.1 ?_
        refine s10 (x := x6) (ls' := [.ref 91, .int (oI x1), .int (oI x2), .int (oI x3), .int (oI x4), .int (oI x5), .int (oI (x6 + 1)), .int (oI x7), .int (oI x8), .int (oI x9), .int (oI x10), .int (oI x11)]) rfl rfl ?_
        refine s60 ?_
        exact hE
      · replace hE := hE.2 c20
        refine s4 (x := x7) rfl ?_
        refine s4 (x := x4) rfl ?_
        obtain ⟨g21, hE⟩ := hE
        obtain ⟨g22, hE⟩ := hE
        refine s65 g21 g22 (fun c23 => ?_) (fun c23 => ?_)
        · replace hE := hE.1 c23
          refine xG gb281.2.2.2.2.2.2.2.2.2.2.2.1 ?_
          refine s4 (x := x6) rfl ?_
          refine s7 (ls' := [.ref 91, .int (oI x1), .int (oI x2), .int (oI x6), .int (oI x4), .int (oI x5), .int (oI x6), .int (oI x7), .int (oI x8), .int (oI x9), .int (oI x10), .int (oI x11)]) (Nat.le_of_ble_eq_true rfl) rfl ?_
          refine s4 (x := x7) rfl ?_
          refine s7 (ls' := [.ref 91, .int (oI x1), .int (oI x2), .int (oI x6), .int (oI x7), .int (oI x5), .int (oI x6), .int (oI x7), .int (oI x8), .int (oI x9), .int (oI x10), .int (oI x11)]) (Nat.le_of_ble_eq_true rfl) rfl ?_
          refine s4 (x := x8) rfl ?_
          refine s0 ?_
          refine s4 (x := x9) rfl ?_
          refine s18 ?_
          refine s16 ?_
          refine s7 (ls' := [.ref 91, .int (oI x1), .int (oI x2), .int (oI x6), .int (oI x7), .int (oI (x8 + (2 * x9))), .int (oI x6), .int (oI x7), .int (oI x8), .int (oI x9), .int (oI x10), .int (oI x11)]) (Nat.le_of_ble_eq_true rfl) rfl ?_
          refine s79 ?_
          refine xG gb281.2.2.2.2.2.2.2.2.2.2.2.2.1 ?_
          refine s10 (x := x6) (ls' := [.ref 91, .int (oI x1), .int (oI x2), .int (oI x6), .int (oI x7), .int (oI (x8 + (2 * x9))), .int (oI (x6 + 1)), .int (oI x7), .int (oI x8), .int (oI x9), .int (oI x10), .int (oI x11)]) rfl rfl ?_
          refine s60 ?_
          exact hE
        · replace hE := hE.2 c23
          refine s60 ?_
          refine xG gb281.2.2.2.2.2.2.2.2.2.2.2.2.1 ?_
          refine s10 (x := x6) (ls' := [.ref 91, .int (oI x1), .int (oI x2), .int (oI x3), .int (oI x4), .int (oI x5), .int (oI (x6 + 1)), .int (oI x7), .int (oI x8), .int (oI x9), .int (oI x10), .int (oI x11)]) rfl rfl ?_
          refine s60 ?_
          exact hE
set_option maxRecDepth 4000 in
theorem e281 {d L : Nat} {I : Nat → Nat → Int32} {R : Nat → Nat → Option Nat} {S : List (Nat × Nat)} {K : Int32 → mM → Prop} {A : aS} (hR : RM I A) {x1 : Int} {x2 : Int} (hE : inR x1 ∧ (((0 ≤ x1 ∧ x1 ≤ 2000) → inR x2 ∧ (((0 ≤ x2 ∧ x2 ≤ 2) → WfA A ∧ (WfC A ∧ (WfP A ∧ (∀ (I10 : mI), (Fr [111, 112, 113, 114, 115, 116, 129, 130, 150, 151] [(91, 87)] I I10) → (RM I10 A) → (∀ s : Nat, s < 10 → ld I10 129 s = lackV A (A 91 1).toNat s ∧ ld I10 130 s = liveV A (A 91 1).toNat s) → ((x2 < 10) → h281_4 (d + 31) L I10 R S (rqI K) x1 x2 0 0 0 1 mUn mUn mUn mUn mUn) ∧ (¬ (x2 < 10) → (0 ≤ x2 - 10 ∧ x2 - 10 < 10) ∧ (K (oI (ld I10 129 (x2 - 10).toNat)) (bd L I10 R S))))))) ∧ (¬ (0 ≤ x2 ∧ x2 ≤ 2) → ((10 ≤ x2 ∧ x2 ≤ 19) → WfA A ∧ (WfC A ∧ (WfP A ∧ (∀ (I22 : mI), (Fr [111, 112, 113, 114, 115, 116, 129, 130, 150, 151] [(91, 87)] I I22) → (RM I22 A) → (∀ s : Nat, s < 10 → ld I22 129 s = lackV A (A 91 1).toNat s ∧ ld I22 130 s = liveV A (A 91 1).toNat s) → ((x2 < 10) → h281_4 (d + 31) L I22 R S (rqI K) x1 x2 0 0 0 1 mUn mUn mUn mUn mUn) ∧ (¬ (x2 < 10) → (0 ≤ x2 - 10 ∧ x2 - 10 < 10) ∧ (K (oI (ld I22 129 (x2 - 10).toNat)) (bd L I22 R S))))))) ∧ (¬ (10 ≤ x2 ∧ x2 ≤ 19) → K (oI (-1)) (bd L I R S))))) ∧ (¬ (0 ≤ x1 ∧ x1 ≤ 2000) → K (oI (-1)) (bd L I R S)))) : CallI (d + 31) 281 [.ref 91, .int (oI x1), .int (oI x2)] (bd L I R S) K := by
  refine cI_of (ls := [.ref 91, .int (oI x1), .int (oI x2), mUn, mUn, mUn, mUn, mUn, mUn, mUn, mUn, mUn]) rfl ?_
  refine xG gb281.1 ?_
  refine s4 (x := x1) rfl ?_
  refine s0 ?_
  refine s0 ?_
  obtain ⟨g1, hE⟩ := hE
  refine sI rc210 rfl (Nat.le_of_ble_eq_true rfl) ?_
  refine k210 g1 (inRd rfl) (inRd rfl) (fun c2 => ?_) (fun c2 => ?_)
  · replace hE := hE.1 c2
    refine s67 (inRd rfl) (fun c3 => absurd c3 (by decide)) (fun _ => ?_)
    refine s4 (x := x2) rfl ?_
    refine s0 ?_
    refine s0 ?_
    obtain ⟨g4, hE⟩ := hE
    refine sI rc210 rfl (Nat.le_of_ble_eq_true rfl) ?_
    refine k210 g4 (inRd rfl) (inRd rfl) (fun c5 => ?_) (fun c5 => ?_)
    · replace hE := hE.1 c5
      refine s68 (inRd rfl) (fun c6 => absurd c6 (by decide)) (fun _ => ?_)
      refine xG gb281.2.2.1 ?_
      refine s6 (p := 91) rfl ?_
      obtain ⟨g7, hE⟩ := hE
      obtain ⟨g8, hE⟩ := hE
      obtain ⟨g9, hE⟩ := hE
      refine sV rc282 rfl (Nat.le_of_ble_eq_true rfl) ?_
      refine k282 hR g7 g8 g9 (fun I10 q11 q12 q13 => ?_)
      replace hE := hE I10 q11 q12 q13
      refine s4 (x := x2) rfl ?_
      refine s0 ?_
      refine s63 g4 (inRd rfl) (fun c14 => ?_) (fun c14 => ?_)
      · replace hE := hE.1 c14
        refine xG gb281.2.2.2.1 ?_
        refine s0 ?_
        refine s7 (ls' := [.ref 91, .int (oI x1), .int (oI x2), .int (oI 0), mUn, mUn, mUn, mUn, mUn, mUn, mUn, mUn]) (Nat.le_of_ble_eq_true rfl) rfl ?_
        refine s0 ?_
        refine s7 (ls' := [.ref 91, .int (oI x1), .int (oI x2), .int (oI 0), .int (oI 0), mUn, mUn, mUn, mUn, mUn, mUn, mUn]) (Nat.le_of_ble_eq_true rfl) rfl ?_
        refine s0 ?_
        refine s7 (ls' := [.ref 91, .int (oI x1), .int (oI x2), .int (oI 0), .int (oI 0), .int (oI 0), mUn, mUn, mUn, mUn, mUn, mUn]) (Nat.le_of_ble_eq_true rfl) rfl ?_
        refine s0 ?_
        refine s7 (ls' := [.ref 91, .int (oI x1), .int (oI x2), .int (oI 0), .int (oI 0), .int (oI 0), .int (oI 1), mUn, mUn, mUn, mUn, mUn]) (Nat.le_of_ble_eq_true rfl) rfl ?_
        refine s79 ?_
        exact hE
      · replace hE := hE.2 c14
        refine s6 (p := 91) rfl ?_
        refine s51 sh91 (by decide) (by decide) rf91_52 ?_
        refine s4 (x := x2) rfl ?_
        refine s0 ?_
        refine s17 ?_
        obtain ⟨g15, hE⟩ := hE
        refine s40 (v := ld I10 129 (x2 - 10).toNat) sh129 g15 rfl (oI_ld _ _ _) ?_
        refine s80 ?_
        exact rqI_of hE
    · replace hE := hE.2 c5
      refine s68 (inRd rfl) (fun _ => ?_) (fun c16 => absurd (by decide) c16)
      refine s4 (x := x2) rfl ?_
      refine s0 ?_
      refine s0 ?_
      refine sI rc210 rfl (Nat.le_of_ble_eq_true rfl) ?_
      refine k210 g4 (inRd rfl) (inRd rfl) (fun c17 => ?_) (fun c17 => ?_)
      · replace hE := hE.1 c17
        refine s68 (inRd rfl) (fun c18 => absurd c18 (by decide)) (fun _ => ?_)
        refine xG gb281.2.2.1 ?_
        refine s6 (p := 91) rfl ?_
        obtain ⟨g19, hE⟩ := hE
        obtain ⟨g20, hE⟩ := hE
        obtain ⟨g21, hE⟩ := hE
        refine sV rc282 rfl (Nat.le_of_ble_eq_true rfl) ?_
        refine k282 hR g19 g20 g21 (fun I22 q23 q24 q25 => ?_)
        replace hE := hE I22 q23 q24 q25
        refine s4 (x := x2) rfl ?_
        refine s0 ?_
        refine s63 g4 (inRd rfl) (fun c26 => ?_) (fun c26 => ?_)
        · replace hE := hE.1 c26
          refine xG gb281.2.2.2.1 ?_
          refine s0 ?_
          refine s7 (ls' := [.ref 91, .int (oI x1), .int (oI x2), .int (oI 0), mUn, mUn, mUn, mUn, mUn, mUn, mUn, mUn]) (Nat.le_of_ble_eq_true rfl) rfl ?_
          refine s0 ?_
          refine s7 (ls' := [.ref 91, .int (oI x1), .int (oI x2), .int (oI 0), .int (oI 0), mUn, mUn, mUn, mUn, mUn, mUn, mUn]) (Nat.le_of_ble_eq_true rfl) rfl ?_
          refine s0 ?_
          refine s7 (ls' := [.ref 91, .int (oI x1), .int (oI x2), .int (oI 0), .int (oI 0), .int (oI 0), mUn, mUn, mUn, mUn, mUn, mUn]) (Nat.le_of_ble_eq_true rfl) rfl ?_
          refine s0 ?_
          refine s7 (ls' := [.ref 91, .int (oI x1), .int (oI x2), .int (oI 0), .int (oI 0), .int (oI 0), .int (oI 1), mUn, mUn, mUn, mUn, mUn]) (Nat.le_of_ble_eq_true rfl) rfl ?_
          refine s79 ?_
          exact hE
        · replace hE := hE.2 c26
          refine s6 (p := 91) rfl ?_
          refine s51 sh91 (by decide) (by decide) rf91_52 ?_
          refine s4 (x := x2) rfl ?_
          refine s0 ?_
          refine s17 ?_
          obtain ⟨g27, hE⟩ := hE
          refine s40 (v := ld I22 129 (x2 - 10).toNat) sh129 g27 rfl (oI_ld _ _ _) ?_
          refine s80 ?_
          exact rqI_of hE
      · replace hE := hE.2 c17
        refine s68 (inRd rfl) (fun _ => ?_) (fun c28 => absurd (by decide) c28)
        refine s79 ?_
        refine xG gb281.2.1 ?_
        refine s0 ?_
        refine s80 ?_
        exact rqI_of hE
  · replace hE := hE.2 c2
    refine s67 (inRd rfl) (fun _ => ?_) (fun c29 => absurd (by decide) c29)
    refine xG gb281.2.1 ?_
    refine s0 ?_
    refine s80 ?_
    exact rqI_of hE
section
variable {d L : Nat} {I I0 : mI} {R : Nat → Nat → Option Nat} {S : List (Nat × Nat)} {Q : Option Value → mM → Prop} {A : aS} {c day known kind half year subj code : Int}
theorem l281_5 {m what a b e : Int} {k : Nat} (hW : WfA A) (hC : WfC A) (hX : WfX A) (hR : RM I A) (hm : 0 ≤ m ∧ m ≤ 2000) (hb : 0 ≤ b ∧ b ≤ 16000) (hv : ∀ s : Nat, s < 10 → ld I 129 s = lk9 A s ∧ ld I 130 s = lv9 A s)
    (h1 : (oiL (lv9 A) (k : Int) 10 = true ∧ otS A (k : Int) ≤ m ∧ b < osL (lk9 A) (k : Int) 10) → ∀ w7 w8 w9 w10 w11, h281_4 (d + 1) L I R S Q m what (k : Int) (osL (lk9 A) (k : Int) 10) (otS A (k : Int)) ((k : Int) + 1) w7 w8 w9 w10 w11)
    (h0 : ¬ (oiL (lv9 A) (k : Int) 10 = true ∧ otS A (k : Int) ≤ m ∧ b < osL (lk9 A) (k : Int) 10) → ∀ w7 w8 w9 w10 w11, h281_4 (d + 1) L I R S Q m what a b e ((k : Int) + 1) w7 w8 w9 w10 w11) : ∀ (n s : Nat), s + n = 10 → h281_5 (d + 1) L I R S Q m what a b e k (osL (lk9 A) (k : Int) s) (2 * osL (lv9 A) (k : Int) s) (ofL A (k : Int) s) (bI (oiL (lv9 A) (k : Int) s)) s := by
  intro n
  induction n with
  | zero =>
    intro s hs
    have es : s = 10 := by omega
    subst es
    have i1 := osL_in (V := lk9 A) (set := (k : Int)) (M := 1600) (fun s _ => lk9_in hW hC s) 10 (by omega)
    have i2 := osL_in (V := lv9 A) (set := (k : Int)) (M := 40) (fun s _ => lv9_in hW s) 10 (by omega)
    have i3 := ofL_in hX (set := (k : Int)) 10 (by omega)
    refine e281_5 hR ⟨inRd rfl, fun h => absurd h (by decide), fun _ => ⟨bI_in _, fun c1 => h0 ?_ _ _ _ _ _, fun c1 => ⟨⟨by omega, by omega⟩, ⟨by omega, by omega⟩, fun c2 => h0 ?_ _ _ _ _ _, fun c2 => ⟨⟨by omega, by omega⟩, ⟨by omega, by omega⟩, fun c3 => h1 ⟨bi_t c1, by unfold otS; omega, c3⟩ _ _ _ _ _, fun c3 => h0 ?_ _ _ _ _ _⟩⟩⟩⟩
    · rintro ⟨x, -⟩; rw [bi_f c1] at x; cases x
    · rintro ⟨-, x, -⟩; unfold otS at x; omega
    · rintro ⟨-, -, x⟩; exact c3 x
  | succ n ih =>
    intro s hs
    have ih := ih (s + 1) (by omega)
    obtain ⟨e1, e2⟩ := hv s (by omega)
    have i3 := ofL_in hX (set := (k : Int)) s (by omega)
    have hx := hX.2.1 s (by omega)
    have lvi := lv9_in hW s
    refine e281_5 hR ?_
    simp only [Int.toNat_natCast, e1, e2]
    unfold osL ofL oiL at ih
    refine ⟨⟨by omega, by omega⟩, fun _ => ⟨inR_toInt _, fun c1 => ?_, fun c1 => ⟨bI_in _, fun c2 => ⟨by omega, ⟨by omega, by omega⟩, ⟨by omega, by omega⟩, ?_⟩, fun c2 => ⟨by omega, fun c3 => ⟨⟨by omega, by omega⟩, ⟨by omega, by omega⟩, ?_⟩, fun c3 => ⟨⟨by omega, by omega⟩, ⟨by omega, by omega⟩, ?_⟩⟩⟩⟩, fun h => by exfalso; omega⟩
    · rw [if_pos c1, if_pos c1, if_pos c1, if_pos c1] at ih; exact ih
    · rw [if_neg c1, if_neg c1, if_neg c1, if_neg c1, bi_f c2, Bool.false_and, Int.mul_add] at ih; exact ih
    · rw [if_neg c1, if_neg c1, if_neg c1, if_neg c1, bi_t c2, decide_eq_true c3, Int.mul_add] at ih; exact ih
    · rw [if_neg c1, if_neg c1, if_neg c1, if_neg c1, bi_t c2, decide_eq_false c3, Int.mul_add] at ih; exact ih
theorem l281_4 {m what : Int} (hW : WfA A) (hC : WfC A) (hX : WfX A) (hR : RM I A) (hm : 0 ≤ m ∧ m ≤ 2000) (hwh : 0 ≤ what ∧ what ≤ 2) (hv : ∀ s : Nat, s < 10 → ld I 129 s = lk9 A s ∧ ld I 130 s = lv9 A s) (hQ : Q (some (.int (oI (if what = 0 then (obS A m 1023).2.1 else if what = 1 then (obS A m 1023).1 else (obS A m 1023).2.2)))) (bd L I R S)) : ∀ (n k : Nat) (w7 w8 w9 w10 w11 : Value), k + n = 1023 → h281_4 (d + 1) L I R S Q m what (obS A m k).1 (obS A m k).2.1 (obS A m k).2.2 ((k : Int) + 1) w7 w8 w9 w10 w11 := by
  intro n
  induction n with
  | zero =>
    intro k w7 w8 w9 w10 w11 hk
    rw [show k = 1023 by omega]
    refine e281_4 hR ⟨⟨by decide, by decide⟩, fun h => absurd h (by decide), fun _ => ⟨⟨by omega, by omega⟩, fun c1 => ?_, fun c1 => ⟨fun c2 => ?_, fun c2 => ?_⟩⟩⟩
    · rw [if_pos c1] at hQ; exact hQ
    · rw [if_neg c1, if_pos c2] at hQ; exact hQ
    · rw [if_neg c1, if_neg c2] at hQ; exact hQ
  | succ n ih =>
    intro k w7 w8 w9 w10 w11 hk
    have oi := obS_in hW hC (m := m) k
    have es : obS A m (k + 1) = if oiL (lv9 A) ((k + 1 : Nat) : Int) 10 = true ∧ otS A ((k + 1 : Nat) : Int) ≤ m ∧ (obS A m k).2.1 < osL (lk9 A) ((k + 1 : Nat) : Int) 10 then (((k + 1 : Nat) : Int), osL (lk9 A) ((k + 1 : Nat) : Int) 10, otS A ((k + 1 : Nat) : Int)) else obS A m k := rfl
    refine e281_4 hR ⟨⟨by omega, by omega⟩, fun _ => ?_, fun h => by exfalso; omega⟩
    have q9 := l281_5 (d := d) (L := L) (R := R) (S := S) (Q := Q) (m := m) (what := what) (a := (obS A m k).1) (b := (obS A m k).2.1) (e := (obS A m k).2.2) (k := k + 1) hW hC hX hR hm oi hv (fun hc w7 w8 w9 w10 w11 => ?_) (fun hc w7 w8 w9 w10 w11 => ?_) 10 0 rfl
    · exact q9
    · have q := ih (k + 1) w7 w8 w9 w10 w11 (by omega)
      rw [es, if_pos hc] at q; exact q
    · have q := ih (k + 1) w7 w8 w9 w10 w11 (by omega)
      rw [es, if_neg hc] at q; exact q
theorem k281 {K : Int32 → mM → Prop} {m what : Int} (hR : RM I A) (hW : WfA A) (hC : WfC A) (hP : WfP A) (hX : WfX A) (h1 : inR m) (h2 : inR what) (hK : ∀ I1, FM I I1 → RM I1 A → K (oI (officerA A m what)) (bd L I1 R S)) : CallI (d + 31) 281 [.ref 91, .int (oI m), .int (oI what)] (bd L I R S) K := by
  have no : (¬ (0 ≤ m ∧ m ≤ 2000) ∨ ¬ ((0 ≤ what ∧ what ≤ 2) ∨ (10 ≤ what ∧ what ≤ 19))) → K (oI (-1)) (bd L I R S) := by
    intro h
    have hK := hK I (FM.refl _) hR
    unfold officerA at hK; rw [if_pos h] at hK; exact hK
  refine e281 hR ⟨h1, fun c1 => ⟨h2, fun c2 => ⟨hW, hC, hP, fun I1 hf1 hR1 hv1 => ⟨fun c3 => ?_, fun c3 => by exfalso; omega⟩⟩, fun c2 => ⟨fun c3 => ⟨hW, hC, hP, fun I1 hf1 hR1 hv1 => ⟨fun c4 => by exfalso; omega, fun c4 => ⟨by omega, ?_⟩⟩⟩, fun c3 => no (Or.inr (by rintro (h | h); exact c2 h; exact c3 h))⟩⟩, fun c1 => no (Or.inl c1)⟩
  · have hK := hK I1 (hf1.FM rfl) hR1
    unfold officerA at hK
    rw [if_neg (by rintro (h | h); exact h c1; exact h (Or.inl c2)), if_neg (by omega)] at hK
    exact l281_4 (d := d + 30) hW hC hX hR1 c1 c2 hv1 (rqI_of hK) 1023 0 _ _ _ _ _ rfl
  · have hK := hK I1 (hf1.FM rfl) hR1
    unfold officerA at hK
    rw [if_neg (by rintro (h | h); exact h c1; exact h (Or.inr c3)), if_pos (by omega)] at hK
    rw [(hv1 (what - 10).toNat (by omega)).1]
    exact hK
end
