/-! the reference: passes, standards -/
noncomputable def yrL (A : aS) (c year code std known : Int) : Nat → Int
  | 0 => 0
  | d + 1 => yrL A c year code std known d + (qtS A c year d 0 code std known + qtS A c year d 1 code std known)
noncomputable def yrS (A : aS) (c year code std known : Int) : Int := yrL A c year code std known 100
theorem yrL_in {A : aS} (hC : WfC A) {c year code std known : Int} : ∀ d : Nat, 0 ≤ yrL A c year code std known d ∧ yrL A c year code std known d ≤ 4 * d
  | 0 => by unfold yrL; omega
  | d + 1 => by
    unfold yrL
    have h1 := yrL_in hC (c := c) (year := year) (code := code) (std := std) (known := known) d
    have h2 := qtS_in hC (y := code) (c := c) (year := year) (d := d) (half := 0) (std := std) (known := known)
    have h3 := qtS_in hC (y := code) (c := c) (year := year) (d := d) (half := 1) (std := std) (known := known)
    omega
def psE (A : aS) (c year std known : Int) : Nat → Int := putE (putE (putE (putE (putE zE 0 (ageS A c (100 * year + 99))) 1 std) 3 year) 6 (bI (spS A 4 c (100 * year + 99) known))) 11 (bI (spS A 5 c (100 * year + 99) known))
/-- would so many marks be a pass in a subject -/
noncomputable def wpS (A : aS) (h : Nat → Int) (code subj mark : Int) : Bool := !(fsS A (putE (putE h 9 subj) 10 mark) code 4 subj == -1) && decide (seS A code (fsS A (putE (putE h 9 subj) 10 mark) code 4 subj) ≤ mark)
noncomputable def psL (A : aS) (h : Nat → Int) (c year code known : Int) : Nat → Int
  | 0 => 0
  | s + 1 => if ¬ rsS A c year s known = -1 ∧ wpS A h code s (rsS A c year s known) = true then iOr (psL A h c year code known s) (iShl 1 s) else psL A h c year code known s
theorem psL_yes {A : aS} {h : Nat → Int} {c year code known : Int} {s : Nat} (q : ¬ rsS A c year s known = -1 ∧ wpS A h code s (rsS A c year s known) = true) : psL A h c year code known (s + 1) = iOr (psL A h c year code known s) (iShl 1 s) := if_pos q
theorem psL_no {A : aS} {h : Nat → Int} {c year code known : Int} {s : Nat} (q : ¬ (¬ rsS A c year s known = -1 ∧ wpS A h code s (rsS A c year s known) = true)) : psL A h c year code known (s + 1) = psL A h c year code known s := if_neg q
noncomputable def psS (A : aS) (c year code std known : Int) : Int := psL A (psE A c year std known) c year code known 6
theorem psL_in {A : aS} {h : Nat → Int} {c year code known : Int} : ∀ s : Nat, s ≤ 6 → 0 ≤ psL A h c year code known s ∧ psL A h c year code known s < 2 ^ s
  | 0, _ => by unfold psL; decide
  | s + 1, hs => by
    have ih := psL_in (A := A) (h := h) (c := c) (year := year) (code := code) (known := known) s (by omega)
    have hp : (2 : Int) ^ (s + 1) = 2 * 2 ^ s := by rw [Int.pow_succ]; omega
    by_cases q : ¬ rsS A c year s known = -1 ∧ wpS A h code s (rsS A c year s known) = true
    · rw [psL_yes q]
      obtain ⟨m, hm⟩ : ∃ m : Nat, psL A h c year code known s = m := ⟨(psL A h c year code known s).toNat, by omega⟩
      rw [hm] at ih ⊢
      have hm2 : m < 2 ^ s := by have := ih.2; exact_mod_cast this
      have h64 : 2 ^ s ≤ 64 := Nat.pow_le_pow_right (n := 2) (by decide) (show s ≤ 6 by omega)
      have e1 : iShl 1 (s : Int) = ((1 * 2 ^ s : Nat) : Int) := iShl_nat (m := 1) (by omega) (by omega)
      rw [e1, iOr_nat (by omega) (by omega)]
      have h9 : m ||| 1 * 2 ^ s < 2 ^ (s + 1) := Nat.or_lt_two_pow (Nat.lt_of_lt_of_le hm2 (Nat.pow_le_pow_right (by decide) (by omega))) (by rw [Nat.one_mul]; exact Nat.pow_lt_pow_right (by decide) (by omega))
      constructor
      · omega
      · exact_mod_cast h9
    · rw [psL_no q]
      constructor
      · exact ih.1
      · omega
theorem psS_in {A : aS} {c year code std known : Int} : 0 ≤ psS A c year code std known ∧ psS A c year code std known < 64 := psL_in 6 (by omega)
noncomputable def stN (A : aS) (c y s known : Int) : Int := btS (psS A c y y s known)
noncomputable def stR (A : aS) (c y s known : Int) : Int := fsS A (putE (psE A c y s known) 7 (stN A c y s known)) y 5 (-1)
noncomputable def stL (A : aS) (c known : Int) : Nat → Int
  | 0 => A 95 c.toNat
  | k + 1 => if ¬ stR A c (A 94 c.toNat + k) (stL A c known k) known = -1 ∧ nuS A (A 94 c.toNat + k) (stR A c (A 94 c.toNat + k) (stL A c known k) known) ≤ stN A c (A 94 c.toNat + k) (stL A c known k) known then min 6 (stL A c known k + 1) else stL A c known k
noncomputable def stS (A : aS) (c year known : Int) : Int := stL A c known (year - A 94 c.toNat).toNat
theorem stL_in {A : aS} (hP : WfP A) {c known : Int} (hc : 0 ≤ c ∧ c < A 91 1) : ∀ k, 0 ≤ stL A c known k ∧ stL A c known k ≤ 6
  | 0 => (hP c.toNat (by omega)).2.2.2.1
  | k + 1 => by
    have ih := stL_in hP (known := known) hc k
    unfold stL
    split <;> omega
theorem stS_in {A : aS} (hP : WfP A) {c year known : Int} (hc : 0 ≤ c ∧ c < A 91 1) : 0 ≤ stS A c year known ∧ stS A c year known ≤ 6 := stL_in hP hc _
def h256_1 (d L : Nat) (I : Nat → Nat → Int32) (R : Nat → Nat → Option Nat) (S : List (Nat × Nat)) (Q : Option Value → mM → Prop) (x1 : Int) (x2 : Int) (x3 : Int) (x4 : Int) (x5 : Int) (x6 : Int) : Prop := Wp d (gb 256 1) [.ref 91, .int (oI x1), .int (oI x2), .int (oI x3), .int (oI x4), .int (oI x5), .int (oI x6)] [] (bd L I R S) Q
set_option maxRecDepth 4000 in
theorem e256_1 {d L : Nat} {I : Nat → Nat → Int32} {R : Nat → Nat → Option Nat} {S : List (Nat × Nat)} {Q : Option Value → mM → Prop} {A : aS} (hR : RM I A) {x1 : Int} {x2 : Int} {x3 : Int} {x4 : Int} {x5 : Int} {x6 : Int} (hE : inR x6 ∧ (((x6 < 100) → WfA A ∧ (WfC A ∧ (WfP A ∧ ((0 ≤ x1 ∧ x1 < A 91 1) ∧ ((0 ≤ x2 ∧ x2 ≤ 7) ∧ ((0 ≤ x6 ∧ x6 < 100) ∧ ((0 ≤ x3 ∧ x3 ≤ 7) ∧ (inR x4 ∧ (∃ n3 : Int, PShut A x2 n3 I ∧ Pnt A x1 x2 n3 I ∧ (∀ (I6 : mI), (Fr [150, 151] [(91, 87)] I I6) → (RM I6 A) → ∃ n17 : Int, PShut A x2 n17 I6 ∧ Pnt A x1 x2 n17 I6 ∧ (∀ (I20 : mI), (Fr [150, 151] [(91, 87)] I6 I20) → (RM I20 A) → h256_1 (d + 28) L I20 R S Q x1 x2 x3 x4 (x5 + (qtS A x1 x2 x6 0 x3 x4 n3 + (qtS A x1 x2 x6 1 x3 x4 n17))) (x6 + 1)))))))))))) ∧ (¬ (x6 < 100) → Q (some (.int (oI x5))) (bd L I R S)))) : h256_1 (d + 28) L I R S Q x1 x2 x3 x4 x5 x6 := by
  unfold h256_1
  refine xG gb256.2.1 ?_
  refine s4 (x := x6) rfl ?_
  refine s0 ?_
  obtain ⟨g1, hE⟩ := hE
  refine s64 g1 (inRd rfl) (fun c2 => ?_) (fun c2 => ?_)
  · replace hE := hE.1 c2
    refine s4 (x := x5) rfl ?_
    refine s6 (p := 91) rfl ?_
    refine s4 (x := x1) rfl ?_
    refine s4 (x := x2) rfl ?_
    refine s4 (x := x6) rfl ?_
    refine s0 ?_
    refine s4 (x := x3) rfl ?_
    refine s4 (x := x4) rfl ?_
    obtain ⟨g9, hE⟩ := hE
    obtain ⟨g10, hE⟩ := hE
    obtain ⟨g11, hE⟩ := hE
    obtain ⟨g12, hE⟩ := hE
    obtain ⟨g13, hE⟩ := hE
    obtain ⟨g14, hE⟩ := hE
    obtain ⟨g15, hE⟩ := hE
    obtain ⟨g16, hE⟩ := hE
    obtain ⟨n3, k4, k5, hE⟩ := hE
    refine sI rc253 rfl (Nat.le_of_ble_eq_true rfl) ?_
    refine k253 hR g9 g10 g11 g12 g13 g14 (⟨by decide, by decide⟩ : (0 : Int) ≤ 0 ∧ (0 : Int) ≤ 1) g15 g16 k4 k5 (fun I6 q7 q8 => ?_)
    replace hE := hE I6 q7 q8
    refine s6 (p := 91) rfl ?_
    refine s4 (x := x1) rfl ?_
    refine s4 (x := x2) rfl ?_
    refine s4 (x := x6) rfl ?_
    refine s0 ?_
    refine s4 (x := x3) rfl ?_
    refine s4 (x := x4) rfl ?_
    obtain ⟨n17, k18, k19, hE⟩ := hE
    refine sI rc253 rfl (Nat.le_of_ble_eq_true rfl) ?_
    refine k253 q8 g9 g10 g11 g12 g13 g14 (⟨by decide, by decide⟩ : (0 : Int) ≤ 1 ∧ (1 : Int) ≤ 1) g15 g16 k18 k19 (fun I20 q21 q22 => ?_)
    replace hE := hE I20 q21 q22
    refine s16 ?_
    refine s16 ?_
    refine s7 (ls' := [.ref 91, .int (oI x1), .int (oI x2), .int (oI x3), .int (oI x4), .int (oI (x5 + (qtS A x1 x2 x6 0 x3 x4 n3 + (qtS A x1 x2 x6 1 x3 x4 n17)))), .int (oI x6)]) (Nat.le_of_ble_eq_true rfl) rfl ?_
    refine s10 (x := x6) (ls' := [.ref 91, .int (oI x1), .int (oI x2), .int (oI x3), .int (oI x4), .int (oI (x5 + (qtS A x1 x2 x6 0 x3 x4 n3 + (qtS A x1 x2 x6 1 x3 x4 n17)))), .int (oI (x6 + 1))]) rfl rfl ?_
    refine s60 ?_
    exact hE
  · replace hE := hE.2 c2
    refine xG gb256.2.2 ?_
    refine s4 (x := x5) rfl ?_
    refine s80 ?_
    exact hE
set_option maxRecDepth 4000 in
theorem e256 {d L : Nat} {I : Nat → Nat → Int32} {R : Nat → Nat → Option Nat} {S : List (Nat × Nat)} {K : Int32 → mM → Prop} {A : aS} (hR : RM I A) {x1 : Int} {x2 : Int} {x3 : Int} {x4 : Int} (hE : h256_1 d L I R S (rqI K) x1 x2 x3 x4 0 0) : CallI d 256 [.ref 91, .int (oI x1), .int (oI x2), .int (oI x3), .int (oI x4)] (bd L I R S) K := by
  refine cI_of (ls := [.ref 91, .int (oI x1), .int (oI x2), .int (oI x3), .int (oI x4), mUn, mUn]) rfl ?_
  refine xG gb256.1 ?_
  refine s0 ?_
  refine s7 (ls' := [.ref 91, .int (oI x1), .int (oI x2), .int (oI x3), .int (oI x4), .int (oI 0), mUn]) (Nat.le_of_ble_eq_true rfl) rfl ?_
  refine s0 ?_
  refine s7 (ls' := [.ref 91, .int (oI x1), .int (oI x2), .int (oI x3), .int (oI x4), .int (oI 0), .int (oI 0)]) (Nat.le_of_ble_eq_true rfl) rfl ?_
  refine s79 ?_
  exact hE
set_option maxRecDepth 4000 in
theorem e235 {d L : Nat} {I : Nat → Nat → Int32} {R : Nat → Nat → Option Nat} {S : List (Nat × Nat)} {K : mM → Prop} {A : aS} (hR : RM I A) {x1 : Int} {x2 : Int} {x3 : Int} {x4 : Int} (hE : ∀ (I1 : mI), (Fr [150] [] I I1) → (∀ j : Nat, j < 12 → ld I1 150 j = 0) → (0 ≤ x1 ∧ x1 < 40) ∧ (inR (((100 * x2) + 99) - (A 92 x1.toNat)) ∧ (inR (Int.tdiv (((100 * x2) + 99) - (A 92 x1.toNat)) 100) ∧ (WfN A ∧ (inR x1 ∧ (inR ((100 * x2) + 99) ∧ (inR x4 ∧ (K (bd L (u2 (u2 (u2 (u2 (u2 I1 150 0 (oI (max 0 (Int.tdiv (((100 * x2) + 99) - (A 92 x1.toNat)) 100)))) 150 1 (oI x3)) 150 3 (oI x2)) 150 6 (oI (bI (spS A 4 x1 ((100 * x2) + 99) x4)))) 150 11 (oI (bI (spS A 5 x1 ((100 * x2) + 99) x4)))) R S))))))))) : CallV (d + 2) 235 [.ref 91, .int (oI x1), .int (oI x2), .int (oI x3), .int (oI x4)] (bd L I R S) K := by
  refine cV_of (ls := [.ref 91, .int (oI x1), .int (oI x2), .int (oI x3), .int (oI x4), mUn]) rfl ?_
  refine xG gb235 ?_
  refine s6 (p := 91) rfl ?_
  refine sV rc236 rfl (Nat.le_of_ble_eq_true rfl) ?_
  refine k236R hR (fun I1 q2 q3 => ?_)
  replace hE := hE I1 q2 q3
  refine s0 ?_
  refine s4 (x := x2) rfl ?_
  refine s18 ?_
  refine s0 ?_
  refine s16 ?_
  refine s7 (ls' := [.ref 91, .int (oI x1), .int (oI x2), .int (oI x3), .int (oI x4), .int (oI ((100 * x2) + 99))]) (Nat.le_of_ble_eq_true rfl) rfl ?_
  refine s6 (p := 91) rfl ?_
  refine s51 sh91 (by decide) (by decide) rf91_85 ?_
  refine s0 ?_
  refine s6 (p := 91) rfl ?_
  refine s4 (x := x1) rfl ?_
  refine s4 (x := (100 * x2) + 99) rfl ?_
  refine sI rc237 rfl (Nat.le_of_ble_eq_true rfl) ?_
  refine cI_of (ls := [.ref 91, .int (oI x1), .int (oI ((100 * x2) + 99))]) rfl ?_
  refine xG gb237 ?_
  refine s0 ?_
  refine s4 (x := (100 * x2) + 99) rfl ?_
  refine s6 (p := 91) rfl ?_
  refine s51 sh91 (by decide) (by decide) rf91_5 ?_
  refine s4 (x := x1) rfl ?_
  obtain ⟨g4, hE⟩ := hE
  refine s40 (v := A 92 x1.toNat) sh92 g4 rfl (rdM (RM.fr hR q2 rfl rfl (fun _ => rfl)).1 rfl) ?_
  refine s17 ?_
  refine s0 ?_
  obtain ⟨g5, hE⟩ := hE
  refine s19 g5 ⟨(inRd rfl), by decide⟩ ?_
  obtain ⟨g6, hE⟩ := hE
  refine sI rc346 rfl (Nat.le_of_ble_eq_true rfl) ?_
  refine k346 (inRd rfl) g6 ?_
  refine s80 ?_
  refine rqI_of ?_
  refine s44 sh150 (by decide) (⟨by decide, by decide⟩ : (0 : Int) ≤ 0 ∧ (0 : Int) < 12) rfl ?_
  refine s6 (p := 91) rfl ?_
  refine s51 sh91 (by decide) (by decide) rf91_85 ?_
  refine s0 ?_
  refine s4 (x := x3) rfl ?_
  refine s44 sh150 (by decide) (⟨by decide, by decide⟩ : (0 : Int) ≤ 1 ∧ (1 : Int) < 12) rfl ?_
  refine s6 (p := 91) rfl ?_
  refine s51 sh91 (by decide) (by decide) rf91_85 ?_
  refine s0 ?_
  refine s4 (x := x2) rfl ?_
  refine s44 sh150 (by decide) (⟨by decide, by decide⟩ : (0 : Int) ≤ 3 ∧ (3 : Int) < 12) rfl ?_
  refine s6 (p := 91) rfl ?_
  refine s51 sh91 (by decide) (by decide) rf91_85 ?_
  refine s0 ?_
  refine s6 (p := 91) rfl ?_
  refine s0 ?_
  refine s4 (x := x1) rfl ?_
  refine s4 (x := (100 * x2) + 99) rfl ?_
  refine s4 (x := x4) rfl ?_
  obtain ⟨g7, hE⟩ := hE
  obtain ⟨g8, hE⟩ := hE
  obtain ⟨g9, hE⟩ := hE
  obtain ⟨g10, hE⟩ := hE
  refine sI rc238 rfl (Nat.le_of_ble_eq_true rfl) ?_
  refine k238' (RelM.scr (RelM.scr (RelM.scr (RM.fr hR q2 rfl rfl (fun _ => rfl)).1 rfl) rfl) rfl) g7 (inRd rfl) g8 g9 g10 ?_
  refine sI rc227 rfl (Nat.le_of_ble_eq_true rfl) ?_
  refine k227 (bI_01 _) ?_
  refine s44 sh150 (by decide) (⟨by decide, by decide⟩ : (0 : Int) ≤ 6 ∧ (6 : Int) < 12) rfl ?_
  refine s6 (p := 91) rfl ?_
  refine s51 sh91 (by decide) (by decide) rf91_85 ?_
  refine s0 ?_
  refine s6 (p := 91) rfl ?_
  refine s0 ?_
  refine s4 (x := x1) rfl ?_
  refine s4 (x := (100 * x2) + 99) rfl ?_
  refine s4 (x := x4) rfl ?_
  refine sI rc238 rfl (Nat.le_of_ble_eq_true rfl) ?_
  refine k238' (RelM.scr (RelM.scr (RelM.scr (RelM.scr (RM.fr hR q2 rfl rfl (fun _ => rfl)).1 rfl) rfl) rfl) rfl) g7 (inRd rfl) g8 g9 g10 ?_
  refine sI rc227 rfl (Nat.le_of_ble_eq_true rfl) ?_
  refine k227 (bI_01 _) ?_
  refine s44 sh150 (by decide) (⟨by decide, by decide⟩ : (0 : Int) ≤ 11 ∧ (11 : Int) < 12) rfl ?_
  refine s83 ?_
  exact rqV_of hE
set_option maxRecDepth 4000 in
theorem e240 {d L : Nat} {I : Nat → Nat → Int32} {R : Nat → Nat → Option Nat} {S : List (Nat × Nat)} {K : Int32 → mM → Prop} {A : aS} (hR : RM I A) {x1 : Int} {x2 : Int} {x3 : Int} (hE : WfC A ∧ ((0 ≤ x1 ∧ x1 ≤ 7) ∧ (inR x2 ∧ (∃ e4 : Nat → Int, EnvI (u2 (u2 I 150 9 (oI x2)) 150 10 (oI x3)) e4 ∧ (∀ (I6 : mI), (Fr [151] [(91, 87)] (u2 (u2 I 150 9 (oI x2)) 150 10 (oI x3)) I6) → (RM I6 A) → inR (fsS A e4 x1 4 x2) ∧ (((fsS A e4 x1 4 x2 = (-1)) → K (oI 0) (bd L (u2 (u2 I6 150 9 (oI 0)) 150 10 (oI 0)) R S)) ∧ (¬ (fsS A e4 x1 4 x2 = (-1)) → (0 ≤ fsS A e4 x1 4 x2 ∧ fsS A e4 x1 4 x2 ≤ 60) ∧ (∀ (I12 : mI), (Fr [151] [(91, 87)] (u2 (u2 I6 150 9 (oI 0)) 150 10 (oI 0)) I12) → (RM I12 A) → (0 ≤ cdS A x1 (fsS A e4 x1 4 x2) ∧ cdS A x1 (fsS A e4 x1 4 x2) < 360) ∧ (inR x3 ∧ (((x3 < A 142 (cdS A x1 (fsS A e4 x1 4 x2)).toNat) → K (oI 0) (bd L I12 R S)) ∧ (¬ (x3 < A 142 (cdS A x1 (fsS A e4 x1 4 x2)).toNat) → K (oI 1) (bd L I12 R S)))))))))))) : CallI (d + 26) 240 [.ref 91, .int (oI x1), .int (oI x2), .int (oI x3)] (bd L I R S) K := by
  refine cI_of (ls := [.ref 91, .int (oI x1), .int (oI x2), .int (oI x3), mUn]) rfl ?_
  refine xG gb240.1 ?_
  refine s6 (p := 91) rfl ?_
  refine s51 sh91 (by decide) (by decide) rf91_85 ?_
  refine s0 ?_
  refine s4 (x := x2) rfl ?_
  refine s44 sh150 (by decide) (⟨by decide, by decide⟩ : (0 : Int) ≤ 9 ∧ (9 : Int) < 12) rfl ?_
  refine s6 (p := 91) rfl ?_
  refine s51 sh91 (by decide) (by decide) rf91_85 ?_
  refine s0 ?_
  refine s4 (x := x3) rfl ?_
  refine s44 sh150 (by decide) (⟨by decide, by decide⟩ : (0 : Int) ≤ 10 ∧ (10 : Int) < 12) rfl ?_
  refine s6 (p := 91) rfl ?_
  refine s4 (x := x1) rfl ?_
  refine s0 ?_
  refine s4 (x := x2) rfl ?_
  obtain ⟨g1, hE⟩ := hE
  obtain ⟨g2, hE⟩ := hE
  obtain ⟨g3, hE⟩ := hE
  obtain ⟨e4, k5, hE⟩ := hE
  refine sI rc220 rfl (Nat.le_of_ble_eq_true rfl) ?_
  refine k220 k5 (RM.scr (RM.scr hR rfl) rfl) g1 g2 (inRd rfl) g3 (fun I6 q7 q8 => ?_)
  replace hE := hE I6 q7 q8
  refine s7 (ls' := [.ref 91, .int (oI x1), .int (oI x2), .int (oI x3), .int (oI (fsS A e4 x1 4 x2))]) (Nat.le_of_ble_eq_true rfl) rfl ?_
  refine s6 (p := 91) rfl ?_
  refine s51 sh91 (by decide) (by decide) rf91_85 ?_
  refine s0 ?_
  refine s0 ?_
  refine s44 sh150 (by decide) (⟨by decide, by decide⟩ : (0 : Int) ≤ 9 ∧ (9 : Int) < 12) rfl ?_
  refine s6 (p := 91) rfl ?_
  refine s51 sh91 (by decide) (by decide) rf91_85 ?_
  refine s0 ?_
  refine s0 ?_
  refine s44 sh150 (by decide) (⟨by decide, by decide⟩ : (0 : Int) ≤ 10 ∧ (10 : Int) < 12) rfl ?_
  refine s4 (x := fsS A e4 x1 4 x2) rfl ?_
  refine s0 ?_
  obtain ⟨g9, hE⟩ := hE
  refine s61 g9 (inRd rfl) (fun c10 => ?_) (fun c10 => ?_)
  · replace hE := hE.1 c10
    refine xG gb240.2.1 ?_
    refine s0 ?_
    refine s79 ?_
    refine xG gb240.2.2 ?_
    refine s84 (by decide) ?_
    exact rqI_of hE
  · replace hE := hE.2 c10
    refine s4 (x := x3) rfl ?_
    refine s6 (p := 91) rfl ?_
    refine s51 sh91 (by decide) (by decide) rf91_77 ?_
    refine s6 (p := 91) rfl ?_
    refine s4 (x := x1) rfl ?_
    refine s4 (x := fsS A e4 x1 4 x2) rfl ?_
    obtain ⟨g11, hE⟩ := hE
    refine sI rc221 rfl (Nat.le_of_ble_eq_true rfl) ?_
    refine k221 (RM.scr (RM.scr q8 rfl) rfl) g1 g2 g11 (fun I12 q13 q14 => ?_)
    replace hE := hE I12 q13 q14
    obtain ⟨g15, hE⟩ := hE
    refine s40 (v := A 142 (cdS A x1 (fsS A e4 x1 4 x2)).toNat) sh142 g15 rfl (rdM (q14).1 rfl) ?_
    obtain ⟨g16, hE⟩ := hE
    refine s63 g16 (inA (q14).1 (a := 142) (k := (cdS A x1 (fsS A e4 x1 4 x2)).toNat) rfl) (fun c17 => ?_) (fun c17 => ?_)
    · replace hE := hE.1 c17
      refine xG gb240.2.1 ?_
      refine s0 ?_
      refine s79 ?_
      refine xG gb240.2.2 ?_
      refine s84 (by decide) ?_
      exact rqI_of hE
    · replace hE := hE.2 c17
      refine s0 ?_
      refine s60 ?_
      refine xG gb240.2.2 ?_
      refine s84 (by decide) ?_
      exact rqI_of hE
section
variable {d L : Nat} {I I0 : mI} {R : Nat → Nat → Option Nat} {S : List (Nat × Nat)} {Q : Option Value → mM → Prop} {A : aS} {c day known kind half year subj code : Int}
theorem PShut.fr {I1 : mI} {ws : List Nat} {os : List (Nat × Nat)} (h : PShut A year known I) (hf : Fr ws os I I1) (hp : ∀ k, (ws.contains 116 || os.contains (116, k)) = false) : PShut A year known I1 := fun s e hs he => (hf.ld (hp _)).trans (h s e hs he)
theorem Pnt.fr {I1 : mI} {ws : List Nat} {os : List (Nat × Nat)} (h : Pnt A c year known I) (hf : Fr ws os I I1) (hp : ∀ a k, 111 ≤ a ∧ a ≤ 115 → (ws.contains a || os.contains (a, k)) = false) : Pnt A c year known I1 := by
  refine ⟨fun e he => ?_, fun e he => (hf.ld (hp 112 _ (by omega))).trans (h.2 e he)⟩
  obtain ⟨p1, p2, p3, p4⟩ := h.1 e he
  exact ⟨(hf.ld (hp 111 _ (by omega))).trans p1, (hf.ld (hp 113 _ (by omega))).trans p2, (hf.ld (hp 114 _ (by omega))).trans p3, (hf.ld (hp 115 _ (by omega))).trans p4⟩
theorem hpQ : ∀ a k, 111 ≤ a ∧ a ≤ 115 → (([150, 151] : List Nat).contains a || ([(91, 87)] : List (Nat × Nat)).contains (a, k)) = false := by
  intro a k h
  have : a = 111 ∨ a = 112 ∨ a = 113 ∨ a = 114 ∨ a = 115 := by omega
  rcases this with rfl | rfl | rfl | rfl | rfl <;> rfl
theorem l256 {std : Int} (hW : WfA A) (hC : WfC A) (hP : WfP A) (hc : 0 ≤ c ∧ c < A 91 1) (hy : 0 ≤ year ∧ year ≤ 7) (hcd : 0 ≤ code ∧ code ≤ 7) (hst : inR std) (hK : ∀ I1, Fr [150, 151] [(91, 87)] I0 I1 → RM I1 A → Q (some (.int (oI (yrS A c year code std known)))) (bd L I1 R S)) : ∀ (n k : Nat) (I : mI), k + n = 100 → RM I A → Fr [150, 151] [(91, 87)] I0 I → PShut A year known I → Pnt A c year known I → h256_1 (d + 28) L I R S Q c year code std (yrL A c year code std known k) k := by
  intro n
  induction n with
  | zero =>
    intro k I hk hR hf hS hN
    refine e256_1 hR ⟨⟨by omega, by omega⟩, fun h => by exfalso; omega, fun _ => ?_⟩
    rw [show k = 100 by omega]
    exact hK I hf hR
  | succ n ih =>
    intro k I hk hR hf hS hN
    refine e256_1 hR ⟨⟨by omega, by omega⟩, fun h => ?_, fun h => by exfalso; omega⟩
    refine ⟨hW, hC, hP, hc, hy, by omega, hcd, hst, known, hS, hN, fun I1 hf1 hR1 => ?_⟩
    have hS1 := hS.fr hf1 (fun _ => rfl)
    have hN1 := hN.fr hf1 hpQ
    refine ⟨known, hS1, hN1, fun I2 hf2 hR2 => ?_⟩
    exact ih (k + 1) I2 (by omega) hR2 (hf.trans (hf1.trans hf2)) (hS1.fr hf2 (fun _ => rfl)) (hN1.fr hf2 hpQ)
theorem k256 {K : Int32 → mM → Prop} {std : Int} (hR : RM I A) (hW : WfA A) (hC : WfC A) (hP : WfP A) (hc : 0 ≤ c ∧ c < A 91 1) (hy : 0 ≤ year ∧ year ≤ 7) (hcd : 0 ≤ code ∧ code ≤ 7) (hst : inR std) (hS : PShut A year known I) (hN : Pnt A c year known I) (hK : ∀ I1, Fr [150, 151] [(91, 87)] I I1 → RM I1 A → K (oI (yrS A c year code std known)) (bd L I1 R S)) : CallI (d + 28) 256 [.ref 91, .int (oI c), .int (oI year), .int (oI code), .int (oI std)] (bd L I R S) K :=
  e256 hR (l256 hW hC hP hc hy hcd hst (fun I1 h1 h2 => rqI_of (hK I1 h1 h2)) 100 0 I rfl hR (Fr.refl _ _ _) hS hN)
theorem k235 {K : mM → Prop} {std : Int} (hR : RM I A) (hW : WfA A) (hP : WfP A) (hc : 0 ≤ c ∧ c < A 91 1) (hy : 0 ≤ year ∧ year ≤ 7) (hst : inR std) (hkn : inR known) (hK : ∀ I1, Fr [150] [] I I1 → EnvI I1 (psE A c year std known) → K (bd L I1 R S)) : CallV (d + 2) 235 [.ref 91, .int (oI c), .int (oI year), .int (oI std), .int (oI known)] (bd L I R S) K := by
  have wp := (hP c.toNat (by omega)).1
  have hW1 := hW.2.1
  have d1 : -799 ≤ Int.tdiv (100 * year + 99 - A 92 c.toNat) 100 ∧ Int.tdiv (100 * year + 99 - A 92 c.toNat) 100 ≤ 2299 := tdiv_bd (a := 799) (b := 2299) (by omega) (by omega) (by omega) (by omega)
  refine e235 hR fun I1 hf hz => ⟨by omega, ⟨by omega, by omega⟩, ⟨by omega, by omega⟩, hW.2.2.2.1, ⟨by omega, by omega⟩, ⟨by omega, by omega⟩, hkn, ?_⟩
  have hag : inR (max 0 (Int.tdiv (100 * year + 99 - A 92 c.toNat) 100)) := ⟨by omega, by omega⟩
  exact hK _ (((((hf.wr rfl).wr rfl).wr rfl).wr rfl).wr rfl) ((((((EnvI.zero hz).put (k := 0) hag).put (k := 1) hst).put (k := 3) (v := year) ⟨by omega, by omega⟩).put (k := 6) (v := bI (spS A 4 c (100 * year + 99) known)) (bI_in _)).put (k := 11) (v := bI (spS A 5 c (100 * year + 99) known)) (bI_in _))
theorem env_back {h : Nat → Int} {I : mI} {x y : Int} (he : EnvI I (putE (putE h 9 x) 10 y)) (h9 : h 9 = 0) (h10 : h 10 = 0) : EnvI (u2 (u2 I 150 9 (oI 0)) 150 10 (oI 0)) h := by
  have q := (he.put (k := 9) (v := 0) (inRd rfl)).put (k := 10) (v := 0) (inRd rfl)
  intro i hi
  rw [q i hi]
  unfold putE
  by_cases e1 : i = 10
  · rw [if_pos e1, e1, h10]
  · rw [if_neg e1]
    by_cases e2 : i = 9
    · rw [if_pos e2, e2, h9]
    · rw [if_neg e2, if_neg e1, if_neg e2]
theorem k240 {K : Int32 → mM → Prop} {mark : Int} {h : Nat → Int} (he : EnvI I h) (h9 : h 9 = 0) (h10 : h 10 = 0) (hR : RM I A) (hC : WfC A) (hcd : 0 ≤ code ∧ code ≤ 7) (hsj : inR subj) (hmk : inR mark) (h1 : wpS A h code subj mark = true → ∀ I1, Fr [150, 151] [(91, 87)] I I1 → RM I1 A → EnvI I1 h → K (oI 1) (bd L I1 R S)) (h0 : ¬ wpS A h code subj mark = true → ∀ I1, Fr [150, 151] [(91, 87)] I I1 → RM I1 A → EnvI I1 h → K (oI 0) (bd L I1 R S)) : CallI (d + 26) 240 [.ref 91, .int (oI code), .int (oI subj), .int (oI mark)] (bd L I R S) K := by
  refine e240 hR ⟨hC, hcd, hsj, _, (he.put (k := 9) hsj).put (k := 10) hmk, fun I1 hf1 hR1 => ?_⟩
  have fr1 : Fr [150, 151] [(91, 87)] I I1 := (((Fr.refl _ _ _).wr rfl).wr rfl).trans (hf1.sub rfl rfl)
  have he1 := ((he.put (k := 9) hsj).put (k := 10) hmk).fr hf1 (fun _ => rfl)
  have he2 := env_back he1 h9 h10
  rcases fsS_prop hC (h := putE (putE h 9 subj) 10 mark) (y := code) (kind := 4) (key := subj) with q | ⟨m, s, q1, q2, q3, q4, q5, -⟩
  · rw [q]
    refine ⟨inRd rfl, fun _ => h0 ?_ _ ((fr1.wr rfl).wr rfl) ((hR1.scr rfl).scr rfl) he2, fun h => absurd rfl h⟩
    unfold wpS; rw [q]; simp
  · have ew : wpS A h code subj mark = decide (A 142 s ≤ mark) := by
      unfold wpS seS
      rw [q1, q4, if_neg (by omega), Int.toNat_natCast]
      have : ((m : Int) == -1) = false := by simp
      rw [this]; rfl
    rw [q1, q4, Int.toNat_natCast]
    refine ⟨⟨by omega, by omega⟩, fun h => by exfalso; omega, fun _ => ⟨by omega, fun I2 hf2 hR2 => ⟨by omega, hmk, fun hl => ?_, fun hl => ?_⟩⟩⟩
    · exact h0 (by rw [ew]; simp; omega) _ (((fr1.wr rfl).wr rfl).trans (hf2.sub rfl rfl)) hR2 (he2.fr hf2 (fun _ => rfl))
    · exact h1 (by rw [ew]; simp; omega) _ (((fr1.wr rfl).wr rfl).trans (hf2.sub rfl rfl)) hR2 (he2.fr hf2 (fun _ => rfl))
end
