/-! the reference: what entering brings -/
noncomputable def brL (A : aS) (e : Nat → Int) (c year set : Int) : Nat → Int
  | 0 => 0
  | n + 1 => if ¬ cdS A year (n + 1 : Nat) = -1 ∧ A 140 (cdS A year (n + 1 : Nat)).toNat = 6 ∧ (0 ≤ A 142 (cdS A year (n + 1 : Nat)).toNat ∧ A 142 (cdS A year (n + 1 : Nat)).toNat ≤ 5) ∧ ¬ iAnd (iShr set (A 142 (cdS A year (n + 1 : Nat)).toNat)) 1 = 0 ∧ hdB A (putE (putE e 9 (A 142 (cdS A year (n + 1 : Nat)).toNat)) 10 (A 97 (6 * c + A 142 (cdS A year (n + 1 : Nat)).toNat).toNat)) (cdS A year (n + 1 : Nat)).toNat = true then brL A e c year set n + A 141 (cdS A year (n + 1 : Nat)).toNat else brL A e c year set n
noncomputable def brS (A : aS) (e : Nat → Int) (c year set : Int) : Int := brL A (putE e 7 (btS set)) c year set 60
theorem brL_in {A : aS} (hC : WfC A) {e : Nat → Int} {c year set : Int} : ∀ n : Nat, 0 ≤ brL A e c year set n ∧ brL A e c year set n ≤ 9999 * n
  | 0 => by unfold brL; omega
  | n + 1 => by
    have ih := brL_in hC (e := e) (c := c) (year := year) (set := set) n
    unfold brL
    split
    · rename_i h
      obtain ⟨s, s1, s2, s3, s4, s5, -⟩ := cdS_wf hC h.1
      have e2 : (cdS A year (n + 1 : Nat)).toNat = s := by omega
      have h6 := h.2.1
      rw [e2] at h6 ⊢
      have w := (s3.2.2 s5).1 (by omega)
      omega
    · omega
theorem brS_in {A : aS} (hC : WfC A) {e : Nat → Int} {c year set : Int} : 0 ≤ brS A e c year set ∧ brS A e c year set ≤ 599940 := by
  have := brL_in hC (e := putE e 7 (btS set)) (c := c) (year := year) (set := set) 60
  unfold brS; omega
noncomputable def myL (A : aS) (h : Nat → Int) (c year : Int) : Nat → Int
  | 0 => 0
  | s + 1 => if ¬ A 97 (6 * c + s).toNat = -1 ∧ wpS A h year s (A 97 (6 * c + s).toNat) = true then iOr (myL A h c year s) (iShl 1 s) else myL A h c year s
noncomputable def tdE (A : aS) (c year : Int) : Nat → Int := psE A c year (stS A c year (A 91 0)) (A 91 0)
noncomputable def mayS (A : aS) (c year : Int) : Int := myL A (tdE A c year) c year 6
noncomputable def woE (A : aS) (c year : Int) : Nat → Int := putE (tdE A c year) 8 (yrS A c year year (stS A c year (A 91 0)) (A 91 0))
/-- what a set of subjects is worth; -1 where it may not be -/
noncomputable def woS (A : aS) (c year set : Int) : Int := if iAnd set (iXor (mayS A c year) (-1)) = 0 then brS A (woE A c year) c year set else -1
theorem woS_in {A : aS} (hC : WfC A) {c year set : Int} : -1 ≤ woS A c year set ∧ woS A c year set ≤ 599940 := by
  have := brS_in hC (e := woE A c year) (c := c) (year := year) (set := set)
  unfold woS; split <;> omega
def h280_1 (d L : Nat) (I : Nat → Nat → Int32) (R : Nat → Nat → Option Nat) (S : List (Nat × Nat)) (Q : Option Value → mM → Prop) (x1 : Int) (x2 : Int) (x3 : Int) (x4 : Int) (x5 : Int) (w6 : Value) : Prop := Wp d (gb 280 1) [.ref 91, .int (oI x1), .int (oI x2), .int (oI x3), .int (oI x4), .int (oI x5), w6] [] (bd L I R S) Q
set_option maxRecDepth 4000 in
theorem e280_1 {d L : Nat} {I : Nat → Nat → Int32} {R : Nat → Nat → Option Nat} {S : List (Nat × Nat)} {Q : Option Value → mM → Prop} {A : aS} (hR : RM I A) {x1 : Int} {x2 : Int} {x3 : Int} {x4 : Int} {x5 : Int} {w6 : Value} (hE : inR x5 ∧ (((60 < x5) → Q (some (.int (oI x4))) (bd L I R S)) ∧ (¬ (60 < x5) → WfC A ∧ ((0 ≤ x2 ∧ x2 ≤ 7) ∧ ((0 ≤ x5 ∧ x5 ≤ 60) ∧ (∀ (I6 : mI), (Fr [151] [(91, 87)] I I6) → (RM I6 A) → inR (cdS A x2 x5) ∧ (((cdS A x2 x5 = (-1)) → h280_1 (d + 25) L I6 R S Q x1 x2 x3 x4 (x5 + 1) (.int (oI (cdS A x2 x5)))) ∧ (¬ (cdS A x2 x5 = (-1)) → (0 ≤ cdS A x2 x5 ∧ cdS A x2 x5 < 360) ∧ (((A 140 (cdS A x2 x5).toNat = 6) → ((0 ≤ A 142 (cdS A x2 x5).toNat ∧ A 142 (cdS A x2 x5).toNat ≤ 5) → inR (iAnd (iShr x3 (A 142 (cdS A x2 x5).toNat)) 1) ∧ (((iAnd (iShr x3 (A 142 (cdS A x2 x5).toNat)) 1 = 0) → h280_1 (d + 25) L I6 R S Q x1 x2 x3 x4 (x5 + 1) (.int (oI (cdS A x2 x5)))) ∧ (¬ (iAnd (iShr x3 (A 142 (cdS A x2 x5).toNat)) 1 = 0) → (0 ≤ (6 * x1) + (A 142 (cdS A x2 x5).toNat) ∧ (6 * x1) + (A 142 (cdS A x2 x5).toNat) < 240) ∧ ((0 ≤ cdS A x2 x5 ∧ cdS A x2 x5 < 320) ∧ (WfS A (cdS A x2 x5).toNat ∧ (¬ A 140 (cdS A x2 x5).toNat = 0 ∧ (∃ e18 : Nat → Int, EnvI (u2 (u2 I6 150 9 (oI (A 142 (cdS A x2 x5).toNat))) 150 10 (oI (A 97 ((6 * x1) + (A 142 (cdS A x2 x5).toNat)).toNat))) e18 ∧ (((hdB A e18 (cdS A x2 x5).toNat = true) → h280_1 (d + 25) L (u2 (u2 (u2 (u2 I6 150 9 (oI (A 142 (cdS A x2 x5).toNat))) 150 10 (oI (A 97 ((6 * x1) + (A 142 (cdS A x2 x5).toNat)).toNat))) 150 9 (oI 0)) 150 10 (oI 0)) R S Q x1 x2 x3 (x4 + (A 141 (cdS A x2 x5).toNat)) (x5 + 1) (.int (oI (cdS A x2 x5)))) ∧ (¬ (hdB A e18 (cdS A x2 x5).toNat = true) → h280_1 (d + 25) L (u2 (u2 (u2 (u2 I6 150 9 (oI (A 142 (cdS A x2 x5).toNat))) 150 10 (oI (A 97 ((6 * x1) + (A 142 (cdS A x2 x5).toNat)).toNat))) 150 9 (oI 0)) 150 10 (oI 0)) R S Q x1 x2 x3 x4 (x5 + 1) (.int (oI (cdS A x2 x5)))))))))))) ∧ (¬ (0 ≤ A 142 (cdS A x2 x5).toNat ∧ A 142 (cdS A x2 x5).toNat ≤ 5) → h280_1 (d + 25) L I6 R S Q x1 x2 x3 x4 (x5 + 1) (.int (oI (cdS A x2 x5))))) ∧ (¬ (A 140 (cdS A x2 x5).toNat = 6) → h280_1 (d + 25) L I6 R S Q x1 x2 x3 x4 (x5 + 1) (.int (oI (cdS A x2 x5))))))))))))) : h280_1 (d + 25) L I R S Q x1 x2 x3 x4 x5 w6 := by
  unfold h280_1
  refine xG gb280.2.1 ?_
  refine s4 (x := x5) rfl ?_
  refine s0 ?_
  obtain ⟨g1, hE⟩ := hE
  refine s65 g1 (inRd rfl) (fun c2 => ?_) (fun c2 => ?_)
  · replace hE := hE.1 c2
    refine xG gb280.2.2.2.2.2 ?_
    refine s4 (x := x4) rfl ?_
    refine s80 ?_
    exact hE
  · replace hE := hE.2 c2
    refine s6 (p := 91) rfl ?_
    refine s4 (x := x2) rfl ?_
    refine s4 (x := x5) rfl ?_
    obtain ⟨g3, hE⟩ := hE
    obtain ⟨g4, hE⟩ := hE
    obtain ⟨g5, hE⟩ := hE
    refine sI rc221 rfl (Nat.le_of_ble_eq_true rfl) ?_
    refine k221 hR g3 g4 g5 (fun I6 q7 q8 => ?_)
    replace hE := hE I6 q7 q8
    refine s7 (ls' := [.ref 91, .int (oI x1), .int (oI x2), .int (oI x3), .int (oI x4), .int (oI x5), .int (oI (cdS A x2 x5))]) (Nat.le_of_ble_eq_true rfl) rfl ?_
    refine s4 (x := cdS A x2 x5) rfl ?_
    refine s0 ?_
    obtain ⟨g9, hE⟩ := hE
    refine s61 g9 (inRd rfl) (fun c10 => ?_) (fun c10 => ?_)
    · replace hE := hE.1 c10
      refine xG gb280.2.2.2.2.1 ?_
      refine s10 (x := x5) (ls' := [.ref 91, .int (oI x1), .int (oI x2), .int (oI x3), .int (oI x4), .int (oI (x5 + 1)), .int (oI (cdS A x2 x5))]) rfl rfl ?_
      refine s60 ?_
      exact hE
    · replace hE := hE.2 c10
      refine s6 (p := 91) rfl ?_
      refine s51 sh91 (by decide) (by decide) rf91_75 ?_
      refine s4 (x := cdS A x2 x5) rfl ?_
      obtain ⟨g11, hE⟩ := hE
      refine s40 (v := A 140 (cdS A x2 x5).toNat) sh140 g11 rfl (rdM (q8).1 rfl) ?_
      refine s0 ?_
      refine s62 (inA (q8).1 (a := 140) (k := (cdS A x2 x5).toNat) rfl) (inRd rfl) (fun c12 => ?_) (fun c12 => ?_)
      · replace hE := hE.1 c12
        refine s6 (p := 91) rfl ?_
        refine s51 sh91 (by decide) (by decide) rf91_77 ?_
        refine s4 (x := cdS A x2 x5) rfl ?_
        refine s40 (v := A 142 (cdS A x2 x5).toNat) sh142 g11 rfl (rdM (q8).1 rfl) ?_
        refine s0 ?_
        refine s0 ?_
        refine sI rc210 rfl (Nat.le_of_ble_eq_true rfl) ?_
        refine k210 (inA (q8).1 (a := 142) (k := (cdS A x2 x5).toNat) rfl) (inRd rfl) (inRd rfl) (fun c13 => ?_) (fun c13 => ?_)
        · replace hE := hE.1 c13
          refine s67 (inRd rfl) (fun c14 => absurd c14 (by decide)) (fun _ => ?_)
          refine s4 (x := x3) rfl ?_
          refine s6 (p := 91) rfl ?_
          refine s51 sh91 (by decide) (by decide) rf91_77 ?_
          refine s4 (x := cdS A x2 x5) rfl ?_
          refine s40 (v := A 142 (cdS A x2 x5).toNat) sh142 g11 rfl (rdM (q8).1 rfl) ?_
          refine s23 ?_
          refine s0 ?_
          refine s25 ?_
          obtain ⟨g15, hE⟩ := hE
          refine s68 g15 (fun c16 => ?_) (fun c16 => ?_)
          · replace hE := hE.1 c16
            refine s60 ?_
            refine xG gb280.2.2.2.2.1 ?_
            refine s10 (x := x5) (ls' := [.ref 91, .int (oI x1), .int (oI x2), .int (oI x3), .int (oI x4), .int (oI (x5 + 1)), .int (oI (cdS A x2 x5))]) rfl rfl ?_
            refine s60 ?_
            exact hE
          · replace hE := hE.2 c16
            refine xG gb280.2.2.1 ?_
            refine s6 (p := 91) rfl ?_
            refine s51 sh91 (by decide) (by decide) rf91_85 ?_
            refine s0 ?_
            refine s6 (p := 91) rfl ?_
            refine s51 sh91 (by decide) (by decide) rf91_77 ?_
            refine s4 (x := cdS A x2 x5) rfl ?_
            refine s40 (v := A 142 (cdS A x2 x5).toNat) sh142 g11 rfl (rdM (q8).1 rfl) ?_
            refine s44 sh150 (by decide) (⟨by decide, by decide⟩ : (0 : Int) ≤ 9 ∧ (9 : Int) < 12) rfl ?_
            refine s6 (p := 91) rfl ?_
            refine s51 sh91 (by decide) (by decide) rf91_85 ?_
            refine s0 ?_
            refine s6 (p := 91) rfl ?_
            refine s51 sh91 (by decide) (by decide) rf91_10 ?_
            refine s0 ?_
            refine s4 (x := x1) rfl ?_
            refine s18 ?_
            refine s6 (p := 91) rfl ?_
            refine s51 sh91 (by decide) (by decide) rf91_77 ?_
            refine s4 (x := cdS A x2 x5) rfl ?_
            refine s40 (v := A 142 (cdS A x2 x5).toNat) sh142 g11 rfl ((v2_ne (by decide)).trans (rdM (q8).1 rfl)) ?_
            refine s16 ?_
            obtain ⟨g17, hE⟩ := hE
            refine s40 (v := A 97 ((6 * x1) + (A 142 (cdS A x2 x5).toNat)).toNat) sh97 g17 rfl ((v2_ne (by decide)).trans (rdM (q8).1 rfl)) ?_
            refine s44 sh150 (by decide) (⟨by decide, by decide⟩ : (0 : Int) ≤ 10 ∧ (10 : Int) < 12) rfl ?_
            refine s6 (p := 91) rfl ?_
            refine s4 (x := cdS A x2 x5) rfl ?_
            obtain ⟨g20, hE⟩ := hE
            obtain ⟨g21, hE⟩ := hE
            obtain ⟨g22, hE⟩ := hE
            obtain ⟨e18, k19, hE⟩ := hE
            refine sI rc223 rfl (Nat.le_of_ble_eq_true rfl) ?_
            refine k223' k19 (RM.scr (RM.scr (q8) rfl) rfl) g20 g21 g22 (fun c23 => ?_) (fun c23 => ?_)
            · replace hE := hE.1 c23
              refine s67 (inRd rfl) (fun c24 => absurd c24 (by decide)) (fun _ => ?_)
              refine s4 (x := x4) rfl ?_
              refine s6 (p := 91) rfl ?_
              refine s51 sh91 (by decide) (by decide) rf91_76 ?_
              refine s4 (x := cdS A x2 x5) rfl ?_
              refine s40 (v := A 141 (cdS A x2 x5).toNat) sh141 g11 rfl ((v2_ne (by decide)).trans ((v2_ne (by decide)).trans (rdM (q8).1 rfl))) ?_
              refine s16 ?_
              refine s7 (ls' := [.ref 91, .int (oI x1), .int (oI x2), .int (oI x3), .int (oI (x4 + (A 141 (cdS A x2 x5).toNat))), .int (oI x5), .int (oI (cdS A x2 x5))]) (Nat.le_of_ble_eq_true rfl) rfl ?_
              refine s79 ?_
              refine xG gb280.2.2.2.1 ?_
              refine s6 (p := 91) rfl ?_
              refine s51 sh91 (by decide) (by decide) rf91_85 ?_
              refine s0 ?_
              refine s0 ?_
              refine s44 sh150 (by decide) (⟨by decide, by decide⟩ : (0 : Int) ≤ 9 ∧ (9 : Int) < 12) rfl ?_
              refine s6 (p := 91) rfl ?_
              refine s51 sh91 (by decide) (by decide) rf91_85 ?_
              refine s0 ?_
              refine s0 ?_
              refine s44 sh150 (by decide) (⟨by decide, by decide⟩ : (0 : Int) ≤ 10 ∧ (10 : Int) < 12) rfl ?_
              refine s79 ?_
              refine xG gb280.2.2.2.2.1 ?_
              refine s10 (x := x5) (ls' := [.ref 91, .int (oI x1), .int (oI x2), .int (oI x3), .int (oI (x4 + (A 141 (cdS A x2 x5).toNat))), .int (oI (x5 + 1)), .int (oI (cdS A x2 x5))]) rfl rfl ?_
              refine s60 ?_
              exact hE
            · replace hE := hE.2 c23
              refine s67 (inRd rfl) (fun _ => ?_) (fun c25 => absurd (by decide) c25)
              refine xG gb280.2.2.2.1 ?_
              refine s6 (p := 91) rfl ?_
              refine s51 sh91 (by decide) (by decide) rf91_85 ?_
              refine s0 ?_
              refine s0 ?_
              refine s44 sh150 (by decide) (⟨by decide, by decide⟩ : (0 : Int) ≤ 9 ∧ (9 : Int) < 12) rfl ?_
              refine s6 (p := 91) rfl ?_
              refine s51 sh91 (by decide) (by decide) rf91_85 ?_
              refine s0 ?_
              refine s0 ?_
              refine s44 sh150 (by decide) (⟨by decide, by decide⟩ : (0 : Int) ≤ 10 ∧ (10 : Int) < 12) rfl ?_
              refine s79 ?_
              refine xG gb280.2.2.2.2.1 ?_
              refine s10 (x := x5) (ls' := [.ref 91, .int (oI x1), .int (oI x2), .int (oI x3), .int (oI x4), .int (oI (x5 + 1)), .int (oI (cdS A x2 x5))]) rfl rfl ?_
              refine s60 ?_
              exact hE
        · replace hE := hE.2 c13
          refine s67 (inRd rfl) (fun _ => ?_) (fun c26 => absurd (by decide) c26)
          refine xG gb280.2.2.2.2.1 ?_
          refine s10 (x := x5) (ls' := [.ref 91, .int (oI x1), .int (oI x2), .int (oI x3), .int (oI x4), .int (oI (x5 + 1)), .int (oI (cdS A x2 x5))]) rfl rfl ?_
          refine s60 ?_
          exact hE
      · replace hE := hE.2 c12
        refine xG gb280.2.2.2.2.1 ?_
        refine s10 (x := x5) (ls' := [.ref 91, .int (oI x1), .int (oI x2), .int (oI x3), .int (oI x4), .int (oI (x5 + 1)), .int (oI (cdS A x2 x5))]) rfl rfl ?_
        refine s60 ?_
        exact hE
set_option maxRecDepth 4000 in
theorem e280 {d L : Nat} {I : Nat → Nat → Int32} {R : Nat → Nat → Option Nat} {S : List (Nat × Nat)} {K : Int32 → mM → Prop} {A : aS} (hR : RM I A) {x1 : Int} {x2 : Int} {x3 : Int} (hE : (0 ≤ x3 ∧ x3 < 1024) ∧ (h280_1 (d + 1) L (u2 I 150 7 (oI (btS x3))) R S (rqI K) x1 x2 x3 0 1 mUn)) : CallI (d + 1) 280 [.ref 91, .int (oI x1), .int (oI x2), .int (oI x3)] (bd L I R S) K := by
  refine cI_of (ls := [.ref 91, .int (oI x1), .int (oI x2), .int (oI x3), mUn, mUn, mUn]) rfl ?_
  refine xG gb280.1 ?_
  refine s0 ?_
  refine s7 (ls' := [.ref 91, .int (oI x1), .int (oI x2), .int (oI x3), .int (oI 0), mUn, mUn]) (Nat.le_of_ble_eq_true rfl) rfl ?_
  refine s6 (p := 91) rfl ?_
  refine s51 sh91 (by decide) (by decide) rf91_85 ?_
  refine s0 ?_
  refine s4 (x := x3) rfl ?_
  obtain ⟨g1, hE⟩ := hE
  refine sI rc241 rfl (Nat.le_of_ble_eq_true rfl) ?_
  refine k241 g1 ?_
  refine s44 sh150 (by decide) (⟨by decide, by decide⟩ : (0 : Int) ≤ 7 ∧ (7 : Int) < 12) rfl ?_
  refine s0 ?_
  refine s7 (ls' := [.ref 91, .int (oI x1), .int (oI x2), .int (oI x3), .int (oI 0), .int (oI 1), mUn]) (Nat.le_of_ble_eq_true rfl) rfl ?_
  refine s79 ?_
  exact hE
section
variable {d L : Nat} {I I0 : mI} {R : Nat → Nat → Option Nat} {S : List (Nat × Nat)} {Q : Option Value → mM → Prop} {A : aS} {c day known kind half year subj code : Int}
theorem EnvI.eq {e e' : Nat → Int} (h : EnvI I e) (he : ∀ i : Nat, i < 12 → e i = e' i) : EnvI I e' := fun i hi => (h i hi).trans (he i hi)
theorem l280 {e : Nat → Int} {set : Int} (h9 : e 9 = 0) (h10 : e 10 = 0) (hC : WfC A) (hc : 0 ≤ c ∧ c < 40) (hy : 0 ≤ year ∧ year ≤ 7) (hK : ∀ I1, Fr [150, 151] [(91, 87)] I0 I1 → RM I1 A → EnvI I1 e → Q (some (.int (oI (brL A e c year set 60)))) (bd L I1 R S)) : ∀ (n k : Nat) (I : mI) (w : Value), k + n = 60 → RM I A → Fr [150, 151] [(91, 87)] I0 I → EnvI I e → h280_1 (d + 25) L I R S Q c year set (brL A e c year set k) ((k : Int) + 1) w := by
  intro n
  induction n with
  | zero =>
    intro k I w hk hR hf he
    refine e280_1 hR ⟨⟨by omega, by omega⟩, fun _ => ?_, fun h => by exfalso; omega⟩
    rw [show k = 60 by omega]; exact hK I hf hR he
  | succ n ih =>
    intro k I w hk hR hf he
    have es : brL A e c year set (k + 1) = if ¬ cdS A year (k + 1 : Nat) = -1 ∧ A 140 (cdS A year (k + 1 : Nat)).toNat = 6 ∧ (0 ≤ A 142 (cdS A year (k + 1 : Nat)).toNat ∧ A 142 (cdS A year (k + 1 : Nat)).toNat ≤ 5) ∧ ¬ iAnd (iShr set (A 142 (cdS A year (k + 1 : Nat)).toNat)) 1 = 0 ∧ hdB A (putE (putE e 9 (A 142 (cdS A year (k + 1 : Nat)).toNat)) 10 (A 97 (6 * c + A 142 (cdS A year (k + 1 : Nat)).toNat).toNat)) (cdS A year (k + 1 : Nat)).toNat = true then brL A e c year set k + A 141 (cdS A year (k + 1 : Nat)).toNat else brL A e c year set k := rfl
    rw [show ((k + 1 : Nat) : Int) = (k : Int) + 1 by omega] at es
    have nx : ∀ (I3 : mI) (v : Int) (w : Value), RM I3 A → Fr [150, 151] [(91, 87)] I0 I3 → EnvI I3 e → v = brL A e c year set (k + 1) → h280_1 (d + 25) L I3 R S Q c year set v ((k : Int) + 1 + 1) w := by
      intro I3 v w hR3 hf3 he3 hv
      rw [hv]
      exact ih (k + 1) I3 w (by omega) hR3 hf3 he3
    have ci := cdS_in hC (y := year) (n := (k : Int) + 1)
    refine e280_1 hR ⟨⟨by omega, by omega⟩, fun h => by exfalso; omega, fun _ => ⟨hC, hy, by omega, fun I1 hf1 hR1 => ?_⟩⟩
    have he1 := he.fr hf1 (fun _ => rfl)
    have f1 : Fr [150, 151] [(91, 87)] I0 I1 := hf.trans (hf1.sub rfl rfl)
    refine ⟨⟨by omega, by omega⟩, fun c1 => nx I1 _ _ hR1 f1 he1 (by rw [es, if_neg (by rintro ⟨a, -⟩; exact a c1)]), fun c1 => ⟨by omega, fun c2 => ⟨fun c3 => ⟨inR_toInt _, fun c4 => nx I1 _ _ hR1 f1 he1 (by rw [es, if_neg (by rintro ⟨-, -, -, a, -⟩; exact a c4)]), fun c4 => ?_⟩, fun c3 => nx I1 _ _ hR1 f1 he1 (by rw [es, if_neg (by rintro ⟨-, -, a, -⟩; exact c3 a)])⟩, fun c2 => nx I1 _ _ hR1 f1 he1 (by rw [es, if_neg (by rintro ⟨-, a, -⟩; exact c2 a)])⟩⟩
    obtain ⟨s, s1, s2, s3, s4, s5, -⟩ := cdS_wf hC c1
    have e2 : (cdS A year ((k : Int) + 1)).toNat = s := by omega
    have hsj : inR (A 142 (cdS A year ((k : Int) + 1)).toNat) := ⟨by omega, by omega⟩
    have hes : inR (A 97 (6 * c + A 142 (cdS A year ((k : Int) + 1)).toNat).toNat) := inA hR1.1 rfl
    have he2 := (he1.put (k := 9) hsj).put (k := 10) hes
    have f2 := ((((f1.wr (a := 150) (k := 9) (x := oI (A 142 (cdS A year ((k : Int) + 1)).toNat)) rfl).wr (a := 150) (k := 10) (x := oI (A 97 (6 * c + A 142 (cdS A year ((k : Int) + 1)).toNat).toNat)) rfl).wr (a := 150) (k := 9) (x := oI 0) rfl).wr (a := 150) (k := 10) (x := oI 0) rfl)
    have hR2 := ((((hR1.scr (a := 150) (k := 9) (x := oI (A 142 (cdS A year ((k : Int) + 1)).toNat)) rfl).scr (a := 150) (k := 10) (x := oI (A 97 (6 * c + A 142 (cdS A year ((k : Int) + 1)).toNat).toNat)) rfl).scr (a := 150) (k := 9) (x := oI 0) rfl).scr (a := 150) (k := 10) (x := oI 0) rfl)
    refine ⟨by omega, by omega, by rw [e2]; exact s3, by rw [e2]; exact s5, _, he2, fun c5 => nx _ _ _ hR2 f2 (env_back he2 h9 h10) (by rw [es, if_pos ⟨c1, c2, c3, c4, c5⟩]), fun c5 => nx _ _ _ hR2 f2 (env_back he2 h9 h10) (by rw [es, if_neg (by rintro ⟨-, -, -, -, a⟩; exact c5 a)])⟩
theorem k280 {K : Int32 → mM → Prop} {e : Nat → Int} {x set : Int} (he : EnvI I (putE e 7 x)) (h9 : e 9 = 0) (h10 : e 10 = 0) (hR : RM I A) (hC : WfC A) (hc : 0 ≤ c ∧ c < A 91 1) (h40 : A 91 1 ≤ 40) (hy : 0 ≤ year ∧ year ≤ 7) (hs : 0 ≤ set ∧ set < 64) (hK : ∀ I1, Fr [150, 151] [(91, 87)] I I1 → RM I1 A → EnvI I1 (putE e 7 (btS set)) → K (oI (brS A e c year set)) (bd L I1 R S)) : CallI (d + 25) 280 [.ref 91, .int (oI c), .int (oI year), .int (oI set)] (bd L I R S) K := by
  have bi := btS_in set
  have he1 : EnvI (u2 I 150 7 (oI (btS set))) (putE e 7 (btS set)) := (he.put (k := 7) (v := btS set) ⟨by omega, by omega⟩).eq (fun i hi => by unfold putE; split <;> rfl)
  refine e280 (d := d + 24) hR ⟨by omega, ?_⟩
  exact l280 (d := d) (I0 := u2 I 150 7 (oI (btS set))) (e := putE e 7 (btS set)) (set := set) h9 h10 hC (by omega) hy (fun I1 h1 h2 h3 => rqI_of (hK I1 (((Fr.refl _ _ _).wr rfl).trans h1) h2 h3)) 60 0 _ mUn rfl (hR.scr rfl) (Fr.refl _ _ _) he1
end
def h279_1 (d L : Nat) (I : Nat → Nat → Int32) (R : Nat → Nat → Option Nat) (S : List (Nat × Nat)) (Q : Option Value → mM → Prop) (x1 : Int) (x2 : Int) (x3 : Int) (w4 : Value) (x5 : Int) (x6 : Int) (x7 : Int) : Prop := Wp d (gb 279 1) [.ref 91, .int (oI x1), .int (oI x2), .int (oI x3), w4, .int (oI x5), .int (oI x6), .int (oI x7)] [] (bd L I R S) Q
def h279_4 (d L : Nat) (I : Nat → Nat → Int32) (R : Nat → Nat → Option Nat) (S : List (Nat × Nat)) (Q : Option Value → mM → Prop) (x1 : Int) (x2 : Int) (x3 : Int) (w4 : Value) (w5 : Value) (x6 : Int) (x7 : Int) : Prop := Wp d (gb 279 4) [.ref 91, .int (oI x1), .int (oI x2), .int (oI x3), w4, w5, .int (oI x6), .int (oI x7)] [] (bd L I R S) Q
set_option maxRecDepth 4000 in
theorem e279_1 {d L : Nat} {I : Nat → Nat → Int32} {R : Nat → Nat → Option Nat} {S : List (Nat × Nat)} {Q : Option Value → mM → Prop} {A : aS} (hR : RM I A) {x1 : Int} {x2 : Int} {x3 : Int} {w4 : Value} {x5 : Int} {x6 : Int} {x7 : Int} (hE : inR x7 ∧ (((x7 < 6) → (0 ≤ (6 * x2) + x7 ∧ (6 * x2) + x7 < 240) ∧ (((A 97 ((6 * x2) + x7).toNat = (-1)) → h279_1 (d + 27) L I R S Q x1 x2 x3 w4 x5 x6 (x7 + 1)) ∧ (¬ (A 97 ((6 * x2) + x7).toNat = (-1)) → WfC A ∧ ((0 ≤ x3 ∧ x3 ≤ 7) ∧ (∃ e5 : Nat → Int, EnvI I e5 ∧ e5 9 = 0 ∧ e5 10 = 0 ∧ (((wpS A e5 x3 x7 (A 97 ((6 * x2) + x7).toNat) = true) → ∀ (I12 : mI), (Fr [150, 151] [(91, 87)] I I12) → (RM I12 A) → (EnvI I12 e5) → h279_1 (d + 27) L I12 R S Q x1 x2 x3 w4 x5 (iOr x6 (iShl 1 x7)) (x7 + 1)) ∧ (¬ (wpS A e5 x3 x7 (A 97 ((6 * x2) + x7).toNat) = true) → ∀ (I12 : mI), (Fr [150, 151] [(91, 87)] I I12) → (RM I12 A) → (EnvI I12 e5) → h279_1 (d + 27) L I12 R S Q x1 x2 x3 w4 x5 x6 (x7 + 1)))))))) ∧ (¬ (x7 < 6) → h279_4 (d + 27) L (u2 I 150 8 (oI x5)) R S Q x1 x2 x3 w4 (.int (oI x5)) x6 0))) : h279_1 (d + 27) L I R S Q x1 x2 x3 w4 x5 x6 x7 := by
  unfold h279_1
  refine xG gb279.2.1 ?_
  refine s4 (x := x7) rfl ?_
  refine s0 ?_
  obtain ⟨g1, hE⟩ := hE
  refine s64 g1 (inRd rfl) (fun c2 => ?_) (fun c2 => ?_)
  · replace hE := hE.1 c2
    refine s6 (p := 91) rfl ?_
    refine s51 sh91 (by decide) (by decide) rf91_10 ?_
    refine s0 ?_
    refine s4 (x := x2) rfl ?_
    refine s18 ?_
    refine s4 (x := x7) rfl ?_
    refine s16 ?_
    obtain ⟨g3, hE⟩ := hE
    refine s40 (v := A 97 ((6 * x2) + x7).toNat) sh97 g3 rfl (rdM hR.1 rfl) ?_
    refine s0 ?_
    refine s61 (inA hR.1 (a := 97) (k := ((6 * x2) + x7).toNat) rfl) (inRd rfl) (fun c4 => ?_) (fun c4 => ?_)
    · replace hE := hE.1 c4
      refine xG gb279.2.2.1 ?_
      refine s10 (x := x7) (ls' := [.ref 91, .int (oI x1), .int (oI x2), .int (oI x3), w4, .int (oI x5), .int (oI x6), .int (oI (x7 + 1))]) rfl rfl ?_
      refine s60 ?_
      exact hE
    · replace hE := hE.2 c4
      refine s6 (p := 91) rfl ?_
      refine s4 (x := x3) rfl ?_
      refine s4 (x := x7) rfl ?_
      refine s6 (p := 91) rfl ?_
      refine s51 sh91 (by decide) (by decide) rf91_10 ?_
      refine s0 ?_
      refine s4 (x := x2) rfl ?_
      refine s18 ?_
      refine s4 (x := x7) rfl ?_
      refine s16 ?_
      refine s40 (v := A 97 ((6 * x2) + x7).toNat) sh97 g3 rfl (rdM hR.1 rfl) ?_
      obtain ⟨g9, hE⟩ := hE
      obtain ⟨g10, hE⟩ := hE
      obtain ⟨e5, k6, k7, k8, hE⟩ := hE
      refine sI rc240 rfl (Nat.le_of_ble_eq_true rfl) ?_
      refine k240 k6 k7 k8 hR g9 g10 g1 (inA hR.1 (a := 97) (k := ((6 * x2) + x7).toNat) rfl) (fun c11 I12 q13 q14 q15 => ?_) (fun c11 I12 q13 q14 q15 => ?_)
      · replace hE := hE.1 c11 I12 q13 q14 q15
        refine s67 (inRd rfl) (fun c16 => absurd c16 (by decide)) (fun _ => ?_)
        refine s4 (x := x6) rfl ?_
        refine s0 ?_
        refine s4 (x := x7) rfl ?_
        refine s22 ?_
        refine s26 ?_
        refine s7 (ls' := [.ref 91, .int (oI x1), .int (oI x2), .int (oI x3), w4, .int (oI x5), .int (oI (iOr x6 (iShl 1 x7))), .int (oI x7)]) (Nat.le_of_ble_eq_true rfl) rfl ?_
        refine s79 ?_
        refine xG gb279.2.2.1 ?_
        refine s10 (x := x7) (ls' := [.ref 91, .int (oI x1), .int (oI x2), .int (oI x3), w4, .int (oI x5), .int (oI (iOr x6 (iShl 1 x7))), .int (oI (x7 + 1))]) rfl rfl ?_
        refine s60 ?_
        exact hE
      · replace hE := hE.2 c11 I12 q13 q14 q15
        refine s67 (inRd rfl) (fun _ => ?_) (fun c17 => absurd (by decide) c17)
        refine xG gb279.2.2.1 ?_
        refine s10 (x := x7) (ls' := [.ref 91, .int (oI x1), .int (oI x2), .int (oI x3), w4, .int (oI x5), .int (oI x6), .int (oI (x7 + 1))]) rfl rfl ?_
        refine s60 ?_
        exact hE
  · replace hE := hE.2 c2
    refine xG gb279.2.2.2.1 ?_
    refine s6 (p := 91) rfl ?_
    refine s51 sh91 (by decide) (by decide) rf91_85 ?_
    refine s0 ?_
    refine s4 (x := x5) rfl ?_
    refine s44 sh150 (by decide) (⟨by decide, by decide⟩ : (0 : Int) ≤ 8 ∧ (8 : Int) < 12) rfl ?_
    refine s0 ?_
    refine s7 (ls' := [.ref 91, .int (oI x1), .int (oI x2), .int (oI x3), w4, .int (oI x5), .int (oI x6), .int (oI 0)]) (Nat.le_of_ble_eq_true rfl) rfl ?_
    refine s79 ?_
    exact hE
set_option maxRecDepth 4000 in
theorem e279_4 {d L : Nat} {I : Nat → Nat → Int32} {R : Nat → Nat → Option Nat} {S : List (Nat × Nat)} {Q : Option Value → mM → Prop} {A : aS} (hR : RM I A) {x1 : Int} {x2 : Int} {x3 : Int} {w4 : Value} {w5 : Value} {x6 : Int} {x7 : Int} (hE : inR x7 ∧ (((x7 < 64) → inR (iAnd x7 (iXor x6 (-1))) ∧ (((iAnd x7 (iXor x6 (-1)) = 0) → WfC A ∧ ((0 ≤ x2 ∧ x2 < A 91 1) ∧ (A 91 1 ≤ 40 ∧ ((0 ≤ x3 ∧ x3 ≤ 7) ∧ ((0 ≤ x7 ∧ x7 < 64) ∧ (∃ (e5 : Nat → Int) (z6 : Int), EnvI I (putE e5 7 z6) ∧ e5 9 = 0 ∧ e5 10 = 0 ∧ (∀ (I10 : mI), (Fr [150, 151] [(91, 87)] I I10) → (RM I10 A) → (EnvI I10 (putE e5 7 (btS x7))) → (0 ≤ (64 * x1) + x7 ∧ (64 * x1) + x7 < 2560) ∧ (h279_4 (d + 26) L (u2 I10 125 ((64 * x1) + x7).toNat (oI (brS A e5 x2 x3 x7))) R S Q x1 x2 x3 w4 w5 x6 (x7 + 1))))))))) ∧ (¬ (iAnd x7 (iXor x6 (-1)) = 0) → (0 ≤ (64 * x1) + x7 ∧ (64 * x1) + x7 < 2560) ∧ (h279_4 (d + 26) L (u2 I 125 ((64 * x1) + x7).toNat (oI (-1))) R S Q x1 x2 x3 w4 w5 x6 (x7 + 1))))) ∧ (¬ (x7 < 64) → Q none (bd L I R S)))) : h279_4 (d + 26) L I R S Q x1 x2 x3 w4 w5 x6 x7 := by
  unfold h279_4
  refine xG gb279.2.2.2.2.1 ?_
  refine s4 (x := x7) rfl ?_
  refine s0 ?_
  obtain ⟨g1, hE⟩ := hE
  refine s64 g1 (inRd rfl) (fun c2 => ?_) (fun c2 => ?_)
  · replace hE := hE.1 c2
    refine s6 (p := 91) rfl ?_
    refine s51 sh91 (by decide) (by decide) rf91_45 ?_
    refine s0 ?_
    refine s4 (x := x1) rfl ?_
    refine s18 ?_
    refine s4 (x := x7) rfl ?_
    refine s16 ?_
    refine s4 (x := x7) rfl ?_
    refine s4 (x := x6) rfl ?_
    refine s0 ?_
    refine s27 ?_
    refine s25 ?_
    obtain ⟨g3, hE⟩ := hE
    refine s68 g3 (fun c4 => ?_) (fun c4 => ?_)
    · replace hE := hE.1 c4
      refine s6 (p := 91) rfl ?_
      refine s4 (x := x2) rfl ?_
      refine s4 (x := x3) rfl ?_
      refine s4 (x := x7) rfl ?_
      obtain ⟨g14, hE⟩ := hE
      obtain ⟨g15, hE⟩ := hE
      obtain ⟨g16, hE⟩ := hE
      obtain ⟨g17, hE⟩ := hE
      obtain ⟨g18, hE⟩ := hE
      obtain ⟨e5, z6, k7, k8, k9, hE⟩ := hE
      refine sI rc280 rfl (Nat.le_of_ble_eq_true rfl) ?_
      refine k280 k7 k8 k9 hR g14 g15 g16 g17 g18 (fun I10 q11 q12 q13 => ?_)
      replace hE := hE I10 q11 q12 q13
      refine s60 ?_
      refine xG gb279.2.2.2.2.2.2.1 ?_
      obtain ⟨g19, hE⟩ := hE
      refine s44 sh125 (by decide) g19 rfl ?_
      refine s10 (x := x7) (ls' := [.ref 91, .int (oI x1), .int (oI x2), .int (oI x3), w4, w5, .int (oI x6), .int (oI (x7 + 1))]) rfl rfl ?_
      refine s60 ?_
      exact hE
    · replace hE := hE.2 c4
      refine xG gb279.2.2.2.2.2.1 ?_
      refine s0 ?_
      refine s79 ?_
      refine xG gb279.2.2.2.2.2.2.1 ?_
      obtain ⟨g20, hE⟩ := hE
      refine s44 sh125 (by decide) g20 rfl ?_
      refine s10 (x := x7) (ls' := [.ref 91, .int (oI x1), .int (oI x2), .int (oI x3), w4, w5, .int (oI x6), .int (oI (x7 + 1))]) rfl rfl ?_
      refine s60 ?_
      exact hE
  · replace hE := hE.2 c2
    refine xG gb279.2.2.2.2.2.2.2 ?_
    refine s83 ?_
    exact hE
set_option maxRecDepth 4000 in
theorem e279 {d L : Nat} {I : Nat → Nat → Int32} {R : Nat → Nat → Option Nat} {S : List (Nat × Nat)} {K : mM → Prop} {A : aS} (hR : RM I A) {x1 : Int} {x2 : Int} {x3 : Int} (hE : WfA A ∧ (WfC A ∧ (WfP A ∧ ((0 ≤ x2 ∧ x2 < A 91 1) ∧ ((0 ≤ x3 ∧ x3 ≤ 7) ∧ (∀ (I6 : mI), (Fr [150, 151] [(91, 87)] I I6) → (RM I6 A) → ∀ (I9 : mI), (Fr [116] [] I6 I9) → (PShut A x3 (A 91 0) I9) → inR x2 ∧ (∀ (I13 : mI), (Fr [111, 112, 113, 114, 115] [] I9 I13) → (Pnt A x2 x3 (A 91 0) I13) → inR (stS A x2 x3 (A 91 0)) ∧ (∃ n16 : Int, PShut A x3 n16 I13 ∧ Pnt A x2 x3 n16 I13 ∧ (∀ (I19 : mI), (Fr [150, 151] [(91, 87)] I13 I19) → (RM I19 A) → ∀ (I23 : mI), (Fr [150] [] I19 I23) → (EnvI I23 (psE A x2 x3 (stS A x2 x3 (A 91 0)) (A 91 0))) → h279_1 (d + 29) L I23 R S (rqV K) x1 x2 x3 (.int (oI (stS A x2 x3 (A 91 0)))) (yrS A x2 x3 x3 (stS A x2 x3 (A 91 0)) n16) 0 0))))))))) : CallV (d + 29) 279 [.ref 91, .int (oI x1), .int (oI x2), .int (oI x3)] (bd L I R S) K := by
  refine cV_of (ls := [.ref 91, .int (oI x1), .int (oI x2), .int (oI x3), mUn, mUn, mUn, mUn]) rfl ?_
  refine xG gb279.1 ?_
  refine s6 (p := 91) rfl ?_
  refine s4 (x := x2) rfl ?_
  refine s4 (x := x3) rfl ?_
  refine s6 (p := 91) rfl ?_
  refine s50 (v := A 91 0) sh91 (by decide) (by decide) (rdM hR.1 rfl) ?_
  obtain ⟨g1, hE⟩ := hE
  obtain ⟨g2, hE⟩ := hE
  obtain ⟨g3, hE⟩ := hE
  obtain ⟨g4, hE⟩ := hE
  obtain ⟨g5, hE⟩ := hE
  refine sI rc233 rfl (Nat.le_of_ble_eq_true rfl) ?_
  refine k233 hR g1 g2 g3 g4 g5 (inA hR.1 (a := 91) (k := 0) rfl) (fun I6 q7 q8 => ?_)
  replace hE := hE I6 q7 q8
  refine s7 (ls' := [.ref 91, .int (oI x1), .int (oI x2), .int (oI x3), .int (oI (stS A x2 x3 (A 91 0))), mUn, mUn, mUn]) (Nat.le_of_ble_eq_true rfl) rfl ?_
  refine s6 (p := 91) rfl ?_
  refine s4 (x := x3) rfl ?_
  refine s6 (p := 91) rfl ?_
  refine s50 (v := A 91 0) sh91 (by decide) (by decide) (rdM (q8).1 rfl) ?_
  refine sV rc251 rfl (Nat.le_of_ble_eq_true rfl) ?_
  refine k251R (q8) g1 g5 (inA (q8).1 (a := 91) (k := 0) rfl) (fun I9 q10 q11 => ?_)
  replace hE := hE I9 q10 q11
  refine s6 (p := 91) rfl ?_
  refine s4 (x := x2) rfl ?_
  refine s4 (x := x3) rfl ?_
  refine s6 (p := 91) rfl ?_
  refine s50 (v := A 91 0) sh91 (by decide) (by decide) (rdM (RM.fr (q8) q10 rfl rfl (fun _ => rfl)).1 rfl) ?_
  obtain ⟨g12, hE⟩ := hE
  refine sV rc252 rfl (Nat.le_of_ble_eq_true rfl) ?_
  refine k252R (RM.fr (q8) q10 rfl rfl (fun _ => rfl)) g1 g5 g12 (inA (RM.fr (q8) q10 rfl rfl (fun _ => rfl)).1 (a := 91) (k := 0) rfl) (fun I13 q14 q15 => ?_)
  replace hE := hE I13 q14 q15
  refine s6 (p := 91) rfl ?_
  refine s4 (x := x2) rfl ?_
  refine s4 (x := x3) rfl ?_
  refine s4 (x := x3) rfl ?_
  refine s4 (x := stS A x2 x3 (A 91 0)) rfl ?_
  obtain ⟨g22, hE⟩ := hE
  obtain ⟨n16, k17, k18, hE⟩ := hE
  refine sI rc256 rfl (Nat.le_of_ble_eq_true rfl) ?_
  refine k256 (RM.fr (RM.fr (q8) q10 rfl rfl (fun _ => rfl)) q14 rfl rfl (fun _ => rfl)) g1 g2 g3 g4 g5 g5 g22 k17 k18 (fun I19 q20 q21 => ?_)
  replace hE := hE I19 q20 q21
  refine s7 (ls' := [.ref 91, .int (oI x1), .int (oI x2), .int (oI x3), .int (oI (stS A x2 x3 (A 91 0))), .int (oI (yrS A x2 x3 x3 (stS A x2 x3 (A 91 0)) n16)), mUn, mUn]) (Nat.le_of_ble_eq_true rfl) rfl ?_
  refine s6 (p := 91) rfl ?_
  refine s4 (x := x2) rfl ?_
  refine s4 (x := x3) rfl ?_
  refine s4 (x := stS A x2 x3 (A 91 0)) rfl ?_
  refine s6 (p := 91) rfl ?_
  refine s50 (v := A 91 0) sh91 (by decide) (by decide) (rdM q21.1 rfl) ?_
  refine sV rc235 rfl (Nat.le_of_ble_eq_true rfl) ?_
  refine k235 q21 g1 g3 g4 g5 g22 (inA q21.1 (a := 91) (k := 0) rfl) (fun I23 q24 q25 => ?_)
  replace hE := hE I23 q24 q25
  refine s0 ?_
  refine s7 (ls' := [.ref 91, .int (oI x1), .int (oI x2), .int (oI x3), .int (oI (stS A x2 x3 (A 91 0))), .int (oI (yrS A x2 x3 x3 (stS A x2 x3 (A 91 0)) n16)), .int (oI 0), mUn]) (Nat.le_of_ble_eq_true rfl) rfl ?_
  refine s0 ?_
  refine s7 (ls' := [.ref 91, .int (oI x1), .int (oI x2), .int (oI x3), .int (oI (stS A x2 x3 (A 91 0))), .int (oI (yrS A x2 x3 x3 (stS A x2 x3 (A 91 0)) n16)), .int (oI 0), .int (oI 0)]) (Nat.le_of_ble_eq_true rfl) rfl ?_
  refine s79 ?_
  exact hE
section
variable {d L : Nat} {I I0 : mI} {R : Nat → Nat → Option Nat} {S : List (Nat × Nat)} {Q : Option Value → mM → Prop} {A : aS} {c day known kind half year subj code : Int}
theorem l279_4 {row : Int} (hW : WfA A) (hC : WfC A) (hc : 0 ≤ c ∧ c < A 91 1) (hy : 0 ≤ year ∧ year ≤ 7) (hr : 0 ≤ row ∧ row < 40) (hK : ∀ I1, Fr [125, 150, 151] [(91, 87)] I0 I1 → RM I1 A → (∀ t : Nat, t < 64 → ld I1 125 (64 * row.toNat + t) = woS A c year t) → (∀ j : Nat, (j < 64 * row.toNat ∨ 64 * row.toNat + 64 ≤ j) → ld I1 125 j = ld I0 125 j) → Q none (bd L I1 R S)) : ∀ (n k : Nat) (x : Int) (I : mI) (w4 w5 : Value), k + n = 64 → RM I A → Fr [125, 150, 151] [(91, 87)] I0 I → EnvI I (putE (woE A c year) 7 x) → (∀ t : Nat, t < k → ld I 125 (64 * row.toNat + t) = woS A c year t) → (∀ j : Nat, (j < 64 * row.toNat ∨ 64 * row.toNat + 64 ≤ j) → ld I 125 j = ld I0 125 j) → h279_4 (d + 26) L I R S Q row c year w4 w5 (mayS A c year) k := by
  have hW1 := hW.2.1
  intro n
  induction n with
  | zero =>
    intro k x I w4 w5 hk hR hf he h1 h2
    exact e279_4 hR ⟨⟨by omega, by omega⟩, fun h => by exfalso; omega, fun _ => hK I hf hR (fun t ht => h1 t (by omega)) h2⟩
  | succ n ih =>
    intro k x I w4 w5 hk hR hf he h1 h2
    have wi := woS_in hC (c := c) (year := year) (set := (k : Int))
    have eix : (64 * row + (k : Int)).toNat = 64 * row.toNat + k := by omega
    have step : ∀ (I1 : mI) (x : Int) (v : Int) (w4 w5 : Value), v = woS A c year k → RM I1 A → Fr [150, 151] [(91, 87)] I I1 → EnvI I1 (putE (woE A c year) 7 x) → h279_4 (d + 26) L (u2 I1 125 (64 * row.toNat + k) (oI v)) R S Q row c year w4 w5 (mayS A c year) ((k : Int) + 1) := by
      intro I1 x v w4 w5 hv hR1 hf1 he1
      have vr : inR v := ⟨by omega, by omega⟩
      refine ih (k + 1) x _ w4 w5 (by omega) (hR1.scr rfl) ((hf.trans (hf1.sub rfl rfl)).wr rfl) (he1.fr (frA I1 125 _ _) (fun _ => rfl)) (fun t ht => ?_) (fun j hj => ?_)
      · rw [ld_w vr]
        by_cases e : t = k
        · rw [if_pos (by omega), hv, e]
        · rw [if_neg (by omega), hf1.ld rfl]; exact h1 t (by omega)
      · rw [ld_w vr, if_neg (by omega), hf1.ld rfl]; exact h2 j hj
    refine e279_4 hR ?_
    rw [eix]
    refine ⟨⟨by omega, by omega⟩, fun _ => ⟨inR_toInt _, fun c1 => ⟨hC, hc, by omega, hy, by omega, woE A c year, x, he, rfl, rfl, fun I1 hf1 hR1 he1 => ⟨by omega, step I1 _ _ _ _ ?_ hR1 hf1 he1⟩⟩, fun c1 => ⟨by omega, step I x _ _ _ ?_ hR (Fr.refl _ _ _) he⟩⟩, fun h => by exfalso; omega⟩
    · unfold woS; rw [if_pos c1]
    · unfold woS; rw [if_neg c1]
theorem l279_1 {row : Int} (hW : WfA A) (hC : WfC A) (hc : 0 ≤ c ∧ c < A 91 1) (hy : 0 ≤ year ∧ year ≤ 7) (hr : 0 ≤ row ∧ row < 40) (hK : ∀ I1, Fr [125, 150, 151] [(91, 87)] I0 I1 → RM I1 A → (∀ t : Nat, t < 64 → ld I1 125 (64 * row.toNat + t) = woS A c year t) → (∀ j : Nat, (j < 64 * row.toNat ∨ 64 * row.toNat + 64 ≤ j) → ld I1 125 j = ld I0 125 j) → Q none (bd L I1 R S)) : ∀ (n k : Nat) (I : mI) (w4 : Value), k + n = 6 → RM I A → Fr [150, 151] [(91, 87)] I0 I → EnvI I (tdE A c year) → h279_1 (d + 27) L I R S Q row c year w4 (yrS A c year year (stS A c year (A 91 0)) (A 91 0)) (myL A (tdE A c year) c year k) k := by
  have hW1 := hW.2.1
  have yi := yrL_in hC (c := c) (year := year) (code := year) (std := stS A c year (A 91 0)) (known := A 91 0) 100
  have yr : inR (yrS A c year year (stS A c year (A 91 0)) (A 91 0)) := ⟨by unfold yrS; omega, by unfold yrS; omega⟩
  intro n
  induction n with
  | zero =>
    intro k I w4 hk hR hf he
    refine e279_1 hR ⟨⟨by omega, by omega⟩, fun h => by exfalso; omega, fun _ => ?_⟩
    have he2 : EnvI (u2 I 150 8 (oI (yrS A c year year (stS A c year (A 91 0)) (A 91 0)))) (putE (woE A c year) 7 0) := (he.put (k := 8) yr).eq (fun i hi => by
      show woE A c year i = putE (woE A c year) 7 0 i
      unfold putE
      by_cases e : i = 7
      · rw [if_pos e, e]; rfl
      · rw [if_neg e])
    have q9 := l279_4 (d := d + 1) (L := L) (R := R) (S := S) (Q := Q) (I0 := I0) hW hC hc hy hr hK 64 0 0 (u2 I 150 8 (oI (yrS A c year year (stS A c year (A 91 0)) (A 91 0)))) w4 (.int (oI (yrS A c year year (stS A c year (A 91 0)) (A 91 0)))) rfl (hR.scr rfl) ((hf.sub rfl rfl).wr rfl) he2 (fun t ht => by omega) (fun j hj => by rw [ld_o (by decide), hf.ld rfl])
    rw [show k = 6 by omega]
    exact q9
  | succ n ih =>
    intro k I w4 hk hR hf he
    have es : myL A (tdE A c year) c year (k + 1) = if ¬ A 97 (6 * c + k).toNat = -1 ∧ wpS A (tdE A c year) year k (A 97 (6 * c + k).toNat) = true then iOr (myL A (tdE A c year) c year k) (iShl 1 k) else myL A (tdE A c year) c year k := rfl
    have nx : ∀ (I3 : mI) (v : Int), RM I3 A → Fr [150, 151] [(91, 87)] I I3 → EnvI I3 (tdE A c year) → v = myL A (tdE A c year) c year (k + 1) → h279_1 (d + 27) L I3 R S Q row c year w4 (yrS A c year year (stS A c year (A 91 0)) (A 91 0)) v ((k : Int) + 1) := by
      intro I3 v hR3 hf3 he3 hv
      rw [hv]; exact ih (k + 1) I3 w4 (by omega) hR3 (hf.trans hf3) he3
    have ki : inR (k : Int) := ⟨by omega, by omega⟩
    refine e279_1 hR ⟨ki, fun _ => ⟨by omega, fun c1 => nx I _ hR (Fr.refl _ _ _) he (by rw [es, if_neg (by rintro ⟨a, -⟩; exact a c1)]), fun c1 => ⟨hC, hy, tdE A c year, he, rfl, rfl, fun c2 I1 hf1 hR1 he1 => nx I1 _ hR1 hf1 he1 (by rw [es, if_pos ⟨c1, c2⟩]), fun c2 I1 hf1 hR1 he1 => nx I1 _ hR1 hf1 he1 (by rw [es, if_neg (by rintro ⟨-, a⟩; exact c2 a)])⟩⟩, fun h => by exfalso; omega⟩
theorem k279 {K : mM → Prop} {row : Int} (hR : RM I A) (hW : WfA A) (hC : WfC A) (hP : WfP A) (hc : 0 ≤ c ∧ c < A 91 1) (hr : 0 ≤ row ∧ row < 40) (hy : 0 ≤ year ∧ year ≤ 7) (hK : ∀ I1, Fr [111, 112, 113, 114, 115, 116, 125, 150, 151] [(91, 87)] I I1 → RM I1 A → (∀ t : Nat, t < 64 → ld I1 125 (64 * row.toNat + t) = woS A c year t) → (∀ j : Nat, (j < 64 * row.toNat ∨ 64 * row.toNat + 64 ≤ j) → ld I1 125 j = ld I 125 j) → K (bd L I1 R S)) : CallV (d + 29) 279 [.ref 91, .int (oI row), .int (oI c), .int (oI year)] (bd L I R S) K := by
  have hW1 := hW.2.1
  have ht := hW.1
  have si := stS_in hP (year := year) (known := A 91 0) hc
  refine e279 hR ⟨hW, hC, hP, hc, hy, fun I1 hf1 hR1 I2 hf2 hS2 => ⟨⟨by omega, by omega⟩, fun I3 hf3 hN3 => ⟨⟨by omega, by omega⟩, A 91 0, hS2.fr hf3 (fun _ => rfl), hN3, fun I4 hf4 hR4 I5 hf5 he5 => ?_⟩⟩⟩
  have f5 : Fr [111, 112, 113, 114, 115, 116, 150, 151] [(91, 87)] I I5 := (hf1.sub rfl rfl).trans ((hf2.sub rfl rfl).trans ((hf3.sub rfl rfl).trans ((hf4.sub rfl rfl).trans (hf5.sub rfl rfl))))
  refine l279_1 (d := d + 2) (I0 := I5) (row := row) hW hC hc hy hr (fun I6 h1 h2 h3 h4 => rqV_of (hK I6 ((f5.sub rfl rfl).trans (h1.sub rfl rfl)) h2 h3 (fun j hj => (h4 j hj).trans (f5.ld rfl)))) 6 0 I5 _ rfl (hR4.fr hf5 rfl rfl (fun _ => rfl)) (Fr.refl _ _ _) he5
end
