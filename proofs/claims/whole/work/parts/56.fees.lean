/-! the reference: fees, rates -/
noncomputable def fwE (A : aS) (c d : Int) : Nat → Int := putE (putE (putE (putE (putE zE 0 (ageS A c d)) 1 (stS A c (Int.tdiv d 100) (A 91 0))) 3 (Int.tdiv d 100)) 2 (d - Int.tdiv d 100 * 100)) 6 (bI (spS A 4 c d (A 91 0)))
noncomputable def fwS (A : aS) (c d : Int) : Int := if onS A c d (A 91 0) = -1 ∨ spS A 1 (onS A c d (A 91 0)) d (A 91 0) = true ∨ spS A 5 c d (A 91 0) = true then 0 else if fsS A (fwE A c d) (Int.tdiv d 100) 8 (-1) = -1 then 0 else nuS A (Int.tdiv d 100) (fsS A (fwE A c d) (Int.tdiv d 100) 8 (-1))
noncomputable def fesL (A : aS) (c : Int) : Nat → Int
  | 0 => 0
  | w + 1 => fesL A c w + fwS A c (5 * w : Nat)
noncomputable def fesS (A : aS) (c day : Int) : Int := fesL A c (day.toNat / 5 + 1)
theorem coL_in {A : aS} (hT : WfT A) {r : Int} (hr : 0 ≤ r ∧ r ≤ 480) : ∀ h : Nat, h ≤ (A 91 63).toNat → 0 ≤ coL A r h ∧ coL A r h ≤ 240000 * h
  | 0, _ => by unfold coL; omega
  | h + 1, hh => by
    have ih := coL_in hT hr h (by omega)
    have hv := hT.2.2.2.1 h (by omega)
    have hm : 0 ≤ A 136 h * r ∧ A 136 h * r ≤ 500 * 480 := ⟨Int.mul_nonneg (by omega) hr.1, Int.mul_le_mul hv.2 hr.2 hr.1 (by omega)⟩
    have hp : 0 ≤ paS A h r ∧ paS A h r ≤ 240000 := by
      unfold paS
      rw [Int.toNat_natCast]
      split
      · rw [Int.tdiv_eq_ediv_of_nonneg hm.1]; omega
      · omega
    unfold coL
    omega
theorem coS_in {A : aS} (hT : WfT A) {r : Int} (hr : 0 ≤ r ∧ r ≤ 480) : 0 ≤ coS A r ∧ coS A r ≤ 9600000 := by
  have h := coL_in hT hr (A 91 63).toNat (Nat.le_refl _)
  have := hT.2.2.1
  unfold coS
  omega
noncomputable def rtF (A : aS) (pence : Int) : Nat → Nat → Int
  | 0, r => r
  | f + 1, r => if coS A r < pence then rtF A pence f (r + 1) else r
noncomputable def rtS (A : aS) (pence : Int) : Int := rtF A pence 481 0
def h267_1 (d L : Nat) (I : Nat → Nat → Int32) (R : Nat → Nat → Option Nat) (S : List (Nat × Nat)) (Q : Option Value → mM → Prop) (x1 : Int) (x2 : Int) (x3 : Int) (x4 : Int) (w5 : Value) (w6 : Value) (w7 : Value) : Prop := Wp d (gb 267 1) [.ref 91, .int (oI x1), .int (oI x2), .int (oI x3), .int (oI x4), w5, w6, w7] [] (bd L I R S) Q
set_option maxRecDepth 4000 in
theorem e267_1 {d L : Nat} {I : Nat → Nat → Int32} {R : Nat → Nat → Option Nat} {S : List (Nat × Nat)} {Q : Option Value → mM → Prop} {A : aS} (hR : RM I A) {x1 : Int} {x2 : Int} {x3 : Int} {x4 : Int} {w5 : Value} {w6 : Value} {w7 : Value} (hE : inR x4 ∧ (inR x2 ∧ (((x2 < x4) → Q (some (.int (oI x3))) (bd L I R S)) ∧ (¬ (x2 < x4) → WfN A ∧ (inR x1 ∧ (inR (onS A x1 x4 (A 91 0)) ∧ (((onS A x1 x4 (A 91 0) = (-1)) → h267_1 (d + 29) L I R S Q x1 x2 x3 (x4 + 5) (.int (oI (onS A x1 x4 (A 91 0)))) w6 w7) ∧ (¬ (onS A x1 x4 (A 91 0) = (-1)) → ((spS A 1 (onS A x1 x4 (A 91 0)) x4 (A 91 0) = true) → h267_1 (d + 29) L I R S Q x1 x2 x3 (x4 + 5) (.int (oI (onS A x1 x4 (A 91 0)))) w6 w7) ∧ (¬ (spS A 1 (onS A x1 x4 (A 91 0)) x4 (A 91 0) = true) → ((spS A 5 x1 x4 (A 91 0) = true) → h267_1 (d + 29) L I R S Q x1 x2 x3 (x4 + 5) (.int (oI (onS A x1 x4 (A 91 0)))) w6 w7) ∧ (¬ (spS A 5 x1 x4 (A 91 0) = true) → WfA A ∧ (WfC A ∧ (WfP A ∧ ((0 ≤ x1 ∧ x1 < A 91 1) ∧ ((0 ≤ Int.tdiv x4 100 ∧ Int.tdiv x4 100 ≤ 7) ∧ (∀ (I19 : mI), (Fr [150, 151] [(91, 87)] I I19) → (RM I19 A) → ∀ (I22 : mI), (Fr [150] [] I19 I22) → (∀ j : Nat, j < 12 → ld I22 150 j = 0) → (0 ≤ x1 ∧ x1 < 40) ∧ (inR (x4 - (A 92 x1.toNat)) ∧ (inR (Int.tdiv (x4 - (A 92 x1.toNat)) 100) ∧ (∃ e28 : Nat → Int, EnvI (u2 (u2 (u2 (u2 (u2 I22 150 0 (oI (max 0 (Int.tdiv (x4 - (A 92 x1.toNat)) 100)))) 150 1 (oI (stS A x1 (Int.tdiv x4 100) (A 91 0)))) 150 3 (oI (Int.tdiv x4 100))) 150 2 (oI (x4 - Int.tdiv x4 100 * 100))) 150 6 (oI (bI (spS A 4 x1 x4 (A 91 0))))) e28 ∧ (∀ (I30 : mI), (Fr [151] [(91, 87)] (u2 (u2 (u2 (u2 (u2 I22 150 0 (oI (max 0 (Int.tdiv (x4 - (A 92 x1.toNat)) 100)))) 150 1 (oI (stS A x1 (Int.tdiv x4 100) (A 91 0)))) 150 3 (oI (Int.tdiv x4 100))) 150 2 (oI (x4 - Int.tdiv x4 100 * 100))) 150 6 (oI (bI (spS A 4 x1 x4 (A 91 0))))) I30) → (RM I30 A) → inR (fsS A e28 (Int.tdiv x4 100) 8 (-1)) ∧ (((fsS A e28 (Int.tdiv x4 100) 8 (-1) = (-1)) → h267_1 (d + 29) L I30 R S Q x1 x2 x3 (x4 + 5) (.int (oI (onS A x1 x4 (A 91 0)))) (.int (oI (stS A x1 (Int.tdiv x4 100) (A 91 0)))) (.int (oI (fsS A e28 (Int.tdiv x4 100) 8 (-1))))) ∧ (¬ (fsS A e28 (Int.tdiv x4 100) 8 (-1) = (-1)) → (0 ≤ fsS A e28 (Int.tdiv x4 100) 8 (-1) ∧ fsS A e28 (Int.tdiv x4 100) 8 (-1) ≤ 60) ∧ (∀ (I36 : mI), (Fr [151] [(91, 87)] I30 I36) → (RM I36 A) → (0 ≤ cdS A (Int.tdiv x4 100) (fsS A e28 (Int.tdiv x4 100) 8 (-1)) ∧ cdS A (Int.tdiv x4 100) (fsS A e28 (Int.tdiv x4 100) 8 (-1)) < 360) ∧ (h267_1 (d + 29) L I36 R S Q x1 x2 (x3 + (A 141 (cdS A (Int.tdiv x4 100) (fsS A e28 (Int.tdiv x4 100) 8 (-1))).toNat)) (x4 + 5) (.int (oI (onS A x1 x4 (A 91 0)))) (.int (oI (stS A x1 (Int.tdiv x4 100) (A 91 0)))) (.int (oI (fsS A e28 (Int.tdiv x4 100) 8 (-1))))))))))))))))))))))))))) : h267_1 (d + 29) L I R S Q x1 x2 x3 x4 w5 w6 w7 := by
  unfold h267_1
  refine xG gb267.2.1 ?_
  refine s4 (x := x4) rfl ?_
  refine s4 (x := x2) rfl ?_
  obtain ⟨g1, hE⟩ := hE
  obtain ⟨g2, hE⟩ := hE
  refine s65 g1 g2 (fun c3 => ?_) (fun c3 => ?_)
  · replace hE := hE.1 c3
    refine xG gb267.2.2.2.2 ?_
    refine s4 (x := x3) rfl ?_
    refine s80 ?_
    exact hE
  · replace hE := hE.2 c3
    refine s6 (p := 91) rfl ?_
    refine s4 (x := x1) rfl ?_
    refine s4 (x := x4) rfl ?_
    refine s6 (p := 91) rfl ?_
    refine s50 (v := A 91 0) sh91 (by decide) (by decide) (rdM hR.1 rfl) ?_
    obtain ⟨g4, hE⟩ := hE
    obtain ⟨g5, hE⟩ := hE
    refine sI rc225 rfl (Nat.le_of_ble_eq_true rfl) ?_
    refine k225 hR.1 g4 g5 g1 (inA hR.1 (a := 91) (k := 0) rfl) ?_
    refine s7 (ls' := [.ref 91, .int (oI x1), .int (oI x2), .int (oI x3), .int (oI x4), .int (oI (onS A x1 x4 (A 91 0))), w6, w7]) (Nat.le_of_ble_eq_true rfl) rfl ?_
    refine s4 (x := onS A x1 x4 (A 91 0)) rfl ?_
    refine s0 ?_
    obtain ⟨g6, hE⟩ := hE
    refine s61 g6 (inRd rfl) (fun c7 => ?_) (fun c7 => ?_)
    · replace hE := hE.1 c7
      refine xG gb267.2.2.2.1 ?_
      refine s10 (x := x4) (ls' := [.ref 91, .int (oI x1), .int (oI x2), .int (oI x3), .int (oI (x4 + 5)), .int (oI (onS A x1 x4 (A 91 0))), w6, w7]) rfl rfl ?_
      refine s60 ?_
      exact hE
    · replace hE := hE.2 c7
      refine s6 (p := 91) rfl ?_
      refine s4 (x := onS A x1 x4 (A 91 0)) rfl ?_
      refine s4 (x := x4) rfl ?_
      refine s6 (p := 91) rfl ?_
      refine s50 (v := A 91 0) sh91 (by decide) (by decide) (rdM hR.1 rfl) ?_
      refine sI rc268 rfl (Nat.le_of_ble_eq_true rfl) ?_
      refine k268 hR.1 g4 g6 g1 (inA hR.1 (a := 91) (k := 0) rfl) (fun c8 => ?_) (fun c8 => ?_)
      · replace hE := hE.1 c8
        refine s68 (inRd rfl) (fun c9 => absurd c9 (by decide)) (fun _ => ?_)
        refine xG gb267.2.2.2.1 ?_
        refine s10 (x := x4) (ls' := [.ref 91, .int (oI x1), .int (oI x2), .int (oI x3), .int (oI (x4 + 5)), .int (oI (onS A x1 x4 (A 91 0))), w6, w7]) rfl rfl ?_
        refine s60 ?_
        exact hE
      · replace hE := hE.2 c8
        refine s68 (inRd rfl) (fun _ => ?_) (fun c10 => absurd (by decide) c10)
        refine s6 (p := 91) rfl ?_
        refine s0 ?_
        refine s4 (x := x1) rfl ?_
        refine s4 (x := x4) rfl ?_
        refine s6 (p := 91) rfl ?_
        refine s50 (v := A 91 0) sh91 (by decide) (by decide) (rdM hR.1 rfl) ?_
        refine sI rc238 rfl (Nat.le_of_ble_eq_true rfl) ?_
        refine k238 hR.1 g4 (inRd rfl) g5 g1 (inA hR.1 (a := 91) (k := 0) rfl) (fun c11 => ?_) (fun c11 => ?_)
        · replace hE := hE.1 c11
          refine s67 (inRd rfl) (fun c12 => absurd c12 (by decide)) (fun _ => ?_)
          refine s60 ?_
          refine xG gb267.2.2.2.1 ?_
          refine s10 (x := x4) (ls' := [.ref 91, .int (oI x1), .int (oI x2), .int (oI x3), .int (oI (x4 + 5)), .int (oI (onS A x1 x4 (A 91 0))), w6, w7]) rfl rfl ?_
          refine s60 ?_
          exact hE
        · replace hE := hE.2 c11
          refine s67 (inRd rfl) (fun _ => ?_) (fun c13 => absurd (by decide) c13)
          refine xG gb267.2.2.1 ?_
          refine s6 (p := 91) rfl ?_
          refine s4 (x := x1) rfl ?_
          refine s4 (x := x4) rfl ?_
          refine s0 ?_
          refine s19 g1 ⟨(inRd rfl), by decide⟩ ?_
          refine s6 (p := 91) rfl ?_
          refine s50 (v := A 91 0) sh91 (by decide) (by decide) (rdM hR.1 rfl) ?_
          obtain ⟨g14, hE⟩ := hE
          obtain ⟨g15, hE⟩ := hE
          obtain ⟨g16, hE⟩ := hE
          obtain ⟨g17, hE⟩ := hE
          obtain ⟨g18, hE⟩ := hE
          refine sI rc233 rfl (Nat.le_of_ble_eq_true rfl) ?_
          refine k233 hR g14 g15 g16 g17 g18 (inA hR.1 (a := 91) (k := 0) rfl) (fun I19 q20 q21 => ?_)
          replace hE := hE I19 q20 q21
          refine s7 (ls' := [.ref 91, .int (oI x1), .int (oI x2), .int (oI x3), .int (oI x4), .int (oI (onS A x1 x4 (A 91 0))), .int (oI (stS A x1 (Int.tdiv x4 100) (A 91 0))), w7]) (Nat.le_of_ble_eq_true rfl) rfl ?_
          refine s6 (p := 91) rfl ?_
          refine sV rc236 rfl (Nat.le_of_ble_eq_true rfl) ?_
          refine k236R (q21) (fun I22 q23 q24 => ?_)
          replace hE := hE I22 q23 q24
          refine s6 (p := 91) rfl ?_
          refine s51 sh91 (by decide) (by decide) rf91_85 ?_
          refine s0 ?_
          refine s6 (p := 91) rfl ?_
          refine s4 (x := x1) rfl ?_
          refine s4 (x := x4) rfl ?_
          refine sI rc237 rfl (Nat.le_of_ble_eq_true rfl) ?_
          refine cI_of (ls := [.ref 91, .int (oI x1), .int (oI x4)]) rfl ?_
          refine xG gb237 ?_
          refine s0 ?_
          refine s4 (x := x4) rfl ?_
          refine s6 (p := 91) rfl ?_
          refine s51 sh91 (by decide) (by decide) rf91_5 ?_
          refine s4 (x := x1) rfl ?_
          obtain ⟨g25, hE⟩ := hE
          refine s40 (v := A 92 x1.toNat) sh92 g25 rfl (rdM (RM.fr (q21) q23 rfl rfl (fun _ => rfl)).1 rfl) ?_
          refine s17 ?_
          refine s0 ?_
          obtain ⟨g26, hE⟩ := hE
          refine s19 g26 ⟨(inRd rfl), by decide⟩ ?_
          obtain ⟨g27, hE⟩ := hE
          refine sI rc346 rfl (Nat.le_of_ble_eq_true rfl) ?_
          refine k346 (inRd rfl) g27 ?_
          refine s80 ?_
          refine rqI_of ?_
          refine s44 sh150 (by decide) (⟨by decide, by decide⟩ : (0 : Int) ≤ 0 ∧ (0 : Int) < 12) rfl ?_
          refine s6 (p := 91) rfl ?_
          refine s51 sh91 (by decide) (by decide) rf91_85 ?_
          refine s0 ?_
          refine s4 (x := stS A x1 (Int.tdiv x4 100) (A 91 0)) rfl ?_
          refine s44 sh150 (by decide) (⟨by decide, by decide⟩ : (0 : Int) ≤ 1 ∧ (1 : Int) < 12) rfl ?_
          refine s6 (p := 91) rfl ?_
          refine s51 sh91 (by decide) (by decide) rf91_85 ?_
          refine s0 ?_
          refine s4 (x := x4) rfl ?_
          refine s0 ?_
          refine s19 g1 ⟨(inRd rfl), by decide⟩ ?_
          refine s44 sh150 (by decide) (⟨by decide, by decide⟩ : (0 : Int) ≤ 3 ∧ (3 : Int) < 12) rfl ?_
          refine s6 (p := 91) rfl ?_
          refine s51 sh91 (by decide) (by decide) rf91_85 ?_
          refine s0 ?_
          refine s4 (x := x4) rfl ?_
          refine s0 ?_
          refine s20 g1 ⟨(inRd rfl), by decide⟩ ?_
          refine s44 sh150 (by decide) (⟨by decide, by decide⟩ : (0 : Int) ≤ 2 ∧ (2 : Int) < 12) rfl ?_
          refine s6 (p := 91) rfl ?_
          refine s51 sh91 (by decide) (by decide) rf91_85 ?_
          refine s0 ?_
          refine s6 (p := 91) rfl ?_
          refine s0 ?_
          refine s4 (x := x1) rfl ?_
          refine s4 (x := x4) rfl ?_
          refine s6 (p := 91) rfl ?_
          refine s50 (v := A 91 0) sh91 (by decide) (by decide) ((v2_ne (by decide)).trans ((v2_ne (by decide)).trans ((v2_ne (by decide)).trans ((v2_ne (by decide)).trans (rdM (RM.fr (q21) q23 rfl rfl (fun _ => rfl)).1 rfl))))) ?_
          refine sI rc238 rfl (Nat.le_of_ble_eq_true rfl) ?_
          refine k238' (RelM.scr (RelM.scr (RelM.scr (RelM.scr (RM.fr (q21) q23 rfl rfl (fun _ => rfl)).1 rfl) rfl) rfl) rfl) g4 (inRd rfl) g5 g1 (inA (RM.fr (q21) q23 rfl rfl (fun _ => rfl)).1 (a := 91) (k := 0) rfl) ?_
          refine sI rc227 rfl (Nat.le_of_ble_eq_true rfl) ?_
          refine k227 (bI_01 _) ?_
          refine s44 sh150 (by decide) (⟨by decide, by decide⟩ : (0 : Int) ≤ 6 ∧ (6 : Int) < 12) rfl ?_
          refine s6 (p := 91) rfl ?_
          refine s4 (x := x4) rfl ?_
          refine s0 ?_
          refine s19 g1 ⟨(inRd rfl), by decide⟩ ?_
          refine s0 ?_
          refine s0 ?_
          obtain ⟨e28, k29, hE⟩ := hE
          refine sI rc220 rfl (Nat.le_of_ble_eq_true rfl) ?_
          refine k220 k29 (RM.scr (RM.scr (RM.scr (RM.scr (RM.scr (RM.fr (q21) q23 rfl rfl (fun _ => rfl)) rfl) rfl) rfl) rfl) rfl) g15 g18 (inRd rfl) (inRd rfl) (fun I30 q31 q32 => ?_)
          replace hE := hE I30 q31 q32
          refine s7 (ls' := [.ref 91, .int (oI x1), .int (oI x2), .int (oI x3), .int (oI x4), .int (oI (onS A x1 x4 (A 91 0))), .int (oI (stS A x1 (Int.tdiv x4 100) (A 91 0))), .int (oI (fsS A e28 (Int.tdiv x4 100) 8 (-1)))]) (Nat.le_of_ble_eq_true rfl) rfl ?_
          refine s4 (x := fsS A e28 (Int.tdiv x4 100) 8 (-1)) rfl ?_
          refine s0 ?_
          obtain ⟨g33, hE⟩ := hE
          refine s61 g33 (inRd rfl) (fun c34 => ?_) (fun c34 => ?_)
          · replace hE := hE.1 c34
            refine xG gb267.2.2.2.1 ?_
            refine s10 (x := x4) (ls' := [.ref 91, .int (oI x1), .int (oI x2), .int (oI x3), .int (oI (x4 + 5)), .int (oI (onS A x1 x4 (A 91 0))), .int (oI (stS A x1 (Int.tdiv x4 100) (A 91 0))), .int (oI (fsS A e28 (Int.tdiv x4 100) 8 (-1)))]) rfl rfl ?_
            refine s60 ?_
            exact hE
          · replace hE := hE.2 c34
            refine s4 (x := x3) rfl ?_
            refine s6 (p := 91) rfl ?_
            refine s51 sh91 (by decide) (by decide) rf91_76 ?_
            refine s6 (p := 91) rfl ?_
            refine s4 (x := x4) rfl ?_
            refine s0 ?_
            refine s19 g1 ⟨(inRd rfl), by decide⟩ ?_
            refine s4 (x := fsS A e28 (Int.tdiv x4 100) 8 (-1)) rfl ?_
            obtain ⟨g35, hE⟩ := hE
            refine sI rc221 rfl (Nat.le_of_ble_eq_true rfl) ?_
            refine k221 q32 g15 g18 g35 (fun I36 q37 q38 => ?_)
            replace hE := hE I36 q37 q38
            obtain ⟨g39, hE⟩ := hE
            refine s40 (v := A 141 (cdS A (Int.tdiv x4 100) (fsS A e28 (Int.tdiv x4 100) 8 (-1))).toNat) sh141 g39 rfl (rdM (q38).1 rfl) ?_
            refine s16 ?_
            refine s7 (ls' := [.ref 91, .int (oI x1), .int (oI x2), .int (oI (x3 + (A 141 (cdS A (Int.tdiv x4 100) (fsS A e28 (Int.tdiv x4 100) 8 (-1))).toNat))), .int (oI x4), .int (oI (onS A x1 x4 (A 91 0))), .int (oI (stS A x1 (Int.tdiv x4 100) (A 91 0))), .int (oI (fsS A e28 (Int.tdiv x4 100) 8 (-1)))]) (Nat.le_of_ble_eq_true rfl) rfl ?_
            refine s79 ?_
            refine xG gb267.2.2.2.1 ?_
            refine s10 (x := x4) (ls' := [.ref 91, .int (oI x1), .int (oI x2), .int (oI (x3 + (A 141 (cdS A (Int.tdiv x4 100) (fsS A e28 (Int.tdiv x4 100) 8 (-1))).toNat))), .int (oI (x4 + 5)), .int (oI (onS A x1 x4 (A 91 0))), .int (oI (stS A x1 (Int.tdiv x4 100) (A 91 0))), .int (oI (fsS A e28 (Int.tdiv x4 100) 8 (-1)))]) rfl rfl ?_
            refine s60 ?_
            exact hE
set_option maxRecDepth 4000 in
theorem e267 {d L : Nat} {I : Nat → Nat → Int32} {R : Nat → Nat → Option Nat} {S : List (Nat × Nat)} {K : Int32 → mM → Prop} {A : aS} (hR : RM I A) {x1 : Int} {x2 : Int} (hE : h267_1 d L I R S (rqI K) x1 x2 0 0 mUn mUn mUn) : CallI d 267 [.ref 91, .int (oI x1), .int (oI x2)] (bd L I R S) K := by
  refine cI_of (ls := [.ref 91, .int (oI x1), .int (oI x2), mUn, mUn, mUn, mUn, mUn]) rfl ?_
  refine xG gb267.1 ?_
  refine s0 ?_
  refine s7 (ls' := [.ref 91, .int (oI x1), .int (oI x2), .int (oI 0), mUn, mUn, mUn, mUn]) (Nat.le_of_ble_eq_true rfl) rfl ?_
  refine s0 ?_
  refine s7 (ls' := [.ref 91, .int (oI x1), .int (oI x2), .int (oI 0), .int (oI 0), mUn, mUn, mUn]) (Nat.le_of_ble_eq_true rfl) rfl ?_
  refine s79 ?_
  exact hE
def h297_1 (d L : Nat) (I : Nat → Nat → Int32) (R : Nat → Nat → Option Nat) (S : List (Nat × Nat)) (Q : Option Value → mM → Prop) (x1 : Int) (x2 : Int) (x3 : Int) : Prop := Wp d (gb 297 1) [.ref 91, .int (oI x1), .int (oI x2), .int (oI x3)] [] (bd L I R S) Q
set_option maxRecDepth 4000 in
theorem e297_1 {d L : Nat} {I : Nat → Nat → Int32} {R : Nat → Nat → Option Nat} {S : List (Nat × Nat)} {Q : Option Value → mM → Prop} {A : aS} (hR : RM I A) {x1 : Int} {x2 : Int} {x3 : Int} (hE : inR x3 ∧ (((x3 < A 91 63) → WfA A ∧ (WfC A ∧ (WfT A ∧ ((0 ≤ x3 ∧ x3 < A 91 63) ∧ ((0 ≤ x1 ∧ x1 ≤ 480) ∧ (∀ (I8 : mI), (Fr [151] [(91, 87)] I I8) → (RM I8 A) → h297_1 (d + 28) L I8 R S Q x1 (x2 + (paS A x3 x1)) (x3 + 1))))))) ∧ (¬ (x3 < A 91 63) → Q (some (.int (oI x2))) (bd L I R S)))) : h297_1 (d + 28) L I R S Q x1 x2 x3 := by
  unfold h297_1
  refine xG gb297.2.1 ?_
  refine s4 (x := x3) rfl ?_
  refine s6 (p := 91) rfl ?_
  refine s50 (v := A 91 63) sh91 (by decide) (by decide) (rdM hR.1 rfl) ?_
  obtain ⟨g1, hE⟩ := hE
  refine s64 g1 (inA hR.1 (a := 91) (k := 63) rfl) (fun c2 => ?_) (fun c2 => ?_)
  · replace hE := hE.1 c2
    refine s4 (x := x2) rfl ?_
    refine s6 (p := 91) rfl ?_
    refine s4 (x := x3) rfl ?_
    refine s4 (x := x1) rfl ?_
    obtain ⟨g3, hE⟩ := hE
    obtain ⟨g4, hE⟩ := hE
    obtain ⟨g5, hE⟩ := hE
    obtain ⟨g6, hE⟩ := hE
    obtain ⟨g7, hE⟩ := hE
    refine sI rc298 rfl (Nat.le_of_ble_eq_true rfl) ?_
    refine k298 hR g3 g4 g5 g6 g7 (fun I8 q9 q10 => ?_)
    replace hE := hE I8 q9 q10
    refine s16 ?_
    refine s7 (ls' := [.ref 91, .int (oI x1), .int (oI (x2 + (paS A x3 x1))), .int (oI x3)]) (Nat.le_of_ble_eq_true rfl) rfl ?_
    refine s10 (x := x3) (ls' := [.ref 91, .int (oI x1), .int (oI (x2 + (paS A x3 x1))), .int (oI (x3 + 1))]) rfl rfl ?_
    refine s60 ?_
    exact hE
  · replace hE := hE.2 c2
    refine xG gb297.2.2 ?_
    refine s4 (x := x2) rfl ?_
    refine s80 ?_
    exact hE
set_option maxRecDepth 4000 in
theorem e297 {d L : Nat} {I : Nat → Nat → Int32} {R : Nat → Nat → Option Nat} {S : List (Nat × Nat)} {K : Int32 → mM → Prop} {A : aS} (hR : RM I A) {x1 : Int} (hE : h297_1 d L I R S (rqI K) x1 0 0) : CallI d 297 [.ref 91, .int (oI x1)] (bd L I R S) K := by
  refine cI_of (ls := [.ref 91, .int (oI x1), mUn, mUn]) rfl ?_
  refine xG gb297.1 ?_
  refine s0 ?_
  refine s7 (ls' := [.ref 91, .int (oI x1), .int (oI 0), mUn]) (Nat.le_of_ble_eq_true rfl) rfl ?_
  refine s0 ?_
  refine s7 (ls' := [.ref 91, .int (oI x1), .int (oI 0), .int (oI 0)]) (Nat.le_of_ble_eq_true rfl) rfl ?_
  refine s79 ?_
  exact hE
section
variable {d L : Nat} {I I0 : mI} {R : Nat → Nat → Option Nat} {S : List (Nat × Nat)} {Q : Option Value → mM → Prop} {A : aS} {c day known kind half year subj code : Int}
theorem l267 (hW : WfA A) (hC : WfC A) (hP : WfP A) (hc : 0 ≤ c ∧ c < A 91 1) (hd : 0 ≤ day ∧ day ≤ 799) (hK : ∀ I1, Fr [150, 151] [(91, 87)] I0 I1 → RM I1 A → Q (some (.int (oI (fesS A c day)))) (bd L I1 R S)) : ∀ (n k : Nat) (I : mI) (w5 w6 w7 : Value), k + n = day.toNat / 5 + 1 → RM I A → Fr [150, 151] [(91, 87)] I0 I → h267_1 (d + 29) L I R S Q c day (fesL A c k) (5 * k : Nat) w5 w6 w7 := by
  have hW1 := hW.2.1
  have ht := hW.1
  intro n
  induction n with
  | zero =>
    intro k I w5 w6 w7 hk hR hf
    refine e267_1 hR ⟨⟨by omega, by omega⟩, ⟨by omega, by omega⟩, fun _ => ?_, fun h => by exfalso; omega⟩
    have := hK I hf hR
    unfold fesS at this
    rw [show day.toNat / 5 + 1 = k by omega] at this
    exact this
  | succ n ih =>
    intro k I w5 w6 w7 hk hR hf
    have es : fesL A c (k + 1) = fesL A c k + fwS A c (5 * k : Nat) := rfl
    have wp := (hP c.toNat (by omega)).1
    have oi := onS_in hW (c := c) (day := ((5 * k : Nat) : Int)) (known := A 91 0)
    have hq : Int.tdiv ((5 * k : Nat) : Int) 100 = ((5 * k / 100 : Nat) : Int) := by rw [Int.tdiv_eq_ediv_of_nonneg (by omega)]; omega
    have hdd : 0 ≤ Int.tdiv ((5 * k : Nat) : Int) 100 ∧ Int.tdiv ((5 * k : Nat) : Int) 100 ≤ 7 := by rw [hq]; omega
    have si := stS_in hP (year := Int.tdiv ((5 * k : Nat) : Int) 100) (known := A 91 0) hc
    have d1 : -799 ≤ Int.tdiv (((5 * k : Nat) : Int) - A 92 c.toNat) 100 ∧ Int.tdiv (((5 * k : Nat) : Int) - A 92 c.toNat) 100 ≤ 2299 := tdiv_bd (a := 799) (b := 2299) (by omega) (by omega) (by omega) (by omega)
    have nx : ∀ (I3 : mI) (v : Int) (w5 w6 w7 : Value), RM I3 A → Fr [150, 151] [(91, 87)] I0 I3 → v = fesL A c (k + 1) → h267_1 (d + 29) L I3 R S Q c day v (((5 * k : Nat) : Int) + 5) w5 w6 w7 := by
      intro I3 v w5 w6 w7 hR3 hf3 hv
      have q := ih (k + 1) I3 w5 w6 w7 (by omega) hR3 hf3
      rw [← hv, show ((5 * (k + 1) : Nat) : Int) = ((5 * k : Nat) : Int) + 5 by omega] at q
      exact q
    refine e267_1 hR ⟨⟨by omega, by omega⟩, ⟨by omega, by omega⟩, fun h => by exfalso; omega, fun _ => ⟨hW.2.2.2.1, ⟨by omega, by omega⟩, ⟨by omega, by omega⟩, fun c1 => nx I _ _ _ _ hR hf ?_, fun c1 => ⟨fun c2 => nx I _ _ _ _ hR hf ?_, fun c2 => ⟨fun c3 => nx I _ _ _ _ hR hf ?_, fun c3 => ⟨hW, hC, hP, hc, hdd, fun I1 hf1 hR1 I2 hf2 hz2 => ⟨by omega, ⟨by omega, by omega⟩, ⟨by omega, by omega⟩, ?_⟩⟩⟩⟩⟩⟩
    · rw [es]; unfold fwS; rw [if_pos (Or.inl c1)]; omega
    · rw [es]; unfold fwS; rw [if_pos (Or.inr (Or.inl c2))]; omega
    · rw [es]; unfold fwS; rw [if_pos (Or.inr (Or.inr c3))]; omega
    · have ef : fwS A c ((5 * k : Nat) : Int) = if fsS A (fwE A c ((5 * k : Nat) : Int)) (Int.tdiv ((5 * k : Nat) : Int) 100) 8 (-1) = -1 then 0 else nuS A (Int.tdiv ((5 * k : Nat) : Int) 100) (fsS A (fwE A c ((5 * k : Nat) : Int)) (Int.tdiv ((5 * k : Nat) : Int) 100) 8 (-1)) := by
        unfold fwS; rw [if_neg (by rintro (a | a | a); exact c1 a; exact c2 a; exact c3 a)]
      have he : EnvI (u2 (u2 (u2 (u2 (u2 I2 150 0 (oI (max 0 (Int.tdiv (((5 * k : Nat) : Int) - A 92 c.toNat) 100)))) 150 1 (oI (stS A c (Int.tdiv ((5 * k : Nat) : Int) 100) (A 91 0)))) 150 3 (oI (Int.tdiv ((5 * k : Nat) : Int) 100))) 150 2 (oI (((5 * k : Nat) : Int) - Int.tdiv ((5 * k : Nat) : Int) 100 * 100))) 150 6 (oI (bI (spS A 4 c ((5 * k : Nat) : Int) (A 91 0))))) (fwE A c ((5 * k : Nat) : Int)) :=
        (((((EnvI.zero hz2).put (k := 0) (v := max 0 (Int.tdiv (((5 * k : Nat) : Int) - A 92 c.toNat) 100)) ⟨by omega, by omega⟩).put (k := 1) ⟨by omega, by omega⟩).put (k := 3) ⟨by omega, by omega⟩).put (k := 2) ⟨by omega, by omega⟩).put (k := 6) (bI_in _)
      refine ⟨_, he, fun I3 hf3 hR3 => ?_⟩
      have f3 : Fr [150, 151] [(91, 87)] I0 I3 := hf.trans (hf1.trans (((((((hf2.sub rfl rfl).wr rfl).wr rfl).wr rfl).wr rfl).wr rfl).trans (hf3.sub rfl rfl)))
      rcases fsS_prop hC (h := fwE A c ((5 * k : Nat) : Int)) (y := Int.tdiv ((5 * k : Nat) : Int) 100) (kind := 8) (key := -1) with q0 | ⟨m, s, q1, q2, q3, q4, q5, q6, q7, q8, -⟩
      · refine ⟨by rw [q0]; exact inRd rfl, fun _ => nx I3 _ _ _ _ hR3 f3 ?_, fun h => absurd q0 h⟩
        rw [es, ef, if_pos q0]; omega
      · rw [q1, if_neg (by omega)] at ef
        rw [q1]
        refine ⟨⟨by omega, by omega⟩, fun h => by exfalso; omega, fun _ => ⟨by omega, fun I4 hf4 hR4 => ⟨by omega, nx I4 _ _ _ _ hR4 (f3.trans (hf4.sub rfl rfl)) ?_⟩⟩⟩
        rw [es, ef]
        unfold nuS
        rfl
theorem k267 {K : Int32 → mM → Prop} (hR : RM I A) (hW : WfA A) (hC : WfC A) (hP : WfP A) (hc : 0 ≤ c ∧ c < A 91 1) (hd : 0 ≤ day ∧ day ≤ 799) (hK : ∀ I1, Fr [150, 151] [(91, 87)] I I1 → RM I1 A → K (oI (fesS A c day)) (bd L I1 R S)) : CallI (d + 29) 267 [.ref 91, .int (oI c), .int (oI day)] (bd L I R S) K :=
  e267 hR (l267 hW hC hP hc hd (fun I2 h1 h2 => rqI_of (hK I2 h1 h2)) (day.toNat / 5 + 1) 0 I mUn mUn mUn (by omega) hR (Fr.refl _ _ _))
theorem l297 {r : Int} (hW : WfA A) (hC : WfC A) (hT : WfT A) (hr : 0 ≤ r ∧ r ≤ 480) (hK : ∀ I1, Fr [151] [(91, 87)] I0 I1 → RM I1 A → Q (some (.int (oI (coS A r)))) (bd L I1 R S)) : ∀ (n k : Nat) (I : mI), k + n = (A 91 63).toNat → RM I A → Fr [151] [(91, 87)] I0 I → h297_1 (d + 28) L I R S Q r (coL A r k) k := by
  have hh := hT.2.2.1
  intro n
  induction n with
  | zero =>
    intro k I hk hR hf
    refine e297_1 hR ⟨⟨by omega, by omega⟩, fun h => by exfalso; omega, fun _ => ?_⟩
    have := hK I hf hR
    unfold coS at this
    rw [show (A 91 63).toNat = k by omega] at this
    exact this
  | succ n ih =>
    intro k I hk hR hf
    exact e297_1 hR ⟨⟨by omega, by omega⟩, fun _ => ⟨hW, hC, hT, by omega, hr, fun I1 hf1 hR1 => ih (k + 1) I1 (by omega) hR1 (hf.trans hf1)⟩, fun h => by exfalso; omega⟩
theorem k297 {K : Int32 → mM → Prop} {r : Int} (hR : RM I A) (hW : WfA A) (hC : WfC A) (hT : WfT A) (hr : 0 ≤ r ∧ r ≤ 480) (hK : ∀ I1, Fr [151] [(91, 87)] I I1 → RM I1 A → K (oI (coS A r)) (bd L I1 R S)) : CallI (d + 28) 297 [.ref 91, .int (oI r)] (bd L I R S) K :=
  e297 hR (l297 hW hC hT hr (fun I2 h1 h2 => rqI_of (hK I2 h1 h2)) (A 91 63).toNat 0 I (by omega) hR (Fr.refl _ _ _))
end
