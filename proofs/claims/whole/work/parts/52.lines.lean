/-! the reference: lines of a grant -/
abbrev Ln : Type := Int × Int × Int
def lnSum (l : List Ln) : Int := (l.map (fun q => q.2.2)).sum
def LinesI (I : mI) (l : List Ln) : Prop := ld I 91 34 = l.length ∧ l.length < 2600 ∧ I 91 39 = oI (lnSum l) ∧ ∀ i : Nat, i < l.length → ld I 117 i = (l.getD i (0, 0, 0)).1 ∧ ld I 118 i = (l.getD i (0, 0, 0)).2.1 ∧ ld I 119 i = (l.getD i (0, 0, 0)).2.2
theorem lnSum_app (l : List Ln) (q : Ln) : lnSum (l ++ [q]) = lnSum l + q.2.2 := by simp [lnSum]
theorem LinesI.fr {I I1 : mI} {l : List Ln} {ws : List Nat} {os : List (Nat × Nat)} (h : LinesI I l) (hf : Fr ws os I I1) (h1 : (ws.contains 91 || os.contains (91, 34)) = false) (h2 : (ws.contains 91 || os.contains (91, 39)) = false) (h3 : ∀ k, (ws.contains 117 || os.contains (117, k)) = false) (h4 : ∀ k, (ws.contains 118 || os.contains (118, k)) = false) (h5 : ∀ k, (ws.contains 119 || os.contains (119, k)) = false) : LinesI I1 l := by
  obtain ⟨a, b, c, e⟩ := h
  refine ⟨(hf.ld h1).trans a, b, (hf 91 39 h2).trans c, fun i hi => ?_⟩
  obtain ⟨e1, e2, e3⟩ := e i hi
  exact ⟨(hf.ld (h3 i)).trans e1, (hf.ld (h4 i)).trans e2, (hf.ld (h5 i)).trans e3⟩
noncomputable def grB (A : aS) (h : Nat → Int) (code n per : Int) : Bool := !(cdS A code n == -1) && (A 140 (cdS A code n).toNat == 6 && (A 142 (cdS A code n).toNat == per && hdB A h (cdS A code n).toNat))
set_option maxRecDepth 4000 in
theorem e262 {d L : Nat} {I : Nat → Nat → Int32} {R : Nat → Nat → Option Nat} {S : List (Nat × Nat)} {K : Int32 → mM → Prop} {A : aS} (hR : RM I A) {x1 : Int} {x2 : Int} {x3 : Int} (hE : WfC A ∧ ((0 ≤ x1 ∧ x1 ≤ 7) ∧ ((0 ≤ x2 ∧ x2 ≤ 60) ∧ (∀ (I4 : mI), (Fr [151] [(91, 87)] I I4) → (RM I4 A) → inR (cdS A x1 x2) ∧ (((cdS A x1 x2 = (-1)) → K (oI 0) (bd L I4 R S)) ∧ (¬ (cdS A x1 x2 = (-1)) → (0 ≤ cdS A x1 x2 ∧ cdS A x1 x2 < 360) ∧ (((A 140 (cdS A x1 x2).toNat = 6) → inR x3 ∧ (((A 142 (cdS A x1 x2).toNat = x3) → (0 ≤ cdS A x1 x2 ∧ cdS A x1 x2 < 320) ∧ (WfS A (cdS A x1 x2).toNat ∧ (¬ A 140 (cdS A x1 x2).toNat = 0 ∧ (∃ e13 : Nat → Int, EnvI I4 e13 ∧ (((hdB A e13 (cdS A x1 x2).toNat = true) → K (oI 1) (bd L I4 R S)) ∧ (¬ (hdB A e13 (cdS A x1 x2).toNat = true) → K (oI 0) (bd L I4 R S))))))) ∧ (¬ (A 142 (cdS A x1 x2).toNat = x3) → K (oI 0) (bd L I4 R S)))) ∧ (¬ (A 140 (cdS A x1 x2).toNat = 6) → K (oI 0) (bd L I4 R S))))))))) : CallI (d + 25) 262 [.ref 91, .int (oI x1), .int (oI x2), .int (oI x3)] (bd L I R S) K := by
  refine cI_of (ls := [.ref 91, .int (oI x1), .int (oI x2), .int (oI x3), mUn]) rfl ?_
  refine xG gb262.1 ?_
  refine s6 (p := 91) rfl ?_
  refine s4 (x := x1) rfl ?_
  refine s4 (x := x2) rfl ?_
  obtain ⟨g1, hE⟩ := hE
  obtain ⟨g2, hE⟩ := hE
  obtain ⟨g3, hE⟩ := hE
  refine sI rc221 rfl (Nat.le_of_ble_eq_true rfl) ?_
  refine k221 hR g1 g2 g3 (fun I4 q5 q6 => ?_)
  replace hE := hE I4 q5 q6
  refine s7 (ls' := [.ref 91, .int (oI x1), .int (oI x2), .int (oI x3), .int (oI (cdS A x1 x2))]) (Nat.le_of_ble_eq_true rfl) rfl ?_
  refine s4 (x := cdS A x1 x2) rfl ?_
  refine s0 ?_
  obtain ⟨g7, hE⟩ := hE
  refine s61 g7 (inRd rfl) (fun c8 => ?_) (fun c8 => ?_)
  · replace hE := hE.1 c8
    refine xG gb262.2.1 ?_
    refine s0 ?_
    refine s79 ?_
    refine xG gb262.2.2 ?_
    refine s84 (by decide) ?_
    exact rqI_of hE
  · replace hE := hE.2 c8
    refine s6 (p := 91) rfl ?_
    refine s51 sh91 (by decide) (by decide) rf91_75 ?_
    refine s4 (x := cdS A x1 x2) rfl ?_
    obtain ⟨g9, hE⟩ := hE
    refine s40 (v := A 140 (cdS A x1 x2).toNat) sh140 g9 rfl (rdM (q6).1 rfl) ?_
    refine s0 ?_
    refine s62 (inA (q6).1 (a := 140) (k := (cdS A x1 x2).toNat) rfl) (inRd rfl) (fun c10 => ?_) (fun c10 => ?_)
    · replace hE := hE.1 c10
      refine s6 (p := 91) rfl ?_
      refine s51 sh91 (by decide) (by decide) rf91_77 ?_
      refine s4 (x := cdS A x1 x2) rfl ?_
      refine s40 (v := A 142 (cdS A x1 x2).toNat) sh142 g9 rfl (rdM (q6).1 rfl) ?_
      refine s4 (x := x3) rfl ?_
      obtain ⟨g11, hE⟩ := hE
      refine s62 (inA (q6).1 (a := 142) (k := (cdS A x1 x2).toNat) rfl) g11 (fun c12 => ?_) (fun c12 => ?_)
      · replace hE := hE.1 c12
        refine s6 (p := 91) rfl ?_
        refine s4 (x := cdS A x1 x2) rfl ?_
        obtain ⟨g15, hE⟩ := hE
        obtain ⟨g16, hE⟩ := hE
        obtain ⟨g17, hE⟩ := hE
        obtain ⟨e13, k14, hE⟩ := hE
        refine sI rc223 rfl (Nat.le_of_ble_eq_true rfl) ?_
        refine k223' k14 (q6) g15 g16 g17 (fun c18 => ?_) (fun c18 => ?_)
        · replace hE := hE.1 c18
          refine s67 (inRd rfl) (fun c19 => absurd c19 (by decide)) (fun _ => ?_)
          refine s0 ?_
          refine s60 ?_
          refine xG gb262.2.2 ?_
          refine s84 (by decide) ?_
          exact rqI_of hE
        · replace hE := hE.2 c18
          refine s67 (inRd rfl) (fun _ => ?_) (fun c20 => absurd (by decide) c20)
          refine xG gb262.2.1 ?_
          refine s0 ?_
          refine s79 ?_
          refine xG gb262.2.2 ?_
          refine s84 (by decide) ?_
          exact rqI_of hE
      · replace hE := hE.2 c12
        refine xG gb262.2.1 ?_
        refine s0 ?_
        refine s79 ?_
        refine xG gb262.2.2 ?_
        refine s84 (by decide) ?_
        exact rqI_of hE
    · replace hE := hE.2 c10
      refine xG gb262.2.1 ?_
      refine s0 ?_
      refine s79 ?_
      refine xG gb262.2.2 ?_
      refine s84 (by decide) ?_
      exact rqI_of hE
set_option maxRecDepth 4000 in
theorem e263 {d L : Nat} {I : Nat → Nat → Int32} {R : Nat → Nat → Option Nat} {S : List (Nat × Nat)} {K : mM → Prop} {A : aS} (hR : RM I A) {x1 : Int} {x2 : Int} {x3 : Int} (hE : (0 ≤ ld I 91 34 ∧ ld I 91 34 < 2600) ∧ (K (bd L (u2 (u2 (u2 (u2 (u2 I 117 (ld I 91 34).toNat (oI x1)) 118 (ld I 91 34).toNat (oI x2)) 119 (ld I 91 34).toNat (oI x3)) 91 34 (oI (ld I 91 34 + 1))) 91 39 (oI (ld I 91 39 + x3))) R S))) : CallV d 263 [.ref 91, .int (oI x1), .int (oI x2), .int (oI x3)] (bd L I R S) K := by
  refine cV_of (ls := [.ref 91, .int (oI x1), .int (oI x2), .int (oI x3)]) rfl ?_
  refine xG gb263 ?_
  refine s6 (p := 91) rfl ?_
  refine s51 sh91 (by decide) (by decide) rf91_30 ?_
  refine s6 (p := 91) rfl ?_
  refine s50 (v := ld I 91 34) sh91 (by decide) (by decide) (oI_ld _ _ _) ?_
  refine s4 (x := x1) rfl ?_
  obtain ⟨g1, hE⟩ := hE
  refine s44 sh117 (by decide) g1 rfl ?_
  refine s6 (p := 91) rfl ?_
  refine s51 sh91 (by decide) (by decide) rf91_31 ?_
  refine s6 (p := 91) rfl ?_
  refine s50 (v := ld I 91 34) sh91 (by decide) (by decide) ((v2_ne (by decide)).trans (oI_ld _ _ _)) ?_
  refine s4 (x := x2) rfl ?_
  refine s44 sh118 (by decide) g1 rfl ?_
  refine s6 (p := 91) rfl ?_
  refine s51 sh91 (by decide) (by decide) rf91_32 ?_
  refine s6 (p := 91) rfl ?_
  refine s50 (v := ld I 91 34) sh91 (by decide) (by decide) ((v2_ne (by decide)).trans ((v2_ne (by decide)).trans (oI_ld _ _ _))) ?_
  refine s4 (x := x3) rfl ?_
  refine s44 sh119 (by decide) g1 rfl ?_
  refine s6 (p := 91) rfl ?_
  refine s13r ?_
  refine s50 (v := ld I 91 34) sh91 (by decide) (by decide) ((v2_ne (by decide)).trans ((v2_ne (by decide)).trans ((v2_ne (by decide)).trans (oI_ld _ _ _)))) ?_
  refine s0 ?_
  refine s16 ?_
  refine s52 sh91 (by decide) (by decide) ?_
  refine s6 (p := 91) rfl ?_
  refine s13r ?_
  refine s50 (v := ld I 91 39) sh91 (by decide) (by decide) ((v2_nk (by decide)).trans ((v2_ne (by decide)).trans ((v2_ne (by decide)).trans ((v2_ne (by decide)).trans (oI_ld _ _ _))))) ?_
  refine s4 (x := x3) rfl ?_
  refine s16 ?_
  refine s52 sh91 (by decide) (by decide) ?_
  refine s83 ?_
  exact rqV_of hE
section
variable {d L : Nat} {I I0 : mI} {R : Nat → Nat → Option Nat} {S : List (Nat × Nat)} {Q : Option Value → mM → Prop} {A : aS} {c day known kind half year subj code : Int}
theorem k262 {K : Int32 → mM → Prop} {n per : Int} {h : Nat → Int} (he : EnvI I h) (hR : RM I A) (hC : WfC A) (hcd : 0 ≤ code ∧ code ≤ 7) (hn : 0 ≤ n ∧ n ≤ 60) (hp : inR per) (h1 : grB A h code n per = true → ∀ I1, Fr [151] [(91, 87)] I I1 → RM I1 A → K (oI 1) (bd L I1 R S)) (h0 : ¬ grB A h code n per = true → ∀ I1, Fr [151] [(91, 87)] I I1 → RM I1 A → K (oI 0) (bd L I1 R S)) : CallI (d + 25) 262 [.ref 91, .int (oI code), .int (oI n), .int (oI per)] (bd L I R S) K := by
  refine e262 hR ⟨hC, hcd, hn, fun I1 hf1 hR1 => ?_⟩
  have ci := cdS_in hC (y := code) (n := n)
  refine ⟨⟨by omega, by omega⟩, fun c1 => h0 (by unfold grB; simp [c1]) I1 hf1 hR1, fun c1 => ?_⟩
  obtain ⟨s, s1, s2, s3, s4, s5, -⟩ := cdS_wf hC c1
  have e : (cdS A code n).toNat = s := by omega
  have fc : grB A h code n per = (A 140 s == 6 && (A 142 s == per && hdB A h s)) := by unfold grB; rw [e]; simp [c1]
  rw [e]
  rw [fc] at h1 h0
  refine ⟨by omega, fun c2 => ⟨hp, fun c3 => ⟨by omega, s3, s5, h, he.fr hf1 (fun _ => rfl), fun c4 => h1 (by simp [c2, c3, c4]) I1 hf1 hR1, fun c4 => h0 (by simp [c4]) I1 hf1 hR1⟩, fun c3 => h0 (by simp [c3]) I1 hf1 hR1⟩, fun c2 => h0 (by simp [c2]) I1 hf1 hR1⟩
theorem k263 {K : mM → Prop} {x y z : Int} {l : List Ln} (hR : RM I A) (hl : LinesI I l) (hlt : l.length < 2599) (hx : inR x) (hy : inR y) (hz : inR z) (hK : ∀ I1, Fr [117, 118, 119] [(91, 34), (91, 39)] I I1 → LinesI I1 (l ++ [(x, y, z)]) → K (bd L I1 R S)) : CallV d 263 [.ref 91, .int (oI x), .int (oI y), .int (oI z)] (bd L I R S) K := by
  obtain ⟨a, b, c, e⟩ := hl
  refine e263 hR ⟨by omega, hK _ ((((((Fr.refl _ _ _).wr rfl).wr rfl).wr rfl).wr rfl).wr rfl) ?_⟩
  have el : (ld I 91 34).toNat = l.length := by omega
  have gl : ∀ i : Nat, (l ++ [(x, y, z)]).getD i (0, 0, 0) = if i < l.length then l.getD i (0, 0, 0) else if i = l.length then (x, y, z) else (0, 0, 0) := by
    intro i
    rw [List.getD_eq_getElem?_getD, List.getD_eq_getElem?_getD]
    by_cases h1 : i < l.length
    · rw [List.getElem?_append_left h1, if_pos h1]
    · rw [List.getElem?_append_right (by omega), if_neg h1]
      by_cases h2 : i = l.length
      · rw [if_pos h2, h2, Nat.sub_self]; rfl
      · rw [if_neg h2, List.getElem?_eq_none (by simp; omega)]; rfl
  rw [el]
  refine ⟨?_, by rw [List.length_append, List.length_singleton]; omega, ?_, fun i hi => ?_⟩
  · rw [ld_u2x, if_neg (by rintro ⟨-, h⟩; exact absurd h (by decide)), ld_w ⟨by omega, by omega⟩, if_pos rfl, a]
    simp
  · rw [v2_eq, lnSum_app, ← oI_add, ← oI_add, ← c]
    congr 1
    exact (oI_ld _ _ _).symm
  · have hi2 : i ≤ l.length := by simp at hi; omega
    rw [gl i]
    refine ⟨?_, ?_, ?_⟩
    · rw [ld_o (by decide), ld_o (by decide), ld_o (by decide), ld_o (by decide), ld_w hx]
      by_cases h1 : i = l.length
      · rw [if_pos h1, if_neg (by omega), if_pos h1]
      · rw [if_neg h1, if_pos (by omega)]; exact (e i (by omega)).1
    · rw [ld_o (by decide), ld_o (by decide), ld_o (by decide), ld_w hy]
      by_cases h1 : i = l.length
      · rw [if_pos h1, if_neg (by omega), if_pos h1]
      · rw [if_neg h1, if_pos (by omega), ld_o (by decide)]; exact (e i (by omega)).2.1
    · rw [ld_o (by decide), ld_o (by decide), ld_w hz]
      by_cases h1 : i = l.length
      · rw [if_pos h1, if_neg (by omega), if_pos h1]
      · rw [if_neg h1, if_pos (by omega), ld_o (by decide), ld_o (by decide)]; exact (e i (by omega)).2.2
end
def h264_2 (d L : Nat) (I : Nat → Nat → Int32) (R : Nat → Nat → Option Nat) (S : List (Nat × Nat)) (Q : Option Value → mM → Prop) (x1 : Int) (x2 : Int) (x3 : Int) (x4 : Int) (w5 : Value) (x6 : Int) (w7 : Value) (x8 : Int) (w9 : Value) (w10 : Value) : Prop := Wp d (gb 264 2) [.ref 91, .int (oI x1), .int (oI x2), .int (oI x3), .int (oI x4), w5, .int (oI x6), w7, .int (oI x8), w9, w10] [] (bd L I R S) Q
set_option maxRecDepth 4000 in
theorem e264_2 {d L : Nat} {I : Nat → Nat → Int32} {R : Nat → Nat → Option Nat} {S : List (Nat × Nat)} {Q : Option Value → mM → Prop} {A : aS} (hR : RM I A) {x1 : Int} {x2 : Int} {x3 : Int} {x4 : Int} {w5 : Value} {x6 : Int} {w7 : Value} {x8 : Int} {w9 : Value} {w10 : Value} (hE : inR x8 ∧ (((60 < x8) → Q none (bd L I R S)) ∧ (¬ (60 < x8) → WfC A ∧ ((0 ≤ x3 ∧ x3 ≤ 7) ∧ ((0 ≤ x8 ∧ x8 ≤ 60) ∧ (∀ (I6 : mI), (Fr [151] [(91, 87)] I I6) → (RM I6 A) → inR (cdS A x3 x8) ∧ (((cdS A x3 x8 = (-1)) → h264_2 (d + 27) L I6 R S Q x1 x2 x3 x4 w5 x6 (mNl w7) (x8 + 1) (.int (oI (cdS A x3 x8))) w10) ∧ (¬ (cdS A x3 x8 = (-1)) → (0 ≤ cdS A x3 x8 ∧ cdS A x3 x8 < 360) ∧ (((A 140 (cdS A x3 x8).toNat = 6) → ∃ e13 : Nat → Int, EnvI I6 e13 ∧ (((grB A e13 x3 x8 (-3) = true) → ∀ (I16 : mI), (Fr [151] [(91, 87)] I6 I16) → (RM I16 A) → inR x1 ∧ (∃ l20 : List Ln, LinesI I16 l20 ∧ l20.length < 2599 ∧ (∀ (I22 : mI), (Fr [117, 118, 119] [(91, 34), (91, 39)] I16 I22) → (LinesI I22 (l20 ++ [(x1, x8, A 141 (cdS A x3 x8).toNat)])) → ((0 ≤ A 142 (cdS A x3 x8).toNat ∧ A 142 (cdS A x3 x8).toNat ≤ 5) → inR (iAnd (iShr x6 (A 142 (cdS A x3 x8).toNat)) 1) ∧ (((iAnd (iShr x6 (A 142 (cdS A x3 x8).toNat)) 1 = 0) → h264_2 (d + 27) L I22 R S Q x1 x2 x3 x4 w5 x6 (mNl w7) (x8 + 1) (.int (oI (cdS A x3 x8))) (.int (oI (A 142 (cdS A x3 x8).toNat)))) ∧ (¬ (iAnd (iShr x6 (A 142 (cdS A x3 x8).toNat)) 1 = 0) → WfN A ∧ (inR x2 ∧ (inR x4 ∧ (∃ e34 : Nat → Int, EnvI (u2 (u2 I22 150 9 (oI (A 142 (cdS A x3 x8).toNat))) 150 10 (oI (rsS A x1 x2 (A 142 (cdS A x3 x8).toNat) x4))) e34 ∧ (((grB A e34 x3 x8 (A 142 (cdS A x3 x8).toNat) = true) → ∀ (I37 : mI), (Fr [151] [(91, 87)] (u2 (u2 I22 150 9 (oI (A 142 (cdS A x3 x8).toNat))) 150 10 (oI (rsS A x1 x2 (A 142 (cdS A x3 x8).toNat) x4))) I37) → (RM I37 A) → ∃ l41 : List Ln, LinesI I37 l41 ∧ l41.length < 2599 ∧ (∀ (I43 : mI), (Fr [117, 118, 119] [(91, 34), (91, 39)] I37 I43) → (LinesI I43 (l41 ++ [(x1, x8, A 141 (cdS A x3 x8).toNat)])) → h264_2 (d + 27) L (u2 (u2 I43 150 9 (oI 0)) 150 10 (oI 0)) R S Q x1 x2 x3 x4 w5 x6 (mNl w7) (x8 + 1) (.int (oI (cdS A x3 x8))) (.int (oI (A 142 (cdS A x3 x8).toNat))))) ∧ (¬ (grB A e34 x3 x8 (A 142 (cdS A x3 x8).toNat) = true) → ∀ (I37 : mI), (Fr [151] [(91, 87)] (u2 (u2 I22 150 9 (oI (A 142 (cdS A x3 x8).toNat))) 150 10 (oI (rsS A x1 x2 (A 142 (cdS A x3 x8).toNat) x4))) I37) → (RM I37 A) → h264_2 (d + 27) L (u2 (u2 I37 150 9 (oI 0)) 150 10 (oI 0)) R S Q x1 x2 x3 x4 w5 x6 (mNl w7) (x8 + 1) (.int (oI (cdS A x3 x8))) (.int (oI (A 142 (cdS A x3 x8).toNat))))))))))) ∧ (¬ (0 ≤ A 142 (cdS A x3 x8).toNat ∧ A 142 (cdS A x3 x8).toNat ≤ 5) → h264_2 (d + 27) L I22 R S Q x1 x2 x3 x4 w5 x6 (mNl w7) (x8 + 1) (.int (oI (cdS A x3 x8))) (.int (oI (A 142 (cdS A x3 x8).toNat))))))) ∧ (¬ (grB A e13 x3 x8 (-3) = true) → ∀ (I16 : mI), (Fr [151] [(91, 87)] I6 I16) → (RM I16 A) → ((0 ≤ A 142 (cdS A x3 x8).toNat ∧ A 142 (cdS A x3 x8).toNat ≤ 5) → inR (iAnd (iShr x6 (A 142 (cdS A x3 x8).toNat)) 1) ∧ (((iAnd (iShr x6 (A 142 (cdS A x3 x8).toNat)) 1 = 0) → h264_2 (d + 27) L I16 R S Q x1 x2 x3 x4 w5 x6 (mNl w7) (x8 + 1) (.int (oI (cdS A x3 x8))) (.int (oI (A 142 (cdS A x3 x8).toNat)))) ∧ (¬ (iAnd (iShr x6 (A 142 (cdS A x3 x8).toNat)) 1 = 0) → WfN A ∧ (inR x1 ∧ (inR x2 ∧ (inR x4 ∧ (∃ e58 : Nat → Int, EnvI (u2 (u2 I16 150 9 (oI (A 142 (cdS A x3 x8).toNat))) 150 10 (oI (rsS A x1 x2 (A 142 (cdS A x3 x8).toNat) x4))) e58 ∧ (((grB A e58 x3 x8 (A 142 (cdS A x3 x8).toNat) = true) → ∀ (I61 : mI), (Fr [151] [(91, 87)] (u2 (u2 I16 150 9 (oI (A 142 (cdS A x3 x8).toNat))) 150 10 (oI (rsS A x1 x2 (A 142 (cdS A x3 x8).toNat) x4))) I61) → (RM I61 A) → ∃ l65 : List Ln, LinesI I61 l65 ∧ l65.length < 2599 ∧ (∀ (I67 : mI), (Fr [117, 118, 119] [(91, 34), (91, 39)] I61 I67) → (LinesI I67 (l65 ++ [(x1, x8, A 141 (cdS A x3 x8).toNat)])) → h264_2 (d + 27) L (u2 (u2 I67 150 9 (oI 0)) 150 10 (oI 0)) R S Q x1 x2 x3 x4 w5 x6 (mNl w7) (x8 + 1) (.int (oI (cdS A x3 x8))) (.int (oI (A 142 (cdS A x3 x8).toNat))))) ∧ (¬ (grB A e58 x3 x8 (A 142 (cdS A x3 x8).toNat) = true) → ∀ (I61 : mI), (Fr [151] [(91, 87)] (u2 (u2 I16 150 9 (oI (A 142 (cdS A x3 x8).toNat))) 150 10 (oI (rsS A x1 x2 (A 142 (cdS A x3 x8).toNat) x4))) I61) → (RM I61 A) → h264_2 (d + 27) L (u2 (u2 I61 150 9 (oI 0)) 150 10 (oI 0)) R S Q x1 x2 x3 x4 w5 x6 (mNl w7) (x8 + 1) (.int (oI (cdS A x3 x8))) (.int (oI (A 142 (cdS A x3 x8).toNat)))))))))))) ∧ (¬ (0 ≤ A 142 (cdS A x3 x8).toNat ∧ A 142 (cdS A x3 x8).toNat ≤ 5) → h264_2 (d + 27) L I16 R S Q x1 x2 x3 x4 w5 x6 (mNl w7) (x8 + 1) (.int (oI (cdS A x3 x8))) (.int (oI (A 142 (cdS A x3 x8).toNat))))))) ∧ (¬ (A 140 (cdS A x3 x8).toNat = 6) → h264_2 (d + 27) L I6 R S Q x1 x2 x3 x4 w5 x6 (mNl w7) (x8 + 1) (.int (oI (cdS A x3 x8))) w10)))))))))) : h264_2 (d + 27) L I R S Q x1 x2 x3 x4 w5 x6 w7 x8 w9 w10 := by
  unfold h264_2
  refine xG gb264.2.2.1 ?_
  refine s4 (x := x8) rfl ?_
  refine s0 ?_
  obtain ⟨g1, hE⟩ := hE
  refine s65 g1 (inRd rfl) (fun c2 => ?_) (fun c2 => ?_)
  · replace hE := hE.1 c2
    refine xG gb264.2.2.2.2.2.2.2.2 ?_
    refine s83 ?_
    exact hE
  · replace hE := hE.2 c2
    refine s6 (p := 91) rfl ?_
    refine s4 (x := x3) rfl ?_
    refine s4 (x := x8) rfl ?_
    obtain ⟨g3, hE⟩ := hE
    obtain ⟨g4, hE⟩ := hE
    obtain ⟨g5, hE⟩ := hE
    refine sI rc221 rfl (Nat.le_of_ble_eq_true rfl) ?_
    refine k221 hR g3 g4 g5 (fun I6 q7 q8 => ?_)
    replace hE := hE I6 q7 q8
    refine s7 (ls' := [.ref 91, .int (oI x1), .int (oI x2), .int (oI x3), .int (oI x4), w5, .int (oI x6), w7, .int (oI x8), .int (oI (cdS A x3 x8)), w10]) (Nat.le_of_ble_eq_true rfl) rfl ?_
    refine s4 (x := cdS A x3 x8) rfl ?_
    refine s0 ?_
    obtain ⟨g9, hE⟩ := hE
    refine s61 g9 (inRd rfl) (fun c10 => ?_) (fun c10 => ?_)
    · replace hE := hE.1 c10
      refine xG gb264.2.2.2.2.2.2.2.1 ?_
      refine s10 (x := x8) (ls' := [.ref 91, .int (oI x1), .int (oI x2), .int (oI x3), .int (oI x4), w5, .int (oI x6), mNl w7, .int (oI (x8 + 1)), .int (oI (cdS A x3 x8)), w10]) rfl rfl ?_
      refine s60 ?_
      exact hE
    · replace hE := hE.2 c10
      refine s6 (p := 91) rfl ?_
      refine s51 sh91 (by decide) (by decide) rf91_75 ?_
      refine s4 (x := cdS A x3 x8) rfl ?_
      obtain ⟨g11, hE⟩ := hE
      refine s40 (v := A 140 (cdS A x3 x8).toNat) sh140 g11 rfl (rdM (q8).1 rfl) ?_
      refine s0 ?_
      refine s61 (inA (q8).1 (a := 140) (k := (cdS A x3 x8).toNat) rfl) (inRd rfl) (fun c12 => ?_) (fun c12 => ?_)
      · replace hE := hE.1 c12
        refine xG gb264.2.2.2.1 ?_
        refine s6 (p := 91) rfl ?_
        refine s4 (x := x3) rfl ?_
        refine s4 (x := x8) rfl ?_
        refine s0 ?_
        obtain ⟨e13, k14, hE⟩ := hE
        refine sI rc262 rfl (Nat.le_of_ble_eq_true rfl) ?_
        refine k262 k14 (q8) g3 g4 g5 (inRd rfl) (fun c15 I16 q17 q18 => ?_) (fun c15 I16 q17 q18 => ?_)
        · replace hE := hE.1 c15 I16 q17 q18
          refine s67 (inRd rfl) (fun c19 => absurd c19 (by decide)) (fun _ => ?_)
          refine s6 (p := 91) rfl ?_
          refine s4 (x := x1) rfl ?_
          refine s4 (x := x8) rfl ?_
          refine s6 (p := 91) rfl ?_
          refine s51 sh91 (by decide) (by decide) rf91_76 ?_
          refine s4 (x := cdS A x3 x8) rfl ?_
          refine s40 (v := A 141 (cdS A x3 x8).toNat) sh141 g11 rfl (rdM q18.1 rfl) ?_
          obtain ⟨g25, hE⟩ := hE
          obtain ⟨l20, k21, k26, hE⟩ := hE
          refine sV rc263 rfl (Nat.le_of_ble_eq_true rfl) ?_
          refine k263 q18 k21 k26 g25 g1 (inA q18.1 (a := 141) (k := (cdS A x3 x8).toNat) rfl) (fun I22 q23 q24 => ?_)
          replace hE := hE I22 q23 q24
          refine s79 ?_
          refine xG gb264.2.2.2.2.1 ?_
          refine s6 (p := 91) rfl ?_
          refine s51 sh91 (by decide) (by decide) rf91_77 ?_
          refine s4 (x := cdS A x3 x8) rfl ?_
          refine s40 (v := A 142 (cdS A x3 x8).toNat) sh142 g11 rfl (rdM (RM.fr q18 q23 rfl rfl (fun _ => rfl)).1 rfl) ?_
          refine s7 (ls' := [.ref 91, .int (oI x1), .int (oI x2), .int (oI x3), .int (oI x4), w5, .int (oI x6), w7, .int (oI x8), .int (oI (cdS A x3 x8)), .int (oI (A 142 (cdS A x3 x8).toNat))]) (Nat.le_of_ble_eq_true rfl) rfl ?_
          refine s4 (x := A 142 (cdS A x3 x8).toNat) rfl ?_
          refine s0 ?_
          refine s0 ?_
          refine sI rc210 rfl (Nat.le_of_ble_eq_true rfl) ?_
          refine k210 (inA (RM.fr q18 q23 rfl rfl (fun _ => rfl)).1 (a := 142) (k := (cdS A x3 x8).toNat) rfl) (inRd rfl) (inRd rfl) (fun c27 => ?_) (fun c27 => ?_)
          · replace hE := hE.1 c27
            refine s67 (inRd rfl) (fun c28 => absurd c28 (by decide)) (fun _ => ?_)
            refine s4 (x := x6) rfl ?_
            refine s4 (x := A 142 (cdS A x3 x8).toNat) rfl ?_
            refine s23 ?_
            refine s0 ?_
            refine s25 ?_
            obtain ⟨g29, hE⟩ := hE
            refine s68 g29 (fun c30 => ?_) (fun c30 => ?_)
            · replace hE := hE.1 c30
              refine s60 ?_
              refine xG gb264.2.2.2.2.2.2.2.1 ?_
              refine s10 (x := x8) (ls' := [.ref 91, .int (oI x1), .int (oI x2), .int (oI x3), .int (oI x4), w5, .int (oI x6), mNl w7, .int (oI (x8 + 1)), .int (oI (cdS A x3 x8)), .int (oI (A 142 (cdS A x3 x8).toNat))]) rfl rfl ?_
              refine s60 ?_
              exact hE
            · replace hE := hE.2 c30
              refine xG gb264.2.2.2.2.2.1 ?_
              refine s6 (p := 91) rfl ?_
              refine s51 sh91 (by decide) (by decide) rf91_85 ?_
              refine s0 ?_
              refine s4 (x := A 142 (cdS A x3 x8).toNat) rfl ?_
              refine s44 sh150 (by decide) (⟨by decide, by decide⟩ : (0 : Int) ≤ 9 ∧ (9 : Int) < 12) rfl ?_
              refine s6 (p := 91) rfl ?_
              refine s51 sh91 (by decide) (by decide) rf91_85 ?_
              refine s0 ?_
              refine s6 (p := 91) rfl ?_
              refine s4 (x := x1) rfl ?_
              refine s4 (x := x2) rfl ?_
              refine s4 (x := A 142 (cdS A x3 x8).toNat) rfl ?_
              refine s4 (x := x4) rfl ?_
              obtain ⟨g31, hE⟩ := hE
              obtain ⟨g32, hE⟩ := hE
              obtain ⟨g33, hE⟩ := hE
              refine sI rc239 rfl (Nat.le_of_ble_eq_true rfl) ?_
              refine k239 (RelM.scr (RM.fr q18 q23 rfl rfl (fun _ => rfl)).1 rfl) g31 g25 g32 (inA (RM.fr q18 q23 rfl rfl (fun _ => rfl)).1 (a := 142) (k := (cdS A x3 x8).toNat) rfl) g33 ?_
              refine s44 sh150 (by decide) (⟨by decide, by decide⟩ : (0 : Int) ≤ 10 ∧ (10 : Int) < 12) rfl ?_
              refine s6 (p := 91) rfl ?_
              refine s4 (x := x3) rfl ?_
              refine s4 (x := x8) rfl ?_
              refine s4 (x := A 142 (cdS A x3 x8).toNat) rfl ?_
              obtain ⟨e34, k35, hE⟩ := hE
              refine sI rc262 rfl (Nat.le_of_ble_eq_true rfl) ?_
              refine k262 k35 (RM.scr (RM.scr (RM.fr q18 q23 rfl rfl (fun _ => rfl)) rfl) rfl) g3 g4 g5 (inA (RM.fr q18 q23 rfl rfl (fun _ => rfl)).1 (a := 142) (k := (cdS A x3 x8).toNat) rfl) (fun c36 I37 q38 q39 => ?_) (fun c36 I37 q38 q39 => ?_)
              · replace hE := hE.1 c36 I37 q38 q39
                refine s67 (inRd rfl) (fun c40 => absurd c40 (by decide)) (fun _ => ?_)
                refine s6 (p := 91) rfl ?_
                refine s4 (x := x1) rfl ?_
                refine s4 (x := x8) rfl ?_
                refine s6 (p := 91) rfl ?_
                refine s51 sh91 (by decide) (by decide) rf91_76 ?_
                refine s4 (x := cdS A x3 x8) rfl ?_
                refine s40 (v := A 141 (cdS A x3 x8).toNat) sh141 g11 rfl (rdM q39.1 rfl) ?_
                obtain ⟨l41, k42, k46, hE⟩ := hE
                refine sV rc263 rfl (Nat.le_of_ble_eq_true rfl) ?_
                refine k263 q39 k42 k46 g25 g1 (inA q39.1 (a := 141) (k := (cdS A x3 x8).toNat) rfl) (fun I43 q44 q45 => ?_)
                replace hE := hE I43 q44 q45
                refine s79 ?_
                refine xG gb264.2.2.2.2.2.2.1 ?_
                refine s6 (p := 91) rfl ?_
                refine s51 sh91 (by decide) (by decide) rf91_85 ?_
                refine s0 ?_
                refine s0 ?_
                refine s44 sh150 (by decide) (⟨by decide, by decide⟩ : (0 : Int) ≤ 9 ∧ (9 : Int) < 12) rfl ?_
                refine s6 (p := 91) rfl ?_
                refine s51 sh91 (by decide) (by decide) rf91_85 ?_
                refine s0 ?_
                refine s0 ?_
                refine s44 sh150 (by decide) (⟨by decide, by decide⟩ : (0 : Int) ≤ 10 ∧ (10 : Int) < 12) rfl ?_
                refine s79 ?_
                refine xG gb264.2.2.2.2.2.2.2.1 ?_
                refine s10 (x := x8) (ls' := [.ref 91, .int (oI x1), .int (oI x2), .int (oI x3), .int (oI x4), w5, .int (oI x6), mNl w7, .int (oI (x8 + 1)), .int (oI (cdS A x3 x8)), .int (oI (A 142 (cdS A x3 x8).toNat))]) rfl rfl ?_
                refine s60 ?_
                exact hE
              · replace hE := hE.2 c36 I37 q38 q39
                refine s67 (inRd rfl) (fun _ => ?_) (fun c47 => absurd (by decide) c47)
                refine xG gb264.2.2.2.2.2.2.1 ?_
                refine s6 (p := 91) rfl ?_
                refine s51 sh91 (by decide) (by decide) rf91_85 ?_
                refine s0 ?_
                refine s0 ?_
                refine s44 sh150 (by decide) (⟨by decide, by decide⟩ : (0 : Int) ≤ 9 ∧ (9 : Int) < 12) rfl ?_
                refine s6 (p := 91) rfl ?_
                refine s51 sh91 (by decide) (by decide) rf91_85 ?_
                refine s0 ?_
                refine s0 ?_
                refine s44 sh150 (by decide) (⟨by decide, by decide⟩ : (0 : Int) ≤ 10 ∧ (10 : Int) < 12) rfl ?_
                refine s79 ?_
                refine xG gb264.2.2.2.2.2.2.2.1 ?_
                refine s10 (x := x8) (ls' := [.ref 91, .int (oI x1), .int (oI x2), .int (oI x3), .int (oI x4), w5, .int (oI x6), mNl w7, .int (oI (x8 + 1)), .int (oI (cdS A x3 x8)), .int (oI (A 142 (cdS A x3 x8).toNat))]) rfl rfl ?_
                refine s60 ?_
                exact hE
          · replace hE := hE.2 c27
            refine s67 (inRd rfl) (fun _ => ?_) (fun c48 => absurd (by decide) c48)
            refine xG gb264.2.2.2.2.2.2.2.1 ?_
            refine s10 (x := x8) (ls' := [.ref 91, .int (oI x1), .int (oI x2), .int (oI x3), .int (oI x4), w5, .int (oI x6), mNl w7, .int (oI (x8 + 1)), .int (oI (cdS A x3 x8)), .int (oI (A 142 (cdS A x3 x8).toNat))]) rfl rfl ?_
            refine s60 ?_
            exact hE
        · replace hE := hE.2 c15 I16 q17 q18
          refine s67 (inRd rfl) (fun _ => ?_) (fun c49 => absurd (by decide) c49)
          refine xG gb264.2.2.2.2.1 ?_
          refine s6 (p := 91) rfl ?_
          refine s51 sh91 (by decide) (by decide) rf91_77 ?_
          refine s4 (x := cdS A x3 x8) rfl ?_
          refine s40 (v := A 142 (cdS A x3 x8).toNat) sh142 g11 rfl (rdM q18.1 rfl) ?_
          refine s7 (ls' := [.ref 91, .int (oI x1), .int (oI x2), .int (oI x3), .int (oI x4), w5, .int (oI x6), w7, .int (oI x8), .int (oI (cdS A x3 x8)), .int (oI (A 142 (cdS A x3 x8).toNat))]) (Nat.le_of_ble_eq_true rfl) rfl ?_
          refine s4 (x := A 142 (cdS A x3 x8).toNat) rfl ?_
          refine s0 ?_
          refine s0 ?_
          refine sI rc210 rfl (Nat.le_of_ble_eq_true rfl) ?_
          refine k210 (inA q18.1 (a := 142) (k := (cdS A x3 x8).toNat) rfl) (inRd rfl) (inRd rfl) (fun c50 => ?_) (fun c50 => ?_)
          · replace hE := hE.1 c50
            refine s67 (inRd rfl) (fun c51 => absurd c51 (by decide)) (fun _ => ?_)
            refine s4 (x := x6) rfl ?_
            refine s4 (x := A 142 (cdS A x3 x8).toNat) rfl ?_
            refine s23 ?_
            refine s0 ?_
            refine s25 ?_
            obtain ⟨g52, hE⟩ := hE
            refine s68 g52 (fun c53 => ?_) (fun c53 => ?_)
            · replace hE := hE.1 c53
              refine s60 ?_
              refine xG gb264.2.2.2.2.2.2.2.1 ?_
              refine s10 (x := x8) (ls' := [.ref 91, .int (oI x1), .int (oI x2), .int (oI x3), .int (oI x4), w5, .int (oI x6), mNl w7, .int (oI (x8 + 1)), .int (oI (cdS A x3 x8)), .int (oI (A 142 (cdS A x3 x8).toNat))]) rfl rfl ?_
              refine s60 ?_
              exact hE
            · replace hE := hE.2 c53
              refine xG gb264.2.2.2.2.2.1 ?_
              refine s6 (p := 91) rfl ?_
              refine s51 sh91 (by decide) (by decide) rf91_85 ?_
              refine s0 ?_
              refine s4 (x := A 142 (cdS A x3 x8).toNat) rfl ?_
              refine s44 sh150 (by decide) (⟨by decide, by decide⟩ : (0 : Int) ≤ 9 ∧ (9 : Int) < 12) rfl ?_
              refine s6 (p := 91) rfl ?_
              refine s51 sh91 (by decide) (by decide) rf91_85 ?_
              refine s0 ?_
              refine s6 (p := 91) rfl ?_
              refine s4 (x := x1) rfl ?_
              refine s4 (x := x2) rfl ?_
              refine s4 (x := A 142 (cdS A x3 x8).toNat) rfl ?_
              refine s4 (x := x4) rfl ?_
              obtain ⟨g54, hE⟩ := hE
              obtain ⟨g55, hE⟩ := hE
              obtain ⟨g56, hE⟩ := hE
              obtain ⟨g57, hE⟩ := hE
              refine sI rc239 rfl (Nat.le_of_ble_eq_true rfl) ?_
              refine k239 (RelM.scr q18.1 rfl) g54 g55 g56 (inA q18.1 (a := 142) (k := (cdS A x3 x8).toNat) rfl) g57 ?_
              refine s44 sh150 (by decide) (⟨by decide, by decide⟩ : (0 : Int) ≤ 10 ∧ (10 : Int) < 12) rfl ?_
              refine s6 (p := 91) rfl ?_
              refine s4 (x := x3) rfl ?_
              refine s4 (x := x8) rfl ?_
              refine s4 (x := A 142 (cdS A x3 x8).toNat) rfl ?_
              obtain ⟨e58, k59, hE⟩ := hE
              refine sI rc262 rfl (Nat.le_of_ble_eq_true rfl) ?_
              refine k262 k59 (RM.scr (RM.scr q18 rfl) rfl) g3 g4 g5 (inA q18.1 (a := 142) (k := (cdS A x3 x8).toNat) rfl) (fun c60 I61 q62 q63 => ?_) (fun c60 I61 q62 q63 => ?_)
              · replace hE := hE.1 c60 I61 q62 q63
                refine s67 (inRd rfl) (fun c64 => absurd c64 (by decide)) (fun _ => ?_)
                refine s6 (p := 91) rfl ?_
                refine s4 (x := x1) rfl ?_
                refine s4 (x := x8) rfl ?_
                refine s6 (p := 91) rfl ?_
                refine s51 sh91 (by decide) (by decide) rf91_76 ?_
                refine s4 (x := cdS A x3 x8) rfl ?_
                refine s40 (v := A 141 (cdS A x3 x8).toNat) sh141 g11 rfl (rdM q63.1 rfl) ?_
                obtain ⟨l65, k66, k70, hE⟩ := hE
                refine sV rc263 rfl (Nat.le_of_ble_eq_true rfl) ?_
                refine k263 q63 k66 k70 g55 g1 (inA q63.1 (a := 141) (k := (cdS A x3 x8).toNat) rfl) (fun I67 q68 q69 => ?_)
                replace hE := hE I67 q68 q69
                refine s79 ?_
                refine xG gb264.2.2.2.2.2.2.1 ?_
                refine s6 (p := 91) rfl ?_
                refine s51 sh91 (by decide) (by decide) rf91_85 ?_
                refine s0 ?_
                refine s0 ?_
                refine s44 sh150 (by decide) (⟨by decide, by decide⟩ : (0 : Int) ≤ 9 ∧ (9 : Int) < 12) rfl ?_
                refine s6 (p := 91) rfl ?_
                refine s51 sh91 (by decide) (by decide) rf91_85 ?_
                refine s0 ?_
                refine s0 ?_
                refine s44 sh150 (by decide) (⟨by decide, by decide⟩ : (0 : Int) ≤ 10 ∧ (10 : Int) < 12) rfl ?_
                refine s79 ?_
                refine xG gb264.2.2.2.2.2.2.2.1 ?_
                refine s10 (x := x8) (ls' := [.ref 91, .int (oI x1), .int (oI x2), .int (oI x3), .int (oI x4), w5, .int (oI x6), mNl w7, .int (oI (x8 + 1)), .int (oI (cdS A x3 x8)), .int (oI (A 142 (cdS A x3 x8).toNat))]) rfl rfl ?_
                refine s60 ?_
                exact hE
              · replace hE := hE.2 c60 I61 q62 q63
                refine s67 (inRd rfl) (fun _ => ?_) (fun c71 => absurd (by decide) c71)
                refine xG gb264.2.2.2.2.2.2.1 ?_
                refine s6 (p := 91) rfl ?_
                refine s51 sh91 (by decide) (by decide) rf91_85 ?_
                refine s0 ?_
                refine s0 ?_
                refine s44 sh150 (by decide) (⟨by decide, by decide⟩ : (0 : Int) ≤ 9 ∧ (9 : Int) < 12) rfl ?_
                refine s6 (p := 91) rfl ?_
                refine s51 sh91 (by decide) (by decide) rf91_85 ?_
                refine s0 ?_
                refine s0 ?_
                refine s44 sh150 (by decide) (⟨by decide, by decide⟩ : (0 : Int) ≤ 10 ∧ (10 : Int) < 12) rfl ?_
                refine s79 ?_
                refine xG gb264.2.2.2.2.2.2.2.1 ?_
                refine s10 (x := x8) (ls' := [.ref 91, .int (oI x1), .int (oI x2), .int (oI x3), .int (oI x4), w5, .int (oI x6), mNl w7, .int (oI (x8 + 1)), .int (oI (cdS A x3 x8)), .int (oI (A 142 (cdS A x3 x8).toNat))]) rfl rfl ?_
                refine s60 ?_
                exact hE
          · replace hE := hE.2 c50
            refine s67 (inRd rfl) (fun _ => ?_) (fun c72 => absurd (by decide) c72)
            refine xG gb264.2.2.2.2.2.2.2.1 ?_
            refine s10 (x := x8) (ls' := [.ref 91, .int (oI x1), .int (oI x2), .int (oI x3), .int (oI x4), w5, .int (oI x6), mNl w7, .int (oI (x8 + 1)), .int (oI (cdS A x3 x8)), .int (oI (A 142 (cdS A x3 x8).toNat))]) rfl rfl ?_
            refine s60 ?_
            exact hE
      · replace hE := hE.2 c12
        refine s60 ?_
        refine xG gb264.2.2.2.2.2.2.2.1 ?_
        refine s10 (x := x8) (ls' := [.ref 91, .int (oI x1), .int (oI x2), .int (oI x3), .int (oI x4), w5, .int (oI x6), mNl w7, .int (oI (x8 + 1)), .int (oI (cdS A x3 x8)), w10]) rfl rfl ?_
        refine s60 ?_
        exact hE
set_option maxRecDepth 4000 in
theorem e264 {d L : Nat} {I : Nat → Nat → Int32} {R : Nat → Nat → Option Nat} {S : List (Nat × Nat)} {K : mM → Prop} {A : aS} (hR : RM I A) {x1 : Int} {x2 : Int} {x3 : Int} {x4 : Int} (hE : WfA A ∧ (WfC A ∧ (WfP A ∧ ((0 ≤ x1 ∧ x1 < A 91 1) ∧ ((0 ≤ x2 ∧ x2 ≤ 7) ∧ (inR x4 ∧ (∀ (I7 : mI), (Fr [150, 151] [(91, 87)] I I7) → (RM I7 A) → (0 ≤ x3 ∧ x3 ≤ 7) ∧ (inR (stS A x1 x2 x4) ∧ (∀ (I12 : mI), (Fr [150, 151] [(91, 87)] I7 I12) → (RM I12 A) → (EnvI I12 (psE A x1 x2 (stS A x1 x2 x4) x4)) → (0 ≤ psS A x1 x2 x3 (stS A x1 x2 x4) x4 ∧ psS A x1 x2 x3 (stS A x1 x2 x4) x4 < 1024) ∧ ((0 ≤ x1 ∧ x1 < 40) ∧ (∃ e18 : Nat → Int, EnvI (u2 (u2 I12 150 7 (oI (btS (psS A x1 x2 x3 (stS A x1 x2 x4) x4)))) 150 8 (oI (ld I12 120 x1.toNat))) e18 ∧ (∀ (I20 : mI), (Fr [151] [(91, 87)] (u2 (u2 I12 150 7 (oI (btS (psS A x1 x2 x3 (stS A x1 x2 x4) x4)))) 150 8 (oI (ld I12 120 x1.toNat))) I20) → (RM I20 A) → inR (fsS A e18 x3 3 (-1)) ∧ (((fsS A e18 x3 3 (-1) = (-1)) → h264_2 (d + 29) L I20 R S (rqV K) x1 x2 x3 x4 (.int (oI (stS A x1 x2 x4))) (psS A x1 x2 x3 (stS A x1 x2 x4) x4) (.int (oI (fsS A e18 x3 3 (-1)))) 1 mUn mUn) ∧ (¬ (fsS A e18 x3 3 (-1) = (-1)) → (0 ≤ fsS A e18 x3 3 (-1) ∧ fsS A e18 x3 3 (-1) ≤ 60) ∧ (∀ (I26 : mI), (Fr [151] [(91, 87)] I20 I26) → (RM I26 A) → (0 ≤ cdS A x3 (fsS A e18 x3 3 (-1)) ∧ cdS A x3 (fsS A e18 x3 3 (-1)) < 360) ∧ (((ld I20 120 x1.toNat < A 141 (cdS A x3 (fsS A e18 x3 3 (-1))).toNat) → K (bd L I26 R S)) ∧ (¬ (ld I20 120 x1.toNat < A 141 (cdS A x3 (fsS A e18 x3 3 (-1))).toNat) → h264_2 (d + 29) L I26 R S (rqV K) x1 x2 x3 x4 (.int (oI (stS A x1 x2 x4))) (psS A x1 x2 x3 (stS A x1 x2 x4) x4) (.int (oI (fsS A e18 x3 3 (-1)))) 1 mUn mUn))))))))))))))))) : CallV (d + 29) 264 [.ref 91, .int (oI x1), .int (oI x2), .int (oI x3), .int (oI x4)] (bd L I R S) K := by
  refine cV_of (ls := [.ref 91, .int (oI x1), .int (oI x2), .int (oI x3), .int (oI x4), mUn, mUn, mUn, mUn, mUn, mUn]) rfl ?_
  refine xG gb264.1 ?_
  refine s6 (p := 91) rfl ?_
  refine s4 (x := x1) rfl ?_
  refine s4 (x := x2) rfl ?_
  refine s4 (x := x4) rfl ?_
  obtain ⟨g1, hE⟩ := hE
  obtain ⟨g2, hE⟩ := hE
  obtain ⟨g3, hE⟩ := hE
  obtain ⟨g4, hE⟩ := hE
  obtain ⟨g5, hE⟩ := hE
  obtain ⟨g6, hE⟩ := hE
  refine sI rc233 rfl (Nat.le_of_ble_eq_true rfl) ?_
  refine k233 hR g1 g2 g3 g4 g5 g6 (fun I7 q8 q9 => ?_)
  replace hE := hE I7 q8 q9
  refine s7 (ls' := [.ref 91, .int (oI x1), .int (oI x2), .int (oI x3), .int (oI x4), .int (oI (stS A x1 x2 x4)), mUn, mUn, mUn, mUn, mUn]) (Nat.le_of_ble_eq_true rfl) rfl ?_
  refine s6 (p := 91) rfl ?_
  refine s4 (x := x1) rfl ?_
  refine s4 (x := x2) rfl ?_
  refine s4 (x := x3) rfl ?_
  refine s4 (x := stS A x1 x2 x4) rfl ?_
  refine s4 (x := x4) rfl ?_
  obtain ⟨g10, hE⟩ := hE
  obtain ⟨g11, hE⟩ := hE
  refine sI rc234 rfl (Nat.le_of_ble_eq_true rfl) ?_
  refine k234 (q9) g1 g2 g3 g4 g5 g10 g11 g6 (fun I12 q13 q14 q15 => ?_)
  replace hE := hE I12 q13 q14 q15
  refine s7 (ls' := [.ref 91, .int (oI x1), .int (oI x2), .int (oI x3), .int (oI x4), .int (oI (stS A x1 x2 x4)), .int (oI (psS A x1 x2 x3 (stS A x1 x2 x4) x4)), mUn, mUn, mUn, mUn]) (Nat.le_of_ble_eq_true rfl) rfl ?_
  refine s6 (p := 91) rfl ?_
  refine s51 sh91 (by decide) (by decide) rf91_85 ?_
  refine s0 ?_
  refine s4 (x := psS A x1 x2 x3 (stS A x1 x2 x4) x4) rfl ?_
  obtain ⟨g16, hE⟩ := hE
  refine sI rc241 rfl (Nat.le_of_ble_eq_true rfl) ?_
  refine k241 g16 ?_
  refine s44 sh150 (by decide) (⟨by decide, by decide⟩ : (0 : Int) ≤ 7 ∧ (7 : Int) < 12) rfl ?_
  refine s6 (p := 91) rfl ?_
  refine s51 sh91 (by decide) (by decide) rf91_85 ?_
  refine s0 ?_
  refine s6 (p := 91) rfl ?_
  refine s51 sh91 (by decide) (by decide) rf91_33 ?_
  refine s4 (x := x1) rfl ?_
  obtain ⟨g17, hE⟩ := hE
  refine s40 (v := ld I12 120 x1.toNat) sh120 g17 rfl ((v2_ne (by decide)).trans (oI_ld _ _ _)) ?_
  refine s44 sh150 (by decide) (⟨by decide, by decide⟩ : (0 : Int) ≤ 8 ∧ (8 : Int) < 12) rfl ?_
  refine s6 (p := 91) rfl ?_
  refine s4 (x := x3) rfl ?_
  refine s0 ?_
  refine s0 ?_
  obtain ⟨e18, k19, hE⟩ := hE
  refine sI rc220 rfl (Nat.le_of_ble_eq_true rfl) ?_
  refine k220 k19 (RM.scr (RM.scr (q14) rfl) rfl) g2 g10 (inRd rfl) (inRd rfl) (fun I20 q21 q22 => ?_)
  replace hE := hE I20 q21 q22
  refine s7 (ls' := [.ref 91, .int (oI x1), .int (oI x2), .int (oI x3), .int (oI x4), .int (oI (stS A x1 x2 x4)), .int (oI (psS A x1 x2 x3 (stS A x1 x2 x4) x4)), .int (oI (fsS A e18 x3 3 (-1))), mUn, mUn, mUn]) (Nat.le_of_ble_eq_true rfl) rfl ?_
  refine s4 (x := fsS A e18 x3 3 (-1)) rfl ?_
  refine s0 ?_
  obtain ⟨g23, hE⟩ := hE
  refine s61 g23 (inRd rfl) (fun c24 => ?_) (fun c24 => ?_)
  · replace hE := hE.1 c24
    refine xG gb264.2.1 ?_
    refine s0 ?_
    refine s7 (ls' := [.ref 91, .int (oI x1), .int (oI x2), .int (oI x3), .int (oI x4), .int (oI (stS A x1 x2 x4)), .int (oI (psS A x1 x2 x3 (stS A x1 x2 x4) x4)), .int (oI (fsS A e18 x3 3 (-1))), .int (oI 1), mUn, mUn]) (Nat.le_of_ble_eq_true rfl) rfl ?_
    refine s79 ?_
    exact hE
  · replace hE := hE.2 c24
    refine s6 (p := 91) rfl ?_
    refine s51 sh91 (by decide) (by decide) rf91_33 ?_
    refine s4 (x := x1) rfl ?_
    refine s40 (v := ld I20 120 x1.toNat) sh120 g17 rfl (oI_ld _ _ _) ?_
    refine s6 (p := 91) rfl ?_
    refine s51 sh91 (by decide) (by decide) rf91_76 ?_
    refine s6 (p := 91) rfl ?_
    refine s4 (x := x3) rfl ?_
    refine s4 (x := fsS A e18 x3 3 (-1)) rfl ?_
    obtain ⟨g25, hE⟩ := hE
    refine sI rc221 rfl (Nat.le_of_ble_eq_true rfl) ?_
    refine k221 q22 g2 g10 g25 (fun I26 q27 q28 => ?_)
    replace hE := hE I26 q27 q28
    obtain ⟨g29, hE⟩ := hE
    refine s40 (v := A 141 (cdS A x3 (fsS A e18 x3 3 (-1))).toNat) sh141 g29 rfl (rdM (q28).1 rfl) ?_
    refine s64 (ld_inR _ _ _) (inA (q28).1 (a := 141) (k := (cdS A x3 (fsS A e18 x3 3 (-1))).toNat) rfl) (fun c30 => ?_) (fun c30 => ?_)
    · replace hE := hE.1 c30
      refine s83 ?_
      exact rqV_of hE
    · replace hE := hE.2 c30
      refine xG gb264.2.1 ?_
      refine s0 ?_
      refine s7 (ls' := [.ref 91, .int (oI x1), .int (oI x2), .int (oI x3), .int (oI x4), .int (oI (stS A x1 x2 x4)), .int (oI (psS A x1 x2 x3 (stS A x1 x2 x4) x4)), .int (oI (fsS A e18 x3 3 (-1))), .int (oI 1), mUn, mUn]) (Nat.le_of_ble_eq_true rfl) rfl ?_
      refine s79 ?_
      exact hE
noncomputable def gcO (A : aS) (e : Nat → Int) (c year code known set : Int) (n : Int) : List Ln := if cdS A code n = -1 then [] else if ¬ A 140 (cdS A code n).toNat = 6 then [] else
  (if grB A e code n (-3) = true then [(c, n, A 141 (cdS A code n).toNat)] else []) ++ (if (0 ≤ A 142 (cdS A code n).toNat ∧ A 142 (cdS A code n).toNat ≤ 5) ∧ ¬ iAnd (iShr set (A 142 (cdS A code n).toNat)) 1 = 0 ∧ grB A (putE (putE e 9 (A 142 (cdS A code n).toNat)) 10 (rsS A c year (A 142 (cdS A code n).toNat) known)) code n (A 142 (cdS A code n).toNat) = true then [(c, n, A 141 (cdS A code n).toNat)] else [])
noncomputable def gcL (A : aS) (e : Nat → Int) (c year code known set : Int) : Nat → List Ln
  | 0 => []
  | n + 1 => gcL A e c year code known set n ++ gcO A e c year code known set (n + 1 : Nat)
section
variable {d L : Nat} {I I0 : mI} {R : Nat → Nat → Option Nat} {S : List (Nat × Nat)} {Q : Option Value → mM → Prop} {A : aS} {c day known kind half year subj code : Int}
theorem gcO_len {e : Nat → Int} {set n : Int} : (gcO A e c year code known set n).length ≤ 1 := by
  unfold gcO
  split
  · simp
  · split
    · simp
    · rw [List.length_append]
      by_cases h : 0 ≤ A 142 (cdS A code n).toNat ∧ A 142 (cdS A code n).toNat ≤ 5
      · have : ¬ grB A e code n (-3) = true := by
          unfold grB
          have : (A 142 (cdS A code n).toNat == -3) = false := by simp; omega
          rw [this]; simp
        rw [if_neg this]
        split <;> simp
      · split <;> (rw [if_neg (by rintro ⟨a, -⟩; exact h a)]; simp)
theorem gcL_len {e : Nat → Int} {set : Int} : ∀ n, (gcL A e c year code known set n).length ≤ n
  | 0 => Nat.le_refl _
  | n + 1 => by
    have := gcL_len (e := e) (set := set) n
    have := gcO_len (A := A) (c := c) (year := year) (code := code) (known := known) (e := e) (set := set) (n := (n + 1 : Nat))
    unfold gcL
    rw [List.length_append]
    omega
theorem l264 {e : Nat → Int} {set : Int} {l0 : List Ln} (h9 : e 9 = 0) (h10 : e 10 = 0) (hl0 : l0.length + 60 < 2599) (hW : WfA A) (hC : WfC A) (hc : inR c) (hy : inR year) (hcd : 0 ≤ code ∧ code ≤ 7) (hkn : inR known) (hK : ∀ I1, Fr [117, 118, 119, 150, 151] [(91, 34), (91, 39), (91, 87)] I0 I1 → RM I1 A → LinesI I1 (l0 ++ gcL A e c year code known set 60) → Q none (bd L I1 R S)) : ∀ (n k : Nat) (I : mI) (w5 w7 w9 w10 : Value), k + n = 60 → RM I A → Fr [117, 118, 119, 150, 151] [(91, 34), (91, 39), (91, 87)] I0 I → EnvI I e → LinesI I (l0 ++ gcL A e c year code known set k) → h264_2 (d + 27) L I R S Q c year code known w5 set w7 ((k : Int) + 1) w9 w10 := by
  intro n
  induction n with
  | zero =>
    intro k I w5 w7 w9 w10 hk hR hf he hl
    refine e264_2 hR ⟨⟨by omega, by omega⟩, fun _ => hK I hf hR ?_, fun h => by exfalso; omega⟩
    rw [show k = 60 by omega] at hl; exact hl
  | succ n ih =>
    intro k I w5 w7 w9 w10 hk hR hf he hl
    have gl := gcL_len (A := A) (c := c) (year := year) (code := code) (known := known) (e := e) (set := set) k
    have hlen : (l0 ++ gcL A e c year code known set k).length < 2599 := by rw [List.length_append]; omega
    -- the next turn, from any memory with the lines that this turn gives
    have nx : ∀ (I3 : mI) (w5 w7 w9 w10 : Value) (l3 : List Ln), RM I3 A → Fr [117, 118, 119, 150, 151] [(91, 34), (91, 39), (91, 87)] I I3 → EnvI I3 e → LinesI I3 (l0 ++ gcL A e c year code known set k ++ l3) → l3 = gcO A e c year code known set ((k : Int) + 1) → h264_2 (d + 27) L I3 R S Q c year code known w5 set w7 ((k : Int) + 1 + 1) w9 w10 := by
      intro I3 w5 w7 w9 w10 l3 hR3 hf3 he3 hl3 h3
      refine ih (k + 1) I3 w5 w7 w9 w10 (by omega) hR3 (hf.trans hf3) he3 ?_
      rw [List.append_assoc, h3] at hl3
      exact hl3
    refine e264_2 hR ⟨⟨by omega, by omega⟩, fun h => by exfalso; omega, fun _ => ⟨hC, hcd, by omega, fun I1 hf1 hR1 => ?_⟩⟩
    have ci := cdS_in hC (y := code) (n := (k : Int) + 1)
    have he1 := he.fr hf1 (fun _ => rfl)
    have hl1 := hl.fr hf1 rfl rfl (fun _ => rfl) (fun _ => rfl) (fun _ => rfl)
    have fr1 : Fr [117, 118, 119, 150, 151] [(91, 34), (91, 39), (91, 87)] I I1 := hf1.sub rfl rfl
    refine ⟨⟨by omega, by omega⟩, fun c1 => nx I1 _ _ _ _ [] hR1 fr1 he1 (by rw [List.append_nil]; exact hl1) (by unfold gcO; rw [if_pos c1]), fun c1 => ⟨by omega, fun c2 => ⟨e, he1, fun c3 I2 hf2 hR2 => ⟨hc, _, hl1.fr hf2 rfl rfl (fun _ => rfl) (fun _ => rfl) (fun _ => rfl), hlen, fun I3 hf3 hl3 => ?_⟩, fun c3 I2 hf2 hR2 => ?_⟩, fun c2 => nx I1 _ _ _ _ [] hR1 fr1 he1 (by rw [List.append_nil]; exact hl1) (by unfold gcO; rw [if_neg c1, if_pos c2])⟩⟩
    · -- a clause per child: no pass
      have hsec : A 142 (cdS A code ((k : Int) + 1)).toNat = -3 := by
        unfold grB at c3
        simp only [Bool.and_eq_true, beq_iff_eq] at c3
        exact c3.2.2.1
      have hR3 := hR2.fr hf3 rfl rfl (fun _ => rfl)
      refine ⟨fun q => by exfalso; omega, fun _ => nx I3 _ _ _ _ _ hR3 (fr1.trans ((hf2.sub rfl rfl).trans (hf3.sub rfl rfl))) ((he1.fr hf2 (fun _ => rfl)).fr hf3 (fun _ => rfl)) hl3 ?_⟩
      unfold gcO
      rw [if_neg c1, if_neg (by simpa using c2), if_pos c3, if_neg (by rintro ⟨a, -⟩; omega), List.append_nil]
    · have he2 := he1.fr hf2 (fun _ => rfl)
      have hl2 := hl1.fr hf2 rfl rfl (fun _ => rfl) (fun _ => rfl) (fun _ => rfl)
      have fr2 := fr1.trans (hf2.sub (ws' := [117, 118, 119, 150, 151]) (os' := [(91, 34), (91, 39), (91, 87)]) rfl rfl)
      have g0 : gcO A e c year code known set ((k : Int) + 1) = (if (0 ≤ A 142 (cdS A code ((k : Int) + 1)).toNat ∧ A 142 (cdS A code ((k : Int) + 1)).toNat ≤ 5) ∧ ¬ iAnd (iShr set (A 142 (cdS A code ((k : Int) + 1)).toNat)) 1 = 0 ∧ grB A (putE (putE e 9 (A 142 (cdS A code ((k : Int) + 1)).toNat)) 10 (rsS A c year (A 142 (cdS A code ((k : Int) + 1)).toNat) known)) code ((k : Int) + 1) (A 142 (cdS A code ((k : Int) + 1)).toNat) = true then [(c, (k : Int) + 1, A 141 (cdS A code ((k : Int) + 1)).toNat)] else []) := by
        unfold gcO
        rw [if_neg c1, if_neg (by simpa using c2), if_neg c3, List.nil_append]
      refine ⟨fun q => ⟨inR_toInt _, fun c4 => nx I2 _ _ _ _ [] hR2 fr2 he2 (by rw [List.append_nil]; exact hl2) (by rw [g0, if_neg (by rintro ⟨-, b, -⟩; exact b c4)]), fun c4 => ?_⟩, fun q => nx I2 _ _ _ _ [] hR2 fr2 he2 (by rw [List.append_nil]; exact hl2) (by rw [g0, if_neg (by rintro ⟨a, -⟩; exact q a)])⟩
      have hsj : inR (A 142 (cdS A code ((k : Int) + 1)).toNat) := ⟨by omega, by omega⟩
      have hrs : inR (rsS A c year (A 142 (cdS A code ((k : Int) + 1)).toNat) known) := rsL_in hR2.1 _
      have he3 := (he2.put (k := 9) hsj).put (k := 10) hrs
      refine ⟨hW.2.2.2.1, hc, hy, hkn, _, he3, fun c5 I3 hf3 hR3 => ⟨_, ((hl2.fr (((Fr.refl [150] [] I2).wr rfl).wr rfl) rfl rfl (fun _ => rfl) (fun _ => rfl) (fun _ => rfl)).fr hf3 rfl rfl (fun _ => rfl) (fun _ => rfl) (fun _ => rfl)), hlen, fun I4 hf4 hl4 => ?_⟩, fun c5 I3 hf3 hR3 => ?_⟩
      · refine nx _ _ _ _ _ _ (((hR3.fr hf4 rfl rfl (fun _ => rfl)).scr rfl).scr rfl) (fr2.trans ((((((Fr.refl _ _ _).wr rfl).wr rfl).trans (hf3.sub rfl rfl)).trans (hf4.sub rfl rfl)).wr rfl |>.wr rfl)) (env_back ((he3.fr hf3 (fun _ => rfl)).fr hf4 (fun _ => rfl)) h9 h10) (hl4.fr (((Fr.refl [150] [] I4).wr rfl).wr rfl) rfl rfl (fun _ => rfl) (fun _ => rfl) (fun _ => rfl)) ?_
        rw [g0, if_pos ⟨q, c4, c5⟩]
      · refine nx _ _ _ _ _ [] ((hR3.scr rfl).scr rfl) (fr2.trans (((((Fr.refl _ _ _).wr rfl).wr rfl).trans (hf3.sub rfl rfl)).wr rfl |>.wr rfl)) (env_back (he3.fr hf3 (fun _ => rfl)) h9 h10) ?_ ?_
        · rw [List.append_nil]
          exact ((hl2.fr (((Fr.refl [150] [] I2).wr rfl).wr rfl) rfl rfl (fun _ => rfl) (fun _ => rfl) (fun _ => rfl)).fr hf3 rfl rfl (fun _ => rfl) (fun _ => rfl) (fun _ => rfl)).fr (((Fr.refl [150] [] I3).wr rfl).wr rfl) rfl rfl (fun _ => rfl) (fun _ => rfl) (fun _ => rfl)
        · rw [g0, if_neg (by rintro ⟨-, -, b⟩; exact c5 b)]
end
