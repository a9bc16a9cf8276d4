/-! the reference: the grant -/
noncomputable def gcE (A : aS) (c year code known q : Int) : Nat → Int := putE (putE (psE A c year (stS A c year known) known) 7 (btS (psS A c year code (stS A c year known) known))) 8 q
noncomputable def gcS (A : aS) (c year code known q : Int) : List Ln := if ¬ fsS A (gcE A c year code known q) code 3 (-1) = -1 ∧ q < nuS A code (fsS A (gcE A c year code known q) code 3 (-1)) then [] else gcL A (gcE A c year code known q) c year code known (psS A c year code (stS A c year known) known) 60
theorem gcS_len {A : aS} {c year code known q : Int} : (gcS A c year code known q).length ≤ 60 := by
  unfold gcS
  split
  · simp
  · exact gcL_len 60
section
variable {d L : Nat} {I I0 : mI} {R : Nat → Nat → Option Nat} {S : List (Nat × Nat)} {Q : Option Value → mM → Prop} {A : aS} {c day known kind half year subj code : Int}
theorem k264 {K : mM → Prop} {l : List Ln} (hR : RM I A) (hl : LinesI I l) (hlt : l.length + 60 < 2599) (hW : WfA A) (hC : WfC A) (hP : WfP A) (hc : 0 ≤ c ∧ c < A 91 1) (hy : 0 ≤ year ∧ year ≤ 7) (hcd : 0 ≤ code ∧ code ≤ 7) (hkn : inR known) (hK : ∀ I1, Fr [117, 118, 119, 150, 151] [(91, 34), (91, 39), (91, 87)] I I1 → RM I1 A → LinesI I1 (l ++ gcS A c year code known (ld I 120 c.toNat)) → K (bd L I1 R S)) : CallV (d + 29) 264 [.ref 91, .int (oI c), .int (oI year), .int (oI code), .int (oI known)] (bd L I R S) K := by
  have hW1 := hW.2.1
  have si := stS_in hP (year := year) (known := known) hc
  have pi := psS_in (A := A) (c := c) (year := year) (code := code) (std := stS A c year known) (known := known)
  have bi := btS_in (psS A c year code (stS A c year known) known)
  refine e264 hR ⟨hW, hC, hP, hc, hy, hkn, fun I1 hf1 hR1 => ⟨hcd, ⟨by omega, by omega⟩, fun I2 hf2 hR2 he2 => ⟨by omega, by omega, ?_⟩⟩⟩
  have e120 : ld I2 120 c.toNat = ld I 120 c.toNat := (hf2.ld rfl).trans (hf1.ld rfl)
  rw [e120]
  generalize hq : ld I 120 c.toNat = q
  rw [hq] at hK e120
  have qi : inR q := by rw [← hq]; exact ld_inR _ _ _
  have he3 : EnvI (u2 (u2 I2 150 7 (oI (btS (psS A c year code (stS A c year known) known)))) 150 8 (oI q)) (gcE A c year code known q) := (he2.put (k := 7) ⟨by omega, by omega⟩).put (k := 8) qi
  refine ⟨_, he3, fun I3 hf3 hR3 => ?_⟩
  have fr3 : Fr [117, 118, 119, 150, 151] [(91, 34), (91, 39), (91, 87)] I I3 := (hf1.sub rfl rfl).trans ((hf2.sub rfl rfl).trans ((((Fr.refl _ _ _).wr rfl).wr rfl).trans (hf3.sub rfl rfl)))
  have he4 := he3.fr hf3 (fun _ => rfl)
  have hl3 : LinesI I3 l := ((((hl.fr hf1 rfl rfl (fun _ => rfl) (fun _ => rfl) (fun _ => rfl)).fr hf2 rfl rfl (fun _ => rfl) (fun _ => rfl) (fun _ => rfl)).fr (((Fr.refl [150] [] I2).wr rfl).wr rfl) rfl rfl (fun _ => rfl) (fun _ => rfl) (fun _ => rfl)).fr hf3 rfl rfl (fun _ => rfl) (fun _ => rfl) (fun _ => rfl))
  have e120b : ld I3 120 c.toNat = q := by rw [hf3.ld rfl, ld_o (by decide), ld_o (by decide)]; exact e120
  have go : ∀ (I4 : mI) (w5 w7 w9 w10 : Value), RM I4 A → Fr [151] [(91, 87)] I3 I4 → ¬ (¬ fsS A (gcE A c year code known q) code 3 (-1) = -1 ∧ q < nuS A code (fsS A (gcE A c year code known q) code 3 (-1))) → h264_2 (d + 29) L I4 R S (rqV K) c year code known w5 (psS A c year code (stS A c year known) known) w7 1 w9 w10 := by
    intro I4 w5 w7 w9 w10 hR4 hf4 hn
    refine l264 (d := d + 2) (e := gcE A c year code known q) (l0 := l) rfl rfl hlt hW hC ⟨by omega, by omega⟩ ⟨by omega, by omega⟩ hcd hkn (fun I5 h1 h2 h3 => rqV_of (hK I5 (fr3.trans ((hf4.sub rfl rfl).trans h1)) h2 ?_)) 60 0 I4 w5 w7 w9 w10 rfl hR4 (Fr.refl _ _ _) (he4.fr hf4 (fun _ => rfl)) ?_
    · unfold gcS; rw [if_neg hn]; exact h3
    · have : l ++ gcL A (gcE A c year code known q) c year code known (psS A c year code (stS A c year known) known) 0 = l := List.append_nil l
      rw [this]
      exact hl3.fr hf4 rfl rfl (fun _ => rfl) (fun _ => rfl) (fun _ => rfl)
  rcases fsS_prop hC (h := gcE A c year code known q) (y := code) (kind := 3) (key := -1) with q0 | ⟨m, s, q1, q2, q3, q4, q5, q6, q7, q8, -⟩
  · refine ⟨by rw [q0]; exact inRd rfl, fun _ => go I3 _ _ _ _ hR3 (Fr.refl _ _ _) (by rintro ⟨a, -⟩; exact a q0), fun h => absurd q0 h⟩
  · have en : nuS A code m = A 141 s := by unfold nuS; rw [q4, Int.toNat_natCast]
    rw [q1, en] at go
    rw [q1, e120b]
    refine ⟨⟨by omega, by omega⟩, fun h => by exfalso; omega, fun _ => ⟨by omega, fun I4 hf4 hR4 => ?_⟩⟩
    rw [q4, Int.toNat_natCast]
    refine ⟨by omega, fun hlt2 => ?_, fun hlt2 => go I4 _ _ _ _ hR4 hf4 (by rintro ⟨-, b⟩; exact hlt2 b)⟩
    refine hK I4 (fr3.trans (hf4.sub rfl rfl)) hR4 ?_
    unfold gcS
    rw [q1, en, if_pos ⟨by omega, hlt2⟩, List.append_nil]
    exact hl3.fr hf4 rfl rfl (fun _ => rfl) (fun _ => rfl) (fun _ => rfl)
end
def h260_1 (d L : Nat) (I : Nat → Nat → Int32) (R : Nat → Nat → Option Nat) (S : List (Nat × Nat)) (Q : Option Value → mM → Prop) (x1 : Int) (x2 : Int) (x3 : Int) (x4 : Int) (x5 : Int) (w6 : Value) (w7 : Value) (w8 : Value) (w9 : Value) : Prop := Wp d (gb 260 1) [.ref 91, .int (oI x1), .int (oI x2), .int (oI x3), .int (oI x4), .int (oI x5), w6, w7, w8, w9] [] (bd L I R S) Q
def h260_5 (d L : Nat) (I : Nat → Nat → Int32) (R : Nat → Nat → Option Nat) (S : List (Nat × Nat)) (Q : Option Value → mM → Prop) (x1 : Int) (x2 : Int) (x3 : Int) (x4 : Int) (x5 : Int) (x6 : Int) (w7 : Value) (w8 : Value) (w9 : Value) : Prop := Wp d (gb 260 5) [.ref 91, .int (oI x1), .int (oI x2), .int (oI x3), .int (oI x4), .int (oI x5), .int (oI x6), w7, w8, w9] [] (bd L I R S) Q
def h260_6 (d L : Nat) (I : Nat → Nat → Int32) (R : Nat → Nat → Option Nat) (S : List (Nat × Nat)) (Q : Option Value → mM → Prop) (x1 : Int) (x2 : Int) (x3 : Int) (x4 : Int) (x5 : Int) (x6 : Int) (x7 : Int) (x8 : Int) (w9 : Value) : Prop := Wp d (gb 260 6) [.ref 91, .int (oI x1), .int (oI x2), .int (oI x3), .int (oI x4), .int (oI x5), .int (oI x6), .int (oI x7), .int (oI x8), w9] [] (bd L I R S) Q
def h260_16 (d L : Nat) (I : Nat → Nat → Int32) (R : Nat → Nat → Option Nat) (S : List (Nat × Nat)) (Q : Option Value → mM → Prop) (w1 : Value) (x2 : Int) (x3 : Int) (x4 : Int) (w5 : Value) (x6 : Int) (x7 : Int) (w8 : Value) (w9 : Value) : Prop := Wp d (gb 260 16) [.ref 91, w1, .int (oI x2), .int (oI x3), .int (oI x4), w5, .int (oI x6), .int (oI x7), w8, w9] [] (bd L I R S) Q
def h260_19 (d L : Nat) (I : Nat → Nat → Int32) (R : Nat → Nat → Option Nat) (S : List (Nat × Nat)) (Q : Option Value → mM → Prop) (w1 : Value) (x2 : Int) (x3 : Int) (x4 : Int) (w5 : Value) (w6 : Value) (x7 : Int) (w8 : Value) (w9 : Value) : Prop := Wp d (gb 260 19) [.ref 91, w1, .int (oI x2), .int (oI x3), .int (oI x4), w5, w6, .int (oI x7), w8, w9] [] (bd L I R S) Q
set_option maxRecDepth 4000 in
theorem e260_1 {d L : Nat} {I : Nat → Nat → Int32} {R : Nat → Nat → Option Nat} {S : List (Nat × Nat)} {Q : Option Value → mM → Prop} {A : aS} (hR : RM I A) {x1 : Int} {x2 : Int} {x3 : Int} {x4 : Int} {x5 : Int} {w6 : Value} {w7 : Value} {w8 : Value} {w9 : Value} (hE : inR x5 ∧ (((x5 < 100) → (0 ≤ (100 * x1) + x5 ∧ (100 * x1) + x5 < 600) ∧ (h260_1 (d + 1) L (u2 I 91 36 (oI (ld I 91 36 + (if ld I 116 ((100 * x1) + x5).toNat = 0 then (1 : Int) else 0)))) R S Q x1 x2 x3 x4 (x5 + 1) w6 w7 w8 w9)) ∧ (¬ (x5 < 100) → h260_5 (d + 1) L I R S Q x1 x2 x3 x4 0 0 w7 w8 w9))) : h260_1 (d + 1) L I R S Q x1 x2 x3 x4 x5 w6 w7 w8 w9 := by
  unfold h260_1
  refine xG gb260.2.1 ?_
  refine s4 (x := x5) rfl ?_
  refine s0 ?_
  obtain ⟨g1, hE⟩ := hE
  refine s64 g1 (inRd rfl) (fun c2 => ?_) (fun c2 => ?_)
  · replace hE := hE.1 c2
    refine s6 (p := 91) rfl ?_
    refine s13r ?_
    refine s50 (v := ld I 91 36) sh91 (by decide) (by decide) (oI_ld _ _ _) ?_
    refine s6 (p := 91) rfl ?_
    refine s51 sh91 (by decide) (by decide) rf91_29 ?_
    refine s0 ?_
    refine s4 (x := x1) rfl ?_
    refine s18 ?_
    refine s4 (x := x5) rfl ?_
    refine s16 ?_
    obtain ⟨g3, hE⟩ := hE
    refine s42 (v := ld I 116 ((100 * x1) + x5).toNat) sh116 g3 rfl (oI_ld _ _ _) ?_
    refine s68j (j := 3) (v1 := 1) (v0 := 0) (ld_inR _ _ _) (fun hJ => ?_) (fun hJ => ?_) ?_
    · exact s0 (s60 hJ)
    · refine xG gb260.2.2.1 ?_
      exact s0 (s79 hJ)
    refine xG gb260.2.2.2.1 ?_
    refine sI rc227 rfl (Nat.le_of_ble_eq_true rfl) ?_
    refine k227 (ite_01 (by decide) (by decide)) ?_
    refine s16 ?_
    refine s52 sh91 (by decide) (by decide) ?_
    refine s10 (x := x5) (ls' := [.ref 91, .int (oI x1), .int (oI x2), .int (oI x3), .int (oI x4), .int (oI (x5 + 1)), w6, w7, w8, w9]) rfl rfl ?_
    refine s60 ?_
    exact hE
  · replace hE := hE.2 c2
    refine xG gb260.2.2.2.2.1 ?_
    refine s0 ?_
    refine s7 (ls' := [.ref 91, .int (oI x1), .int (oI x2), .int (oI x3), .int (oI x4), .int (oI 0), w6, w7, w8, w9]) (Nat.le_of_ble_eq_true rfl) rfl ?_
    refine s0 ?_
    refine s7 (ls' := [.ref 91, .int (oI x1), .int (oI x2), .int (oI x3), .int (oI x4), .int (oI 0), .int (oI 0), w7, w8, w9]) (Nat.le_of_ble_eq_true rfl) rfl ?_
    refine s79 ?_
    exact hE
set_option maxRecDepth 4000 in
theorem e260_5 {d L : Nat} {I : Nat → Nat → Int32} {R : Nat → Nat → Option Nat} {S : List (Nat × Nat)} {Q : Option Value → mM → Prop} {A : aS} (hR : RM I A) {x1 : Int} {x2 : Int} {x3 : Int} {x4 : Int} {x5 : Int} {x6 : Int} {w7 : Value} {w8 : Value} {w9 : Value} (hE : inR x6 ∧ (((x6 < A 91 1) → WfA A ∧ (WfC A ∧ (WfP A ∧ ((0 ≤ x6 ∧ x6 < A 91 1) ∧ ((0 ≤ x2 ∧ x2 ≤ 7) ∧ (inR x4 ∧ (∀ (I9 : mI), (Fr [150, 151] [(91, 87)] I I9) → (RM I9 A) → ∀ (I12 : mI), (Fr [111, 112, 113, 114, 115] [] I9 I12) → (Pnt A x6 x2 x4 I12) → (0 ≤ x6 ∧ x6 < 40) ∧ (h260_6 (d + 29) L (u2 I12 120 x6.toNat (oI 0)) R S Q x1 x2 x3 x4 x5 x6 (stS A x6 x2 x4) 0 w9)))))))) ∧ (¬ (x6 < A 91 1) → ((ld I 91 36 = 0) → WfC A ∧ (WfT A ∧ (inR x1 ∧ (inR x2 ∧ ((0 ≤ x3 ∧ x3 ≤ 7) ∧ (∀ (I22 : mI), (Fr [151] [(91, 87)] (u2 I 91 35 (oI 0)) I22) → (RM I22 A) → ∀ (I25 : mI), (Fr [150] [] (u2 I22 91 38 (oI (sfS A x1 x2 x3))) I25) → (∀ j : Nat, j < 12 → ld I25 150 j = 0) → ((ld I25 91 38 = (-1)) → h260_16 (d + 29) L (u2 I25 150 3 (oI x2)) R S Q (.int (oI x1)) x2 x3 x4 (.int (oI x5)) (ld I25 91 35) 1 w8 w9) ∧ (¬ (ld I25 91 38 = (-1)) → h260_16 (d + 29) L (u2 I25 150 3 (oI x2)) R S Q (.int (oI x1)) x2 x3 x4 (.int (oI x5)) (min (ld I25 91 35) (ld I25 91 38)) 1 w8 w9))))))) ∧ (¬ (ld I 91 36 = 0) → inR x5 ∧ (inR (4 * (ld I 91 36)) ∧ (0 < 4 * (ld I 91 36) ∧ (WfC A ∧ (WfT A ∧ (inR x1 ∧ (inR x2 ∧ ((0 ≤ x3 ∧ x3 ≤ 7) ∧ (∀ (I37 : mI), (Fr [151] [(91, 87)] (u2 I 91 35 (oI (Int.tdiv x5 (4 * (ld I 91 36))))) I37) → (RM I37 A) → ∀ (I40 : mI), (Fr [150] [] (u2 I37 91 38 (oI (sfS A x1 x2 x3))) I40) → (∀ j : Nat, j < 12 → ld I40 150 j = 0) → ((ld I40 91 38 = (-1)) → h260_16 (d + 29) L (u2 I40 150 3 (oI x2)) R S Q (.int (oI x1)) x2 x3 x4 (.int (oI x5)) (ld I40 91 35) 1 w8 w9) ∧ (¬ (ld I40 91 38 = (-1)) → h260_16 (d + 29) L (u2 I40 150 3 (oI x2)) R S Q (.int (oI x1)) x2 x3 x4 (.int (oI x5)) (min (ld I40 91 35) (ld I40 91 38)) 1 w8 w9))))))))))))) : h260_5 (d + 29) L I R S Q x1 x2 x3 x4 x5 x6 w7 w8 w9 := by
  unfold h260_5
  refine xG gb260.2.2.2.2.2.1 ?_
  refine s4 (x := x6) rfl ?_
  refine s6 (p := 91) rfl ?_
  refine s50 (v := A 91 1) sh91 (by decide) (by decide) (rdM hR.1 rfl) ?_
  obtain ⟨g1, hE⟩ := hE
  refine s64 g1 (inA hR.1 (a := 91) (k := 1) rfl) (fun c2 => ?_) (fun c2 => ?_)
  · replace hE := hE.1 c2
    refine s6 (p := 91) rfl ?_
    refine s4 (x := x6) rfl ?_
    refine s4 (x := x2) rfl ?_
    refine s4 (x := x4) rfl ?_
    obtain ⟨g3, hE⟩ := hE
    obtain ⟨g4, hE⟩ := hE
    obtain ⟨g5, hE⟩ := hE
    obtain ⟨g6, hE⟩ := hE
    obtain ⟨g7, hE⟩ := hE
    obtain ⟨g8, hE⟩ := hE
    refine sI rc233 rfl (Nat.le_of_ble_eq_true rfl) ?_
    refine k233 hR g3 g4 g5 g6 g7 g8 (fun I9 q10 q11 => ?_)
    replace hE := hE I9 q10 q11
    refine s7 (ls' := [.ref 91, .int (oI x1), .int (oI x2), .int (oI x3), .int (oI x4), .int (oI x5), .int (oI x6), .int (oI (stS A x6 x2 x4)), w8, w9]) (Nat.le_of_ble_eq_true rfl) rfl ?_
    refine s6 (p := 91) rfl ?_
    refine s4 (x := x6) rfl ?_
    refine s4 (x := x2) rfl ?_
    refine s4 (x := x4) rfl ?_
    refine sV rc252 rfl (Nat.le_of_ble_eq_true rfl) ?_
    refine k252R (q11) g3 g7 g1 g8 (fun I12 q13 q14 => ?_)
    replace hE := hE I12 q13 q14
    refine s6 (p := 91) rfl ?_
    refine s51 sh91 (by decide) (by decide) rf91_33 ?_
    refine s4 (x := x6) rfl ?_
    refine s0 ?_
    obtain ⟨g15, hE⟩ := hE
    refine s44 sh120 (by decide) g15 rfl ?_
    refine s0 ?_
    refine s7 (ls' := [.ref 91, .int (oI x1), .int (oI x2), .int (oI x3), .int (oI x4), .int (oI x5), .int (oI x6), .int (oI (stS A x6 x2 x4)), .int (oI 0), w9]) (Nat.le_of_ble_eq_true rfl) rfl ?_
    refine s79 ?_
    exact hE
  · replace hE := hE.2 c2
    refine xG gb260.2.2.2.2.2.2.2.2.2.2.2.1 ?_
    refine s6 (p := 91) rfl ?_
    refine s6 (p := 91) rfl ?_
    refine s50 (v := ld I 91 36) sh91 (by decide) (by decide) (oI_ld _ _ _) ?_
    refine s68 (ld_inR _ _ _) (fun c16 => ?_) (fun c16 => ?_)
    · replace hE := hE.1 c16
      refine s0 ?_
      refine s60 ?_
      refine xG gb260.2.2.2.2.2.2.2.2.2.2.2.2.2.1 ?_
      refine s52 sh91 (by decide) (by decide) ?_
      refine s6 (p := 91) rfl ?_
      refine s6 (p := 91) rfl ?_
      refine s4 (x := x1) rfl ?_
      refine s4 (x := x2) rfl ?_
      refine s4 (x := x3) rfl ?_
      obtain ⟨g17, hE⟩ := hE
      obtain ⟨g18, hE⟩ := hE
      obtain ⟨g19, hE⟩ := hE
      obtain ⟨g20, hE⟩ := hE
      obtain ⟨g21, hE⟩ := hE
      refine sI rc261 rfl (Nat.le_of_ble_eq_true rfl) ?_
      refine k261 (RM.scr hR rfl) g17 g18 g19 g20 g21 (fun I22 q23 q24 => ?_)
      replace hE := hE I22 q23 q24
      refine s52 sh91 (by decide) (by decide) ?_
      refine s6 (p := 91) rfl ?_
      refine sV rc236 rfl (Nat.le_of_ble_eq_true rfl) ?_
      refine k236R (RM.scr (q24) rfl) (fun I25 q26 q27 => ?_)
      replace hE := hE I25 q26 q27
      refine s6 (p := 91) rfl ?_
      refine s51 sh91 (by decide) (by decide) rf91_85 ?_
      refine s0 ?_
      refine s4 (x := x2) rfl ?_
      refine s44 sh150 (by decide) (⟨by decide, by decide⟩ : (0 : Int) ≤ 3 ∧ (3 : Int) < 12) rfl ?_
      refine s6 (p := 91) rfl ?_
      refine s50 (v := ld I25 91 38) sh91 (by decide) (by decide) ((v2_ne (by decide)).trans (oI_ld _ _ _)) ?_
      refine s0 ?_
      refine s62 (ld_inR _ _ _) (inRd rfl) (fun c28 => ?_) (fun c28 => ?_)
      · replace hE := hE.1 c28
        refine s6 (p := 91) rfl ?_
        refine s50 (v := ld I25 91 35) sh91 (by decide) (by decide) ((v2_ne (by decide)).trans (oI_ld _ _ _)) ?_
        refine s60 ?_
        refine xG gb260.2.2.2.2.2.2.2.2.2.2.2.2.2.2.2.1 ?_
        refine s7 (ls' := [.ref 91, .int (oI x1), .int (oI x2), .int (oI x3), .int (oI x4), .int (oI x5), .int (oI (ld I25 91 35)), w7, w8, w9]) (Nat.le_of_ble_eq_true rfl) rfl ?_
        refine s0 ?_
        refine s7 (ls' := [.ref 91, .int (oI x1), .int (oI x2), .int (oI x3), .int (oI x4), .int (oI x5), .int (oI (ld I25 91 35)), .int (oI 1), w8, w9]) (Nat.le_of_ble_eq_true rfl) rfl ?_
        refine s79 ?_
        exact hE
      · replace hE := hE.2 c28
        refine xG gb260.2.2.2.2.2.2.2.2.2.2.2.2.2.2.1 ?_
        refine s6 (p := 91) rfl ?_
        refine s50 (v := ld I25 91 35) sh91 (by decide) (by decide) ((v2_ne (by decide)).trans (oI_ld _ _ _)) ?_
        refine s6 (p := 91) rfl ?_
        refine s50 (v := ld I25 91 38) sh91 (by decide) (by decide) ((v2_ne (by decide)).trans (oI_ld _ _ _)) ?_
        refine sI rc345 rfl (Nat.le_of_ble_eq_true rfl) ?_
        refine k345 (ld_inR _ _ _) (ld_inR _ _ _) ?_
        refine s79 ?_
        refine xG gb260.2.2.2.2.2.2.2.2.2.2.2.2.2.2.2.1 ?_
        refine s7 (ls' := [.ref 91, .int (oI x1), .int (oI x2), .int (oI x3), .int (oI x4), .int (oI x5), .int (oI (min (ld I25 91 35) (ld I25 91 38))), w7, w8, w9]) (Nat.le_of_ble_eq_true rfl) rfl ?_
        refine s0 ?_
        refine s7 (ls' := [.ref 91, .int (oI x1), .int (oI x2), .int (oI x3), .int (oI x4), .int (oI x5), .int (oI (min (ld I25 91 35) (ld I25 91 38))), .int (oI 1), w8, w9]) (Nat.le_of_ble_eq_true rfl) rfl ?_
        refine s79 ?_
        exact hE
    · replace hE := hE.2 c16
      refine xG gb260.2.2.2.2.2.2.2.2.2.2.2.2.1 ?_
      refine s4 (x := x5) rfl ?_
      refine s0 ?_
      refine s6 (p := 91) rfl ?_
      refine s50 (v := ld I 91 36) sh91 (by decide) (by decide) (oI_ld _ _ _) ?_
      refine s18 ?_
      obtain ⟨g29, hE⟩ := hE
      obtain ⟨g30, hE⟩ := hE
      obtain ⟨g31, hE⟩ := hE
      refine s19 g29 ⟨g30, g31⟩ ?_
      refine s79 ?_
      refine xG gb260.2.2.2.2.2.2.2.2.2.2.2.2.2.1 ?_
      refine s52 sh91 (by decide) (by decide) ?_
      refine s6 (p := 91) rfl ?_
      refine s6 (p := 91) rfl ?_
      refine s4 (x := x1) rfl ?_
      refine s4 (x := x2) rfl ?_
      refine s4 (x := x3) rfl ?_
      obtain ⟨g32, hE⟩ := hE
      obtain ⟨g33, hE⟩ := hE
      obtain ⟨g34, hE⟩ := hE
      obtain ⟨g35, hE⟩ := hE
      obtain ⟨g36, hE⟩ := hE
      refine sI rc261 rfl (Nat.le_of_ble_eq_true rfl) ?_
      refine k261 (RM.scr hR rfl) g32 g33 g34 g35 g36 (fun I37 q38 q39 => ?_)
      replace hE := hE I37 q38 q39
      refine s52 sh91 (by decide) (by decide) ?_
      refine s6 (p := 91) rfl ?_
      refine sV rc236 rfl (Nat.le_of_ble_eq_true rfl) ?_
      refine k236R (RM.scr (q39) rfl) (fun I40 q41 q42 => ?_)
      replace hE := hE I40 q41 q42
      refine s6 (p := 91) rfl ?_
      refine s51 sh91 (by decide) (by decide) rf91_85 ?_
      refine s0 ?_
      refine s4 (x := x2) rfl ?_
      refine s44 sh150 (by decide) (⟨by decide, by decide⟩ : (0 : Int) ≤ 3 ∧ (3 : Int) < 12) rfl ?_
      refine s6 (p := 91) rfl ?_
      refine s50 (v := ld I40 91 38) sh91 (by decide) (by decide) ((v2_ne (by decide)).trans (oI_ld _ _ _)) ?_
      refine s0 ?_
      refine s62 (ld_inR _ _ _) (inRd rfl) (fun c43 => ?_) (fun c43 => ?_)
      · replace hE := hE.1 c43
        refine s6 (p := 91) rfl ?_
        refine s50 (v := ld I40 91 35) sh91 (by decide) (by decide) ((v2_ne (by decide)).trans (oI_ld _ _ _)) ?_
        refine s60 ?_
        refine xG gb260.2.2.2.2.2.2.2.2.2.2.2.2.2.2.2.1 ?_
        refine s7 (ls' := [.ref 91, .int (oI x1), .int (oI x2), .int (oI x3), .int (oI x4), .int (oI x5), .int (oI (ld I40 91 35)), w7, w8, w9]) (Nat.le_of_ble_eq_true rfl) rfl ?_
        refine s0 ?_
        refine s7 (ls' := [.ref 91, .int (oI x1), .int (oI x2), .int (oI x3), .int (oI x4), .int (oI x5), .int (oI (ld I40 91 35)), .int (oI 1), w8, w9]) (Nat.le_of_ble_eq_true rfl) rfl ?_
        refine s79 ?_
        exact hE
      · replace hE := hE.2 c43
        refine xG gb260.2.2.2.2.2.2.2.2.2.2.2.2.2.2.1 ?_
        refine s6 (p := 91) rfl ?_
        refine s50 (v := ld I40 91 35) sh91 (by decide) (by decide) ((v2_ne (by decide)).trans (oI_ld _ _ _)) ?_
        refine s6 (p := 91) rfl ?_
        refine s50 (v := ld I40 91 38) sh91 (by decide) (by decide) ((v2_ne (by decide)).trans (oI_ld _ _ _)) ?_
        refine sI rc345 rfl (Nat.le_of_ble_eq_true rfl) ?_
        refine k345 (ld_inR _ _ _) (ld_inR _ _ _) ?_
        refine s79 ?_
        refine xG gb260.2.2.2.2.2.2.2.2.2.2.2.2.2.2.2.1 ?_
        refine s7 (ls' := [.ref 91, .int (oI x1), .int (oI x2), .int (oI x3), .int (oI x4), .int (oI x5), .int (oI (min (ld I40 91 35) (ld I40 91 38))), w7, w8, w9]) (Nat.le_of_ble_eq_true rfl) rfl ?_
        refine s0 ?_
        refine s7 (ls' := [.ref 91, .int (oI x1), .int (oI x2), .int (oI x3), .int (oI x4), .int (oI x5), .int (oI (min (ld I40 91 35) (ld I40 91 38))), .int (oI 1), w8, w9]) (Nat.le_of_ble_eq_true rfl) rfl ?_
        refine s79 ?_
        exact hE
set_option maxRecDepth 4000 in
theorem e260_6 {d L : Nat} {I : Nat → Nat → Int32} {R : Nat → Nat → Option Nat} {S : List (Nat × Nat)} {Q : Option Value → mM → Prop} {A : aS} (hR : RM I A) {x1 : Int} {x2 : Int} {x3 : Int} {x4 : Int} {x5 : Int} {x6 : Int} {x7 : Int} {x8 : Int} {w9 : Value} (hE : inR x8 ∧ (((x8 < 200) → WfA A ∧ (WfC A ∧ (WfP A ∧ ((0 ≤ x6 ∧ x6 < A 91 1) ∧ ((0 ≤ x2 ∧ x2 ≤ 7) ∧ ((0 ≤ Int.tdiv x8 2 ∧ Int.tdiv x8 2 < 100) ∧ ((0 ≤ x8 - Int.tdiv x8 2 * 2 ∧ x8 - Int.tdiv x8 2 * 2 ≤ 1) ∧ ((0 ≤ x3 ∧ x3 ≤ 7) ∧ (inR x7 ∧ (∃ n3 : Int, PShut A x2 n3 I ∧ Pnt A x6 x2 n3 I ∧ (∀ (I6 : mI), (Fr [150, 151] [(91, 87)] I I6) → (RM I6 A) → (0 ≤ x6 ∧ x6 < 40) ∧ ((0 ≤ Int.tdiv x8 2 ∧ Int.tdiv x8 2 < 100) ∧ (inR x1 ∧ (((ld I6 111 (Int.tdiv x8 2).toNat = x1) → h260_6 (d + 28) L (u2 I6 120 x6.toNat (oI (ld I6 120 x6.toNat + (qtS A x6 x2 (Int.tdiv x8 2) (x8 - Int.tdiv x8 2 * 2) x3 x7 n3)))) R S Q x1 x2 x3 x4 (x5 + (qtS A x6 x2 (Int.tdiv x8 2) (x8 - Int.tdiv x8 2 * 2) x3 x7 n3)) x6 x7 (x8 + 1) (.int (oI (qtS A x6 x2 (Int.tdiv x8 2) (x8 - Int.tdiv x8 2 * 2) x3 x7 n3)))) ∧ (¬ (ld I6 111 (Int.tdiv x8 2).toNat = x1) → h260_6 (d + 28) L (u2 I6 120 x6.toNat (oI (ld I6 120 x6.toNat + (qtS A x6 x2 (Int.tdiv x8 2) (x8 - Int.tdiv x8 2 * 2) x3 x7 n3)))) R S Q x1 x2 x3 x4 x5 x6 x7 (x8 + 1) (.int (oI (qtS A x6 x2 (Int.tdiv x8 2) (x8 - Int.tdiv x8 2 * 2) x3 x7 n3)))))))))))))))))) ∧ (¬ (x8 < 200) → inR x1 ∧ (((ld I 111 99 = x1) → h260_5 (d + 28) L (u2 I 91 37 (oI (ld I 91 37 + 1))) R S Q x1 x2 x3 x4 x5 (x6 + 1) (.int (oI x7)) (.int (oI x8)) w9) ∧ (¬ (ld I 111 99 = x1) → (0 ≤ x6 ∧ x6 < 40) ∧ (h260_5 (d + 28) L (u2 I 120 x6.toNat (oI (-1))) R S Q x1 x2 x3 x4 x5 (x6 + 1) (.int (oI x7)) (.int (oI x8)) w9)))))) : h260_6 (d + 28) L I R S Q x1 x2 x3 x4 x5 x6 x7 x8 w9 := by
  unfold h260_6
  refine xG gb260.2.2.2.2.2.2.1 ?_
  refine s4 (x := x8) rfl ?_
  refine s0 ?_
  obtain ⟨g1, hE⟩ := hE
  refine s64 g1 (inRd rfl) (fun c2 => ?_) (fun c2 => ?_)
  · replace hE := hE.1 c2
    refine s6 (p := 91) rfl ?_
    refine s4 (x := x6) rfl ?_
    refine s4 (x := x2) rfl ?_
    refine s4 (x := x8) rfl ?_
    refine s0 ?_
    refine s19 g1 ⟨(inRd rfl), by decide⟩ ?_
    refine s4 (x := x8) rfl ?_
    refine s0 ?_
    refine s20 g1 ⟨(inRd rfl), by decide⟩ ?_
    refine s4 (x := x3) rfl ?_
    refine s4 (x := x7) rfl ?_
    obtain ⟨g9, hE⟩ := hE
    obtain ⟨g10, hE⟩ := hE
    obtain ⟨g11, hE⟩ := hE
    obtain ⟨g12, hE⟩ := hE
    obtain ⟨g13, hE⟩ := hE
    obtain ⟨g14, hE⟩ := hE
    obtain ⟨g15, hE⟩ := hE
    obtain ⟨g16, hE⟩ := hE
    obtain ⟨g17, hE⟩ := hE
    obtain ⟨n3, k4, k5, hE⟩ := hE
    refine sI rc253 rfl (Nat.le_of_ble_eq_true rfl) ?_
    refine k253 hR g9 g10 g11 g12 g13 g14 g15 g16 g17 k4 k5 (fun I6 q7 q8 => ?_)
    replace hE := hE I6 q7 q8
    refine s7 (ls' := [.ref 91, .int (oI x1), .int (oI x2), .int (oI x3), .int (oI x4), .int (oI x5), .int (oI x6), .int (oI x7), .int (oI x8), .int (oI (qtS A x6 x2 (Int.tdiv x8 2) (x8 - Int.tdiv x8 2 * 2) x3 x7 n3))]) (Nat.le_of_ble_eq_true rfl) rfl ?_
    refine s6 (p := 91) rfl ?_
    refine s51 sh91 (by decide) (by decide) rf91_33 ?_
    refine s4 (x := x6) rfl ?_
    refine s14 ?_
    obtain ⟨g18, hE⟩ := hE
    refine s40 (v := ld I6 120 x6.toNat) sh120 g18 rfl (oI_ld _ _ _) ?_
    refine s4 (x := qtS A x6 x2 (Int.tdiv x8 2) (x8 - Int.tdiv x8 2 * 2) x3 x7 n3) rfl ?_
    refine s16 ?_
    refine s44 sh120 (by decide) g18 rfl ?_
    refine s6 (p := 91) rfl ?_
    refine s51 sh91 (by decide) (by decide) rf91_24 ?_
    refine s4 (x := x8) rfl ?_
    refine s0 ?_
    refine s19 g1 ⟨(inRd rfl), by decide⟩ ?_
    obtain ⟨g19, hE⟩ := hE
    refine s40 (v := ld I6 111 (Int.tdiv x8 2).toNat) sh111 g19 rfl ((v2_ne (by decide)).trans (oI_ld _ _ _)) ?_
    refine s4 (x := x1) rfl ?_
    obtain ⟨g20, hE⟩ := hE
    refine s62 (ld_inR _ _ _) g20 (fun c21 => ?_) (fun c21 => ?_)
    · replace hE := hE.1 c21
      refine s4 (x := x5) rfl ?_
      refine s4 (x := qtS A x6 x2 (Int.tdiv x8 2) (x8 - Int.tdiv x8 2 * 2) x3 x7 n3) rfl ?_
      refine s16 ?_
      refine s7 (ls' := [.ref 91, .int (oI x1), .int (oI x2), .int (oI x3), .int (oI x4), .int (oI (x5 + (qtS A x6 x2 (Int.tdiv x8 2) (x8 - Int.tdiv x8 2 * 2) x3 x7 n3))), .int (oI x6), .int (oI x7), .int (oI x8), .int (oI (qtS A x6 x2 (Int.tdiv x8 2) (x8 - Int.tdiv x8 2 * 2) x3 x7 n3))]) (Nat.le_of_ble_eq_true rfl) rfl ?_
      refine s79 ?_
      refine xG gb260.2.2.2.2.2.2.2.1 ?_
      refine s10 (x := x8) (ls' := [.ref 91, .int (oI x1), .int (oI x2), .int (oI x3), .int (oI x4), .int (oI (x5 + (qtS A x6 x2 (Int.tdiv x8 2) (x8 - Int.tdiv x8 2 * 2) x3 x7 n3))), .int (oI x6), .int (oI x7), .int (oI (x8 + 1)), .int (oI (qtS A x6 x2 (Int.tdiv x8 2) (x8 - Int.tdiv x8 2 * 2) x3 x7 n3))]) rfl rfl ?_
      refine s60 ?_
      exact hE
    · replace hE := hE.2 c21
      refine xG gb260.2.2.2.2.2.2.2.1 ?_
      refine s10 (x := x8) (ls' := [.ref 91, .int (oI x1), .int (oI x2), .int (oI x3), .int (oI x4), .int (oI x5), .int (oI x6), .int (oI x7), .int (oI (x8 + 1)), .int (oI (qtS A x6 x2 (Int.tdiv x8 2) (x8 - Int.tdiv x8 2 * 2) x3 x7 n3))]) rfl rfl ?_
      refine s60 ?_
      exact hE
  · replace hE := hE.2 c2
    refine xG gb260.2.2.2.2.2.2.2.2.1 ?_
    refine s6 (p := 91) rfl ?_
    refine s51 sh91 (by decide) (by decide) rf91_24 ?_
    refine s0 ?_
    refine s40 (v := ld I 111 99) sh111 (⟨by decide, by decide⟩ : (0 : Int) ≤ 99 ∧ (99 : Int) < 100) rfl (oI_ld _ _ _) ?_
    refine s4 (x := x1) rfl ?_
    obtain ⟨g22, hE⟩ := hE
    refine s61 (ld_inR _ _ _) g22 (fun c23 => ?_) (fun c23 => ?_)
    · replace hE := hE.1 c23
      refine xG gb260.2.2.2.2.2.2.2.2.2.1 ?_
      refine s6 (p := 91) rfl ?_
      refine s13r ?_
      refine s50 (v := ld I 91 37) sh91 (by decide) (by decide) (oI_ld _ _ _) ?_
      refine s0 ?_
      refine s16 ?_
      refine s52 sh91 (by decide) (by decide) ?_
      refine s79 ?_
      refine xG gb260.2.2.2.2.2.2.2.2.2.2.1 ?_
      refine s10 (x := x6) (ls' := [.ref 91, .int (oI x1), .int (oI x2), .int (oI x3), .int (oI x4), .int (oI x5), .int (oI (x6 + 1)), .int (oI x7), .int (oI x8), w9]) rfl rfl ?_
      refine s60 ?_
      exact hE
    · replace hE := hE.2 c23
      refine s6 (p := 91) rfl ?_
      refine s51 sh91 (by decide) (by decide) rf91_33 ?_
      refine s4 (x := x6) rfl ?_
      refine s0 ?_
      obtain ⟨g24, hE⟩ := hE
      refine s44 sh120 (by decide) g24 rfl ?_
      refine s60 ?_
      refine xG gb260.2.2.2.2.2.2.2.2.2.2.1 ?_
      refine s10 (x := x6) (ls' := [.ref 91, .int (oI x1), .int (oI x2), .int (oI x3), .int (oI x4), .int (oI x5), .int (oI (x6 + 1)), .int (oI x7), .int (oI x8), w9]) rfl rfl ?_
      refine s60 ?_
      exact hE
set_option maxRecDepth 4000 in
theorem e260_16 {d L : Nat} {I : Nat → Nat → Int32} {R : Nat → Nat → Option Nat} {S : List (Nat × Nat)} {Q : Option Value → mM → Prop} {A : aS} (hR : RM I A) {w1 : Value} {x2 : Int} {x3 : Int} {x4 : Int} {w5 : Value} {x6 : Int} {x7 : Int} {w8 : Value} {w9 : Value} (hE : inR x7 ∧ (((60 < x7) → h260_19 (d + 27) L I R S Q w1 x2 x3 x4 w5 (.int (oI x6)) 0 w8 w9) ∧ (¬ (60 < x7) → WfC A ∧ ((0 ≤ x3 ∧ x3 ≤ 7) ∧ ((0 ≤ x7 ∧ x7 ≤ 60) ∧ (∃ e3 : Nat → Int, EnvI I e3 ∧ (((grB A e3 x3 x7 (-2) = true) → ∀ (I9 : mI), (Fr [151] [(91, 87)] I I9) → (RM I9 A) → ∀ (I13 : mI), (Fr [151] [(91, 87)] I9 I13) → (RM I13 A) → (0 ≤ cdS A x3 x7 ∧ cdS A x3 x7 < 360) ∧ (inR ((A 141 (cdS A x3 x7).toNat) * x6) ∧ (∃ l17 : List Ln, LinesI I13 l17 ∧ l17.length < 2599 ∧ (∀ (I19 : mI), (Fr [117, 118, 119] [(91, 34), (91, 39)] I13 I19) → (LinesI I19 (l17 ++ [((-1), x7, (A 141 (cdS A x3 x7).toNat) * x6)])) → h260_16 (d + 27) L I19 R S Q w1 x2 x3 x4 w5 x6 (x7 + 1) w8 w9)))) ∧ (¬ (grB A e3 x3 x7 (-2) = true) → ∀ (I9 : mI), (Fr [151] [(91, 87)] I I9) → (RM I9 A) → h260_16 (d + 27) L I9 R S Q w1 x2 x3 x4 w5 x6 (x7 + 1) w8 w9)))))))) : h260_16 (d + 27) L I R S Q w1 x2 x3 x4 w5 x6 x7 w8 w9 := by
  unfold h260_16
  refine xG gb260.2.2.2.2.2.2.2.2.2.2.2.2.2.2.2.2.1 ?_
  refine s4 (x := x7) rfl ?_
  refine s0 ?_
  obtain ⟨g1, hE⟩ := hE
  refine s65 g1 (inRd rfl) (fun c2 => ?_) (fun c2 => ?_)
  · replace hE := hE.1 c2
    refine xG gb260.2.2.2.2.2.2.2.2.2.2.2.2.2.2.2.2.2.2.1 ?_
    refine s0 ?_
    refine s7 (ls' := [.ref 91, w1, .int (oI x2), .int (oI x3), .int (oI x4), w5, .int (oI x6), .int (oI 0), w8, w9]) (Nat.le_of_ble_eq_true rfl) rfl ?_
    refine s79 ?_
    exact hE
  · replace hE := hE.2 c2
    refine s6 (p := 91) rfl ?_
    refine s4 (x := x3) rfl ?_
    refine s4 (x := x7) rfl ?_
    refine s0 ?_
    obtain ⟨g5, hE⟩ := hE
    obtain ⟨g6, hE⟩ := hE
    obtain ⟨g7, hE⟩ := hE
    obtain ⟨e3, k4, hE⟩ := hE
    refine sI rc262 rfl (Nat.le_of_ble_eq_true rfl) ?_
    refine k262 k4 hR g5 g6 g7 (inRd rfl) (fun c8 I9 q10 q11 => ?_) (fun c8 I9 q10 q11 => ?_)
    · replace hE := hE.1 c8 I9 q10 q11
      refine s67 (inRd rfl) (fun c12 => absurd c12 (by decide)) (fun _ => ?_)
      refine s6 (p := 91) rfl ?_
      refine s0 ?_
      refine s4 (x := x7) rfl ?_
      refine s6 (p := 91) rfl ?_
      refine s51 sh91 (by decide) (by decide) rf91_76 ?_
      refine s6 (p := 91) rfl ?_
      refine s4 (x := x3) rfl ?_
      refine s4 (x := x7) rfl ?_
      refine sI rc221 rfl (Nat.le_of_ble_eq_true rfl) ?_
      refine k221 q11 g5 g6 g7 (fun I13 q14 q15 => ?_)
      replace hE := hE I13 q14 q15
      obtain ⟨g16, hE⟩ := hE
      refine s40 (v := A 141 (cdS A x3 x7).toNat) sh141 g16 rfl (rdM (q15).1 rfl) ?_
      refine s4 (x := x6) rfl ?_
      refine s18 ?_
      obtain ⟨g22, hE⟩ := hE
      obtain ⟨l17, k18, k23, hE⟩ := hE
      refine sV rc263 rfl (Nat.le_of_ble_eq_true rfl) ?_
      refine k263 (q15) k18 k23 (inRd rfl) g1 g22 (fun I19 q20 q21 => ?_)
      replace hE := hE I19 q20 q21
      refine s79 ?_
      refine xG gb260.2.2.2.2.2.2.2.2.2.2.2.2.2.2.2.2.2.1 ?_
      refine s10 (x := x7) (ls' := [.ref 91, w1, .int (oI x2), .int (oI x3), .int (oI x4), w5, .int (oI x6), .int (oI (x7 + 1)), w8, w9]) rfl rfl ?_
      refine s60 ?_
      exact hE
    · replace hE := hE.2 c8 I9 q10 q11
      refine s67 (inRd rfl) (fun _ => ?_) (fun c24 => absurd (by decide) c24)
      refine xG gb260.2.2.2.2.2.2.2.2.2.2.2.2.2.2.2.2.2.1 ?_
      refine s10 (x := x7) (ls' := [.ref 91, w1, .int (oI x2), .int (oI x3), .int (oI x4), w5, .int (oI x6), .int (oI (x7 + 1)), w8, w9]) rfl rfl ?_
      refine s60 ?_
      exact hE
set_option maxRecDepth 4000 in
theorem e260_19 {d L : Nat} {I : Nat → Nat → Int32} {R : Nat → Nat → Option Nat} {S : List (Nat × Nat)} {Q : Option Value → mM → Prop} {A : aS} (hR : RM I A) {w1 : Value} {x2 : Int} {x3 : Int} {x4 : Int} {w5 : Value} {w6 : Value} {x7 : Int} {w8 : Value} {w9 : Value} (hE : inR x7 ∧ (((x7 < A 91 1) → (0 ≤ x7 ∧ x7 < 40) ∧ (((ld I 120 x7.toNat = (-1)) → h260_19 (d + 30) L I R S Q w1 x2 x3 x4 w5 (mNl w6) (x7 + 1) w8 w9) ∧ (¬ (ld I 120 x7.toNat = (-1)) → WfA A ∧ (WfC A ∧ (WfP A ∧ ((0 ≤ x7 ∧ x7 < A 91 1) ∧ ((0 ≤ x2 ∧ x2 ≤ 7) ∧ ((0 ≤ x3 ∧ x3 ≤ 7) ∧ (inR x4 ∧ (∃ l5 : List Ln, LinesI I l5 ∧ l5.length + 60 < 2599 ∧ (∀ (I8 : mI), (Fr [117, 118, 119, 150, 151] [(91, 34), (91, 39), (91, 87)] I I8) → (RM I8 A) → (LinesI I8 (l5 ++ gcS A x7 x2 x3 x4 (ld I 120 x7.toNat))) → h260_19 (d + 30) L I8 R S Q w1 x2 x3 x4 w5 (mNl w6) (x7 + 1) w8 w9))))))))))) ∧ (¬ (x7 < A 91 1) → WfC A ∧ ((0 ≤ x3 ∧ x3 ≤ 7) ∧ (∀ (I21 : mI), (Fr [151] [(91, 87)] I I21) → (RM I21 A) → inR (lsS A x3 7) ∧ (((lsS A x3 7 = (-1)) → Q none (bd L I21 R S)) ∧ (¬ (lsS A x3 7 = (-1)) → (0 ≤ lsS A x3 7 ∧ lsS A x3 7 ≤ 60) ∧ (∀ (I27 : mI), (Fr [151] [(91, 87)] I21 I27) → (RM I27 A) → (0 ≤ cdS A x3 (lsS A x3 7) ∧ cdS A x3 (lsS A x3 7) < 360) ∧ (inR ((A 141 (cdS A x3 (lsS A x3 7)).toNat) * (ld I27 91 35)) ∧ ((((A 141 (cdS A x3 (lsS A x3 7)).toNat) * (ld I27 91 35) < ld I27 91 39) → inR (((A 141 (cdS A x3 (lsS A x3 7)).toNat) * (ld I27 91 35)) - (ld I27 91 39)) ∧ (∃ l33 : List Ln, LinesI I27 l33 ∧ l33.length < 2599 ∧ (∀ (I35 : mI), (Fr [117, 118, 119] [(91, 34), (91, 39)] I27 I35) → (LinesI I35 (l33 ++ [((-1), lsS A x3 7, ((A 141 (cdS A x3 (lsS A x3 7)).toNat) * (ld I27 91 35)) - (ld I27 91 39))])) → Q none (bd L I35 R S)))) ∧ (¬ ((A 141 (cdS A x3 (lsS A x3 7)).toNat) * (ld I27 91 35) < ld I27 91 39) → Q none (bd L I27 R S)))))))))))) : h260_19 (d + 30) L I R S Q w1 x2 x3 x4 w5 w6 x7 w8 w9 := by
  unfold h260_19
  refine xG gb260.2.2.2.2.2.2.2.2.2.2.2.2.2.2.2.2.2.2.2.1 ?_
  refine s4 (x := x7) rfl ?_
  refine s6 (p := 91) rfl ?_
  refine s50 (v := A 91 1) sh91 (by decide) (by decide) (rdM hR.1 rfl) ?_
  obtain ⟨g1, hE⟩ := hE
  refine s64 g1 (inA hR.1 (a := 91) (k := 1) rfl) (fun c2 => ?_) (fun c2 => ?_)
  · replace hE := hE.1 c2
    refine s6 (p := 91) rfl ?_
    refine s51 sh91 (by decide) (by decide) rf91_33 ?_
    refine s4 (x := x7) rfl ?_
    obtain ⟨g3, hE⟩ := hE
    refine s40 (v := ld I 120 x7.toNat) sh120 g3 rfl (oI_ld _ _ _) ?_
    refine s0 ?_
    refine s61 (ld_inR _ _ _) (inRd rfl) (fun c4 => ?_) (fun c4 => ?_)
    · replace hE := hE.1 c4
      refine xG gb260.2.2.2.2.2.2.2.2.2.2.2.2.2.2.2.2.2.2.2.2.1 ?_
      refine s10 (x := x7) (ls' := [.ref 91, w1, .int (oI x2), .int (oI x3), .int (oI x4), w5, mNl w6, .int (oI (x7 + 1)), w8, w9]) rfl rfl ?_
      refine s60 ?_
      exact hE
    · replace hE := hE.2 c4
      refine s6 (p := 91) rfl ?_
      refine s4 (x := x7) rfl ?_
      refine s4 (x := x2) rfl ?_
      refine s4 (x := x3) rfl ?_
      refine s4 (x := x4) rfl ?_
      obtain ⟨g12, hE⟩ := hE
      obtain ⟨g13, hE⟩ := hE
      obtain ⟨g14, hE⟩ := hE
      obtain ⟨g15, hE⟩ := hE
      obtain ⟨g16, hE⟩ := hE
      obtain ⟨g17, hE⟩ := hE
      obtain ⟨g18, hE⟩ := hE
      obtain ⟨l5, k6, k7, hE⟩ := hE
      refine sV rc264 rfl (Nat.le_of_ble_eq_true rfl) ?_
      refine k264 hR k6 k7 g12 g13 g14 g15 g16 g17 g18 (fun I8 q9 q10 q11 => ?_)
      replace hE := hE I8 q9 q10 q11
      refine s79 ?_
      refine xG gb260.2.2.2.2.2.2.2.2.2.2.2.2.2.2.2.2.2.2.2.2.1 ?_
      refine s10 (x := x7) (ls' := [.ref 91, w1, .int (oI x2), .int (oI x3), .int (oI x4), w5, mNl w6, .int (oI (x7 + 1)), w8, w9]) rfl rfl ?_
      refine s60 ?_
      exact hE
  · replace hE := hE.2 c2
    refine xG gb260.2.2.2.2.2.2.2.2.2.2.2.2.2.2.2.2.2.2.2.2.2.1 ?_
    refine s6 (p := 91) rfl ?_
    refine s4 (x := x3) rfl ?_
    refine s0 ?_
    obtain ⟨g19, hE⟩ := hE
    obtain ⟨g20, hE⟩ := hE
    refine sI rc219 rfl (Nat.le_of_ble_eq_true rfl) ?_
    refine k219 hR g19 g20 (by decide) (fun I21 q22 q23 => ?_)
    replace hE := hE I21 q22 q23
    refine s7 (ls' := [.ref 91, w1, .int (oI x2), .int (oI x3), .int (oI x4), w5, mNl w6, .int (oI (lsS A x3 7)), w8, w9]) (Nat.le_of_ble_eq_true rfl) rfl ?_
    refine s4 (x := lsS A x3 7) rfl ?_
    refine s0 ?_
    obtain ⟨g24, hE⟩ := hE
    refine s62 g24 (inRd rfl) (fun c25 => ?_) (fun c25 => ?_)
    · replace hE := hE.1 c25
      refine s83 ?_
      exact hE
    · replace hE := hE.2 c25
      refine xG gb260.2.2.2.2.2.2.2.2.2.2.2.2.2.2.2.2.2.2.2.2.2.2.1 ?_
      refine s6 (p := 91) rfl ?_
      refine s51 sh91 (by decide) (by decide) rf91_76 ?_
      refine s6 (p := 91) rfl ?_
      refine s4 (x := x3) rfl ?_
      refine s4 (x := lsS A x3 7) rfl ?_
      obtain ⟨g26, hE⟩ := hE
      refine sI rc221 rfl (Nat.le_of_ble_eq_true rfl) ?_
      refine k221 (q23) g19 g20 g26 (fun I27 q28 q29 => ?_)
      replace hE := hE I27 q28 q29
      obtain ⟨g30, hE⟩ := hE
      refine s40 (v := A 141 (cdS A x3 (lsS A x3 7)).toNat) sh141 g30 rfl (rdM (q29).1 rfl) ?_
      refine s6 (p := 91) rfl ?_
      refine s50 (v := ld I27 91 35) sh91 (by decide) (by decide) (oI_ld _ _ _) ?_
      refine s18 ?_
      refine s7 (ls' := [.ref 91, w1, .int (oI x2), .int (oI x3), .int (oI x4), w5, mNl w6, .int (oI (lsS A x3 7)), .int (oI ((A 141 (cdS A x3 (lsS A x3 7)).toNat) * (ld I27 91 35))), w9]) (Nat.le_of_ble_eq_true rfl) rfl ?_
      refine s6 (p := 91) rfl ?_
      refine s50 (v := ld I27 91 39) sh91 (by decide) (by decide) (oI_ld _ _ _) ?_
      refine s4 (x := (A 141 (cdS A x3 (lsS A x3 7)).toNat) * (ld I27 91 35)) rfl ?_
      obtain ⟨g31, hE⟩ := hE
      refine s66 (ld_inR _ _ _) g31 (fun c32 => ?_) (fun c32 => ?_)
      · replace hE := hE.1 c32
        refine s6 (p := 91) rfl ?_
        refine s0 ?_
        refine s4 (x := lsS A x3 7) rfl ?_
        refine s4 (x := (A 141 (cdS A x3 (lsS A x3 7)).toNat) * (ld I27 91 35)) rfl ?_
        refine s6 (p := 91) rfl ?_
        refine s50 (v := ld I27 91 39) sh91 (by decide) (by decide) (oI_ld _ _ _) ?_
        refine s17 ?_
        obtain ⟨g38, hE⟩ := hE
        obtain ⟨l33, k34, k39, hE⟩ := hE
        refine sV rc263 rfl (Nat.le_of_ble_eq_true rfl) ?_
        refine k263 (q29) k34 k39 (inRd rfl) g24 g38 (fun I35 q36 q37 => ?_)
        replace hE := hE I35 q36 q37
        refine s79 ?_
        refine xG gb260.2.2.2.2.2.2.2.2.2.2.2.2.2.2.2.2.2.2.2.2.2.2.2 ?_
        refine s83 ?_
        exact hE
      · replace hE := hE.2 c32
        refine xG gb260.2.2.2.2.2.2.2.2.2.2.2.2.2.2.2.2.2.2.2.2.2.2.2 ?_
        refine s83 ?_
        exact hE
set_option maxRecDepth 4000 in
theorem e260 {d L : Nat} {I : Nat → Nat → Int32} {R : Nat → Nat → Option Nat} {S : List (Nat × Nat)} {K : mM → Prop} {A : aS} (hR : RM I A) {x1 : Int} {x2 : Int} {x3 : Int} {x4 : Int} (hE : WfA A ∧ ((0 ≤ x2 ∧ x2 ≤ 7) ∧ (inR x4 ∧ (∀ (I4 : mI), (Fr [116] [] (u2 (u2 (u2 (u2 I 91 34 (oI 0)) 91 39 (oI 0)) 91 36 (oI 0)) 91 37 (oI 0)) I4) → (PShut A x2 x4 I4) → h260_1 (d + 2) L I4 R S (rqV K) x1 x2 x3 x4 0 mUn mUn mUn mUn)))) : CallV (d + 2) 260 [.ref 91, .int (oI x1), .int (oI x2), .int (oI x3), .int (oI x4)] (bd L I R S) K := by
  refine cV_of (ls := [.ref 91, .int (oI x1), .int (oI x2), .int (oI x3), .int (oI x4), mUn, mUn, mUn, mUn, mUn]) rfl ?_
  refine xG gb260.1 ?_
  refine s6 (p := 91) rfl ?_
  refine s0 ?_
  refine s52 sh91 (by decide) (by decide) ?_
  refine s6 (p := 91) rfl ?_
  refine s0 ?_
  refine s52 sh91 (by decide) (by decide) ?_
  refine s6 (p := 91) rfl ?_
  refine s0 ?_
  refine s52 sh91 (by decide) (by decide) ?_
  refine s6 (p := 91) rfl ?_
  refine s0 ?_
  refine s52 sh91 (by decide) (by decide) ?_
  refine s6 (p := 91) rfl ?_
  refine s4 (x := x2) rfl ?_
  refine s4 (x := x4) rfl ?_
  obtain ⟨g1, hE⟩ := hE
  obtain ⟨g2, hE⟩ := hE
  obtain ⟨g3, hE⟩ := hE
  refine sV rc251 rfl (Nat.le_of_ble_eq_true rfl) ?_
  refine k251R (RM.scr (RM.scr (RM.scr (RM.scr hR rfl) rfl) rfl) rfl) g1 g2 g3 (fun I4 q5 q6 => ?_)
  replace hE := hE I4 q5 q6
  refine s0 ?_
  refine s7 (ls' := [.ref 91, .int (oI x1), .int (oI x2), .int (oI x3), .int (oI x4), .int (oI 0), mUn, mUn, mUn, mUn]) (Nat.le_of_ble_eq_true rfl) rfl ?_
  refine s79 ?_
  exact hE
noncomputable def opL (A : aS) (school year known : Int) : Nat → Int
  | 0 => 0
  | k + 1 => opL A school year known k + (if bI (spS A 1 school (100 * year + k) known) = 0 then 1 else 0)
noncomputable def opS (A : aS) (school year known : Int) : Int := opL A school year known 100
noncomputable def saL (A : aS) (school c year code std known : Int) : Nat → Int
  | 0 => 0
  | k + 1 => saL A school c year code std known k + (if onS A c (100 * year + k) known = school then qtS A c year k 0 code std known + qtS A c year k 1 code std known else 0)
noncomputable def suL (A : aS) (school year code known : Int) : Nat → Int
  | 0 => 0
  | c + 1 => suL A school year code known c + saL A school c year code (stS A c year known) known 100
def puL (A : aS) (school year known : Int) : Nat → Int
  | 0 => 0
  | c + 1 => puL A school year known c + (if onS A c (100 * year + 99) known = school then 1 else 0)
noncomputable def yvS (A : aS) (school c year code known : Int) : Int := if onS A c (100 * year + 99) known = school then yrS A c year code (stS A c year known) known else -1
noncomputable def avS (A : aS) (school year code known : Int) : Int := if opS A school year known = 0 then 0 else Int.tdiv (suL A school year code known (A 91 1).toNat) (4 * opS A school year known)
noncomputable def pfS (A : aS) (school year code known : Int) : Int := if sfS A school year code = -1 then avS A school year code known else min (avS A school year code known) (sfS A school year code)
noncomputable def ghL (A : aS) (year code pf : Int) : Nat → List Ln
  | 0 => []
  | n + 1 => ghL A year code pf n ++ (if grB A (putE zE 3 year) code (n + 1 : Nat) (-2) = true then [(-1, ((n + 1 : Nat) : Int), nuS A code (n + 1 : Nat) * pf)] else [])
noncomputable def gaL (A : aS) (school year code known : Int) : Nat → List Ln
  | 0 => []
  | c + 1 => gaL A school year code known c ++ (if yvS A school c year code known = -1 then [] else gcS A c year code known (yvS A school c year code known))
noncomputable def gbL (A : aS) (school year code known : Int) : List Ln := ghL A year code (pfS A school year code known) 60 ++ gaL A school year code known (A 91 1).toNat
/-- all lines of a grant -/
noncomputable def gtL (A : aS) (school year code known : Int) : List Ln := if lsS A code 7 = -1 then gbL A school year code known else if nuS A code (lsS A code 7) * avS A school year code known < lnSum (gbL A school year code known) then gbL A school year code known ++ [(-1, lsS A code 7, nuS A code (lsS A code 7) * avS A school year code known - lnSum (gbL A school year code known))] else gbL A school year code known
section
variable {d L : Nat} {I I0 : mI} {R : Nat → Nat → Option Nat} {S : List (Nat × Nat)} {Q : Option Value → mM → Prop} {A : aS} {c day known kind half year subj code : Int}
theorem opL_in {school : Int} : ∀ k, 0 ≤ opL A school year known k ∧ opL A school year known k ≤ k
  | 0 => by unfold opL; omega
  | k + 1 => by have := opL_in (school := school) k; unfold opL; split <;> omega
theorem saL_in (hC : WfC A) {school std : Int} : ∀ k, 0 ≤ saL A school c year code std known k ∧ saL A school c year code std known k ≤ 4 * opL A school year known k
  | 0 => by unfold saL opL; omega
  | k + 1 => by
    have h1 := saL_in hC (school := school) (std := std) k
    have h2 := qtS_in hC (y := code) (c := c) (year := year) (d := k) (half := 0) (std := std) (known := known)
    have h3 := qtS_in hC (y := code) (c := c) (year := year) (d := k) (half := 1) (std := std) (known := known)
    unfold saL opL
    split
    · rename_i ho
      split
      · omega
      · rename_i hs
        have hs2 : spS A 1 school (100 * year + k) known = true := by
          cases hb : spS A 1 school (100 * year + k) known
          · rw [hb] at hs; exact absurd rfl hs
          · rfl
        have q : ∀ half, qtS A c year k half code std known = 0 := by
          intro half; unfold qtS; rw [if_pos]; right; rw [ho]; exact hs2
        rw [q, q]; omega
    · split <;> omega
theorem suL_in (hC : WfC A) {school : Int} : ∀ k, 0 ≤ suL A school year code known k ∧ suL A school year code known k ≤ 4 * opS A school year known * k
  | 0 => by unfold suL; omega
  | k + 1 => by
    have h1 := suL_in hC (school := school) k
    have h2 := saL_in hC (c := k) (year := year) (code := code) (known := known) (school := school) (std := stS A k year known) 100
    have h3 : 0 ≤ opS A school year known := (opL_in 100).1
    unfold suL
    have e : 4 * opS A school year known * ((k + 1 : Nat) : Int) = 4 * opS A school year known * k + 4 * opS A school year known := by
      rw [show ((k + 1 : Nat) : Int) = k + 1 by omega, Int.mul_add, Int.mul_one]
    rw [e]
    unfold opS at *
    omega
theorem avS_in (hW : WfA A) (hC : WfC A) {school : Int} : 0 ≤ avS A school year code known ∧ avS A school year code known ≤ 40 := by
  unfold avS
  have h1 := suL_in hC (school := school) (year := year) (code := code) (known := known) (A 91 1).toNat
  have h3 : 0 ≤ opS A school year known ∧ opS A school year known ≤ 100 := opL_in 100
  have hW1 := hW.2.1
  split
  · omega
  · rw [Int.tdiv_eq_ediv_of_nonneg h1.1]
    refine ⟨Int.ediv_nonneg h1.1 (by omega), Int.ediv_le_of_le_mul (by omega) ?_⟩
    refine Int.le_trans h1.2 ?_
    rw [Int.mul_comm]
    exact Int.mul_le_mul_of_nonneg_right (by omega) (by omega)
theorem sfS_in (hC : WfC A) (hT : WfT A) {school : Int} : -1 ≤ sfS A school year code ∧ sfS A school year code ≤ 9999 * 21 := by
  unfold sfS
  have hh := hnL_in (A := A) (school := school) (year := year) (A 91 40).toNat
  have ht := hT.1
  rcases lsS_prop hC (y := code) (kind := 11) with q | ⟨m, s, q1, q2, q3, q4, q5, q6, q7, q8⟩
  · rw [if_pos q]; omega
  · have w := (q6.2.2 q7).1 (by omega)
    rw [q1, if_neg (by omega), ls_nu hC q4]
    have h1 : 0 ≤ A 141 s * hnL A school year (A 91 40).toNat := Int.mul_nonneg w.1 (by omega)
    have h2 : A 141 s * hnL A school year (A 91 40).toNat ≤ 9999 * 21 := Int.mul_le_mul w.2 (by omega) (by omega) (by omega)
    omega
theorem pfS_in (hW : WfA A) (hC : WfC A) (hT : WfT A) {school : Int} : 0 ≤ pfS A school year code known ∧ pfS A school year code known ≤ 40 := by
  unfold pfS
  have h1 := avS_in hW hC (school := school) (year := year) (code := code) (known := known)
  split
  · exact h1
  · rename_i h
    have h2 := sfS_in hC hT (school := school) (year := year) (code := code)
    omega
/-- pence of lines lie within bounds -/
def LnB (l : List Ln) : Prop := ∀ q ∈ l, 0 ≤ q.2.2 ∧ q.2.2 ≤ 399960
theorem LnB.sum : ∀ {l : List Ln}, LnB l → 0 ≤ lnSum l ∧ lnSum l ≤ 399960 * l.length
  | [], _ => by simp [lnSum]
  | q :: l, h => by
    have h1 := LnB.sum (l := l) (fun r hr => h r (List.mem_cons_of_mem _ hr))
    have h2 := h q List.mem_cons_self
    have e : lnSum (q :: l) = q.2.2 + lnSum l := by simp [lnSum]
    rw [e, List.length_cons]
    omega
theorem LnB.app {l l' : List Ln} (h : LnB l) (h' : LnB l') : LnB (l ++ l') := by
  intro q hq
  rcases List.mem_append.mp hq with a | a
  · exact h q a
  · exact h' q a
theorem nu_in (hC : WfC A) {n : Int} {e : Nat → Int} {per : Int} (h : grB A e code n per = true) : 0 ≤ nuS A code n ∧ nuS A code n ≤ 9999 := by
  unfold grB at h
  simp only [Bool.and_eq_true, Bool.not_eq_true', beq_eq_false_iff_ne, beq_iff_eq] at h
  obtain ⟨s, s1, s2, s3, s4, s5, -⟩ := cdS_wf hC h.1
  have e : (cdS A code n).toNat = s := by omega
  unfold nuS
  rw [e]
  have h6 := h.2.1
  rw [e] at h6
  exact (s3.2.2 s5).1 (by omega)
theorem ghL_b (hC : WfC A) {pf : Int} (hpf : 0 ≤ pf ∧ pf ≤ 40) : ∀ n, LnB (ghL A year code pf n) ∧ (ghL A year code pf n).length ≤ n
  | 0 => ⟨fun q hq => (by cases hq), Nat.le_refl _⟩
  | n + 1 => by
    obtain ⟨h1, h2⟩ := ghL_b hC hpf n
    unfold ghL
    by_cases hb : grB A (putE zE 3 year) code (n + 1 : Nat) (-2) = true
    · rw [if_pos hb]
      have hn := nu_in hC hb
      refine ⟨h1.app ?_, by rw [List.length_append, List.length_singleton]; omega⟩
      intro q hq
      rw [List.mem_singleton.mp hq]
      exact ⟨Int.mul_nonneg hn.1 hpf.1, Int.le_trans (Int.mul_le_mul hn.2 hpf.2 hpf.1 (by omega)) (by omega)⟩
    · rw [if_neg hb, List.append_nil]
      exact ⟨h1, by omega⟩
theorem gcO_b (hC : WfC A) {e : Nat → Int} {set n : Int} : LnB (gcO A e c year code known set n) := by
  unfold gcO
  split
  · intro q hq; cases hq
  · rename_i h1
    split
    · intro q hq; cases hq
    · rename_i h2
      obtain ⟨s, s1, s2, s3, s4, s5, -⟩ := cdS_wf hC h1
      have e2 : (cdS A code n).toNat = s := by omega
      rw [e2] at h2 ⊢
      have w := (s3.2.2 s5).1 (by omega)
      have one : LnB [(c, n, A 141 s)] := by intro q hq; rw [List.mem_singleton.mp hq]; dsimp only; omega
      have nil : LnB [] := by intro q hq; cases hq
      refine LnB.app ?_ ?_
      · split; exact one; exact nil
      · split; exact one; exact nil
theorem gcL_b (hC : WfC A) {e : Nat → Int} {set : Int} : ∀ n, LnB (gcL A e c year code known set n)
  | 0 => by intro q hq; cases hq
  | n + 1 => LnB.app (gcL_b hC n) (gcO_b hC)
theorem gaL_b (hC : WfC A) {school : Int} : ∀ n, LnB (gaL A school year code known n) ∧ (gaL A school year code known n).length ≤ 60 * n
  | 0 => ⟨fun q hq => (by cases hq), Nat.le_refl _⟩
  | n + 1 => by
    obtain ⟨h1, h2⟩ := gaL_b hC (school := school) n
    unfold gaL
    split
    · rw [List.append_nil]; exact ⟨h1, by omega⟩
    · have h3 := gcS_len (A := A) (c := n) (year := year) (code := code) (known := known) (q := yvS A school n year code known)
      refine ⟨h1.app ?_, by rw [List.length_append]; omega⟩
      unfold gcS
      split
      · intro q hq; cases hq
      · exact gcL_b hC 60
end
