section
variable {d L : Nat} {I I0 : mI} {R : mR} {S : mSh} {Q : Option Value → mM → Prop} {A : aS} {c day known kind half year subj code : Int}
theorem rsL_succ {k : Nat} : rsL A c year subj known (k + 1) = if A 103 k = 6 ∧ A 104 k = c ∧ A 105 k = year ∧ A 106 k = subj ∧ A 108 k ≤ known ∧ known < A 109 k then A 107 k else rsL A c year subj known k := rfl
theorem rsL_100 (hW : WfA A) : ∀ k, k ≤ nN A → -1 ≤ rsL A c year subj known k ∧ rsL A c year subj known k ≤ 100
  | 0, _ => by show (-1 : Int) ≤ -1 ∧ (-1 : Int) ≤ 100; omega
  | k + 1, h => by
    have ih := rsL_100 hW k (by omega)
    rw [rsL_succ]
    split
    · rename_i q; have := (hW.2.2.2.2 k (by omega)).2.2.2.2.2.2.2.1 q.1; omega
    · exact ih
theorem l143_4 {h : Nat → Int} {kn : Int} (hW : WfA A) (hWC : WfC A) (hcd : 0 ≤ code ∧ code ≤ 7) (h9 : h 9 = 0) (h10 : h 10 = 0) (hK : ∀ I1, Fr [60] [] I0 I1 → EnvC 60 I1 h → (∀ j : Nat, j < 6 → ld I1 61 j = rsS A c year j kn) → Q (some (.int (oI (psL A h c year code kn 6)))) (bd L I1 R S)) : ∀ (n s : Nat) (I : mI) (w1 w2 w4 w5 : Value), s + n = 6 → Fr [60] [] I0 I → RC R S I A → EnvC 60 I h → (∀ j : Nat, j < 6 → ld I 61 j = rsS A c year j kn) → h143_4 (d + 26) L I R S Q w1 w2 code w4 w5 (psL A h c year code kn s) s := by
  intro n
  induction n with
  | zero =>
    intro s I w1 w2 w4 w5 hs hf hC hE hj
    refine e143_4 (d := d) hC ⟨by unfold inR; omega, fun q => by exfalso; omega, fun _ => ?_⟩
    rw [show s = 6 by omega]
    exact hK I hf hE hj
  | succ n ih =>
    intro s I w1 w2 w4 w5 hs hf hC hE hj
    have h6 := hj s (by omega)
    have hr := rsL_100 hW (c := c) (year := year) (subj := (s : Int)) (known := kn) (nN A) (Nat.le_refl _)
    have hr2 : -1 ≤ rsS A c year s kn ∧ rsS A c year s kn ≤ 100 := hr
    refine e143_4 (d := d) hC ?_
    rw [Int.toNat_natCast, h6]
    refine ⟨by unfold inR; omega, fun _ => ⟨by omega, fun q => ?_, fun q => ⟨hWC, by omega, by omega, hcd, h, hE, h9, h10, fun qw I1 f1 e1 => ?_, fun qw I1 f1 e1 => ?_⟩⟩, fun q => by exfalso; omega⟩
    · have := ih (s + 1) I w1 w2 w4 w5 (by omega) hf hC hE hj
      rw [psL_no (fun x => x.1 q)] at this
      exact this
    · have := ih (s + 1) I1 w1 w2 w4 (mNl w5) (by omega) (hf.trans f1) (hC.fr f1 rfl) e1 (fun j hj2 => by rw [f1.ld rfl]; exact hj j hj2)
      rw [psL_yes ⟨q, qw⟩] at this
      exact this
    · have := ih (s + 1) I1 w1 w2 w4 w5 (by omega) (hf.trans f1) (hC.fr f1 rfl) e1 (fun j hj2 => by rw [f1.ld rfl]; exact hj j hj2)
      rw [psL_no (fun x => qw x.2)] at this
      exact this
theorem l143_1 {st kn : Int} (hW : WfA A) (hP : WfP A) (hWC : WfC A) (hc : 0 ≤ c ∧ c < A 91 1) (hy : 0 ≤ year ∧ year ≤ 7) (hcd : 0 ≤ code ∧ code ≤ 7) (hst : inR st) (hkn : 0 ≤ kn ∧ kn ≤ 799) (hK : ∀ I1, Fr [60, 61] [] I0 I1 → EnvC 60 I1 (psE A c year st kn) → (∀ j : Nat, j < 6 → ld I1 61 j = rsS A c year j kn) → Q (some (.int (oI (psS A c year code st kn)))) (bd L I1 R S)) : ∀ (n k : Nat) (x6 : Int) (I : mI) (w7 : Value), k + n = nN A → (n : Int) ≤ x6 ∧ x6 ≤ 850 → Fr [60, 61] [] I0 I → RC R S I A → ld I 59 15 = kn → (∀ j : Nat, j < 6 → ld I 61 j = rsL A c year j kn k) → h143_1 (d + 26) L I R S Q c year code st (fstO A c k) x6 w7 := by
  have hN := hW.2.2.2.1
  unfold WfN at hN
  have h40 := hW.2.1
  have hN2 : (nN A : Int) = A 91 3 := by unfold nN; omega
  have fin : ∀ (I : mI) (w1 w2 w4 w5 : Value), Fr [60, 61] [] I0 I → RC R S I A → (∀ j : Nat, j < 6 → ld I 61 j = rsS A c year j kn) → ∀ I1, Fr [60] [] I I1 → EnvC 60 I1 (psE A c year st kn) → h143_4 (d + 26) L I1 R S Q w1 w2 code w4 w5 0 0 := by
    intro I w1 w2 w4 w5 hf hC hj I1 f1 e1
    refine l143_4 (d := d) (I0 := I1) (c := c) (year := year) (kn := kn) hW hWC hcd rfl rfl (fun I2 f2 e2 h2 => hK I2 (hf.trans ((f1.trans f2).sub rfl rfl)) e2 h2) 6 0 I1 _ _ _ _ rfl (Fr.refl _ _ _) (hC.fr f1 rfl) e1 (fun j hj2 => ?_)
    rw [f1.ld rfl]; exact hj j hj2
  intro n
  induction n with
  | zero =>
    intro k x6 I w7 hk h6 hf hC h15 hj
    rw [show k = nN A by omega] at hj
    rw [show k = nN A by omega, fstO_end]
    refine e143_1 (d := d + 23) hC ?_
    rw [h15]
    exact ⟨by unfold inR; omega, fun _ => ⟨inRd rfl, fun _ => ⟨hW, hP, hc, hy, hst, hkn, fin I _ _ _ _ hf hC hj⟩, fun q => absurd rfl q⟩, fun _ => ⟨hW, hP, hc, hy, hst, hkn, fin I _ _ _ _ hf hC hj⟩⟩
  | succ n ih =>
    intro k x6 I w7 hk h6 hf hC h15 hj
    rw [fstO_step (by omega)]
    by_cases ho : ownN A k = c
    · rw [if_pos ho]
      obtain ⟨k1, k2⟩ := (own_chd hW (by omega) (by omega)).mp ho
      obtain ⟨b1, b2, b3, -, hnx⟩ := hC.2.2.1.1 k (by omega)
      rw [ho] at hnx
      have w6 := (hW.2.2.2.2 k (by omega)).2.2.2.2.2.2.2.1
      have go : ¬ (A 103 k = 6 ∧ A 105 k = year ∧ A 108 k ≤ kn ∧ kn < A 109 k) → h143_1 (d + 26) L I R S Q c year code st (fstO A c (k + 1)) (x6 + -1) w7 := fun q => ih (k + 1) (x6 + -1) I w7 (by omega) (by omega) hf hC h15 (fun j hj2 => by rw [rsL_succ, if_neg (by omega)]; exact hj j hj2)
      refine e143_1 (d := d + 23) hC ?_
      rw [h15, Int.toNat_natCast, hnx, b1, b2, b3]
      refine ⟨by unfold inR; omega, fun _ => ⟨by unfold inR; omega, fun q => by exfalso; omega, fun _ => ⟨by omega, fun q1 => ⟨by unfold inR; omega, fun q2 => ⟨hW, by omega, hkn, fun q3 => ⟨by have := w6 q1; omega, ?_⟩, fun q3 => go (fun h => q3 h.2.2)⟩, fun q2 => go (fun h => q2 ?_)⟩, fun q1 => go (fun h => q1 h.1)⟩⟩, fun q => by exfalso; omega⟩
      · have w6 := w6 q1
        have e1 : frN A k = A 105 k := by unfold frN; rw [if_neg (by omega)]
        have e2 : vlN A k = A 107 k := by unfold vlN; rw [if_neg (by omega), if_pos (by omega)]
        rw [e1] at q2
        rw [e2]
        have r : inR (A 107 k) := by unfold inR; omega
        refine ih (k + 1) (x6 + -1) _ w7 (by omega) (by omega) (hf.wr rfl) (hC.scr rfl) (by rw [ld_o (by decide)]; exact h15) (fun j hj2 => ?_)
        rw [ld_w r, rsL_succ]
        by_cases q : j = (A 106 k).toNat
        · rw [if_pos q, if_pos ⟨q1, k2, q2, by omega, q3⟩]
        · rw [if_neg q, if_neg (by omega)]; exact hj j hj2
      · have e1 : frN A k = A 105 k := by unfold frN; rw [if_neg (by omega)]
        rw [e1]; exact h.2.1
    · rw [if_neg ho]
      exact ih (k + 1) x6 I w7 (by omega) (by omega) hf hC h15 (fun j hj2 => by rw [rsL_succ, if_neg (fun h => ho ((own_chd hW (by omega) (by omega)).mpr ⟨by omega, h.2.1⟩))]; exact hj j hj2)
theorem k143 {st : Int} {K : Int32 → mM → Prop} (hC : RC R S I A) (hW : WfA A) (hP : WfP A) (hWC : WfC A) (hc : 0 ≤ c ∧ c < A 91 1) (hy : 0 ≤ year ∧ year ≤ 7) (hcd : 0 ≤ code ∧ code ≤ 7) (hst : inR st) (hkn : 0 ≤ ld I 59 15 ∧ ld I 59 15 ≤ 799) (hK : ∀ I1, Fr [60, 61] [] I I1 → EnvC 60 I1 (psE A c year st (ld I 59 15)) → (∀ j : Nat, j < 6 → ld I1 61 j = rsS A c year j (ld I 59 15)) → K (oI (psS A c year code st (ld I 59 15))) (bd L I1 R S)) : CallI (d + 26) 143 [.ref 59, .int (oI c), .int (oI year), .int (oI code), .int (oI st)] (bd L I R S) K := by
  have hN := hW.2.2.2.1
  unfold WfN at hN
  have h40 := hW.2.1
  refine e143 (d := d + 25) hC (fun I1 f1 z1 => ⟨by omega, ?_⟩)
  have hhd := ((hC.fr f1 rfl).2.2.1.2 c.toNat (by omega)).1
  rw [hhd, show ((c.toNat : Nat) : Int) = c by omega]
  exact l143_1 (d := d) (I0 := I) hW hP hWC hc hy hcd hst hkn (fun I2 f2 e2 h2 => rqI_of (hK I2 f2 e2 h2)) (nN A) 0 (A 91 3) I1 _ (by omega) (by unfold nN; omega) (f1.sub rfl rfl) (hC.fr f1 rfl) (f1.ld rfl) (fun j hj => z1 j hj)
end
def h142_1 (d L : Nat) (I : Nat → Nat → Int32) (R : Nat → Nat → Option Nat) (S : List (Nat × Nat)) (Q : Option Value → mM → Prop) (x1 : Int) (x2 : Int) (x3 : Int) (x4 : Int) (w5 : Value) : Prop := Wp d (gb 142 1) [.ref 59, .int (oI x1), .int (oI x2), .int (oI x3), .int (oI x4), w5] [] (bd L I R S) Q
set_option maxRecDepth 4000 in
theorem e142_1 {d L : Nat} {I : Nat → Nat → Int32} {R : Nat → Nat → Option Nat} {S : List (Nat × Nat)} {Q : Option Value → mM → Prop} {A : aS} (hC : RC R S I A) {x1 : Int} {x2 : Int} {x3 : Int} {x4 : Int} {w5 : Value} (hE : inR x4 ∧ (inR x2 ∧ (((x2 < x4) → Q (some (.int (oI x3))) (bd L I R S)) ∧ (¬ (x2 < x4) → (0 ≤ x4 ∧ x4 < 8) ∧ ((0 ≤ x1 ∧ x1 < 40) ∧ (((x4 < A 94 x1.toNat) → h142_1 (d + 27) L (u2 I 69 x4.toNat (oI x3)) R S Q x1 x2 x3 (x4 + 1) w5) ∧ (¬ (x4 < A 94 x1.toNat) → ((x4 = x2) → h142_1 (d + 27) L (u2 I 69 x4.toNat (oI x3)) R S Q x1 x2 x3 (x4 + 1) w5) ∧ (¬ (x4 = x2) → inR x3 ∧ (((x3 = 6) → h142_1 (d + 27) L (u2 I 69 x4.toNat (oI x3)) R S Q x1 x2 x3 (x4 + 1) w5) ∧ (¬ (x3 = 6) → WfA A ∧ (WfP A ∧ (WfC A ∧ ((0 ≤ x1 ∧ x1 < A 91 1) ∧ ((0 ≤ x4 ∧ x4 ≤ 7) ∧ ((0 ≤ ld I 59 15 ∧ ld I 59 15 ≤ 799) ∧ (∀ (I16 : mI), (Fr [60, 61] [] (u2 I 69 x4.toNat (oI x3)) I16) → (EnvC 60 I16 (psE A x1 x4 x3 (ld I 59 15))) → (∀ j : Nat, j < 6 → ld I16 61 j = rsS A x1 x4 j (ld I 59 15)) → (0 ≤ psS A x1 x4 x4 x3 (ld I 59 15) ∧ psS A x1 x4 x4 x3 (ld I 59 15) < 1024) ∧ (∃ e21 : Nat → Int, EnvC 60 (u2 I16 60 7 (oI (btS (psS A x1 x4 x4 x3 (ld I 59 15))))) e21 ∧ (inR (btS (psS A x1 x4 x4 x3 (ld I 59 15))) ∧ (inR (tlS A e21 x4 134 1 10000) ∧ (((btS (psS A x1 x4 x4 x3 (ld I 59 15)) < tlS A e21 x4 134 1 10000) → h142_1 (d + 27) L (u2 I16 60 7 (oI (btS (psS A x1 x4 x4 x3 (ld I 59 15))))) R S Q x1 x2 x3 (x4 + 1) (.int (oI (btS (psS A x1 x4 x4 x3 (ld I 59 15)))))) ∧ (¬ (btS (psS A x1 x4 x4 x3 (ld I 59 15)) < tlS A e21 x4 134 1 10000) → h142_1 (d + 27) L (u2 I16 60 7 (oI (btS (psS A x1 x4 x4 x3 (ld I 59 15))))) R S Q x1 x2 (x3 + 1) (x4 + 1) (.int (oI (btS (psS A x1 x4 x4 x3 (ld I 59 15)))))))))))))))))))))))))) : h142_1 (d + 27) L I R S Q x1 x2 x3 x4 w5 := by
  unfold h142_1
  refine xG gb142.2.1 ?_
  refine s4 (x := x4) rfl ?_
  refine s4 (x := x2) rfl ?_
  obtain ⟨g1, hE⟩ := hE
  obtain ⟨g2, hE⟩ := hE
  refine s65 g1 g2 (fun c3 => ?_) (fun c3 => ?_)
  · replace hE := hE.1 c3
    refine xG gb142.2.2.2.2 ?_
    refine s4 (x := x3) rfl ?_
    refine s80 ?_
    exact hE
  · replace hE := hE.2 c3
    refine s6 (p := 59) rfl ?_
    refine s51 sh59 (by decide) (by decide) rf59_12 ?_
    refine s4 (x := x4) rfl ?_
    refine s4 (x := x3) rfl ?_
    obtain ⟨g4, hE⟩ := hE
    refine s44 sh69 (by decide) g4 rfl ?_
    refine s4 (x := x4) rfl ?_
    refine s6 (p := 59) rfl ?_
    refine s51 sh59 (by decide) (by decide) rf59_3 ?_
    refine s51 sh21 (by decide) (by decide) rf21_3 ?_
    refine s4 (x := x1) rfl ?_
    obtain ⟨g5, hE⟩ := hE
    refine s40 (v := A 94 x1.toNat) sh25 g5 rfl ((v2_ne (by decide)).trans (rdC hC.1 rfl)) ?_
    refine s63 g1 (inC hC.1 (a := 25) (k := x1.toNat) rfl) (fun c6 => ?_) (fun c6 => ?_)
    · replace hE := hE.1 c6
      refine xG gb142.2.2.2.1 ?_
      refine s10 (x := x4) (ls' := [.ref 59, .int (oI x1), .int (oI x2), .int (oI x3), .int (oI (x4 + 1)), w5]) rfl rfl ?_
      refine s60 ?_
      exact hE
    · replace hE := hE.2 c6
      refine s4 (x := x4) rfl ?_
      refine s4 (x := x2) rfl ?_
      refine s61 g1 g2 (fun c7 => ?_) (fun c7 => ?_)
      · replace hE := hE.1 c7
        refine xG gb142.2.2.2.1 ?_
        refine s10 (x := x4) (ls' := [.ref 59, .int (oI x1), .int (oI x2), .int (oI x3), .int (oI (x4 + 1)), w5]) rfl rfl ?_
        refine s60 ?_
        exact hE
      · replace hE := hE.2 c7
        refine s4 (x := x3) rfl ?_
        refine s0 ?_
        obtain ⟨g8, hE⟩ := hE
        refine s62 g8 (inRd rfl) (fun c9 => ?_) (fun c9 => ?_)
        · replace hE := hE.1 c9
          refine s60 ?_
          refine xG gb142.2.2.2.1 ?_
          refine s10 (x := x4) (ls' := [.ref 59, .int (oI x1), .int (oI x2), .int (oI x3), .int (oI (x4 + 1)), w5]) rfl rfl ?_
          refine s60 ?_
          exact hE
        · replace hE := hE.2 c9
          refine xG gb142.2.2.1 ?_
          refine s6 (p := 59) rfl ?_
          refine s4 (x := x1) rfl ?_
          refine s4 (x := x4) rfl ?_
          refine s4 (x := x4) rfl ?_
          refine s4 (x := x3) rfl ?_
          obtain ⟨g10, hE⟩ := hE
          obtain ⟨g11, hE⟩ := hE
          obtain ⟨g12, hE⟩ := hE
          obtain ⟨g13, hE⟩ := hE
          obtain ⟨g14, hE⟩ := hE
          obtain ⟨g15, hE⟩ := hE
          refine sI rc143 rfl (Nat.le_of_ble_eq_true rfl) ?_
          refine k143 (RC.scr hC rfl) g10 g11 g12 g13 g14 g14 g8 g15 (fun I16 q17 q18 q19 => ?_)
          replace hE := hE I16 q17 q18 q19
          obtain ⟨g20, hE⟩ := hE
          refine sI rc342 rfl (Nat.le_of_ble_eq_true rfl) ?_
          refine k342 g20 ?_
          refine s7 (ls' := [.ref 59, .int (oI x1), .int (oI x2), .int (oI x3), .int (oI x4), .int (oI (btS (psS A x1 x4 x4 x3 (ld I 59 15))))]) (Nat.le_of_ble_eq_true rfl) rfl ?_
          refine s6 (p := 59) rfl ?_
          refine s51 sh59 (by decide) (by decide) rf59_0 ?_
          refine s0 ?_
          refine s4 (x := btS (psS A x1 x4 x4 x3 (ld I 59 15))) rfl ?_
          refine s44 sh60 (by decide) (⟨by decide, by decide⟩ : (0 : Int) ≤ 7 ∧ (7 : Int) < 12) rfl ?_
          refine s4 (x := btS (psS A x1 x4 x4 x3 (ld I 59 15))) rfl ?_
          refine s6 (p := 59) rfl ?_
          refine s51 sh59 (by decide) (by decide) rf59_4 ?_
          refine s4 (x := x4) rfl ?_
          refine s0 ?_
          refine s0 ?_
          refine s6 (p := 59) rfl ?_
          refine s51 sh59 (by decide) (by decide) rf59_0 ?_
          refine s0 ?_
          obtain ⟨e21, k22, hE⟩ := hE
          refine sI rc97 rfl (Nat.le_of_ble_eq_true rfl) ?_
          refine k97a60 (RC.scr (RC.fr (RC.scr hC rfl) q17 rfl) rfl) g12 k22 g14 (⟨by decide, by decide⟩ : (130 : Int) ≤ 134 ∧ (134 : Int) ≤ 144) (inRd rfl) ?_
          obtain ⟨g23, hE⟩ := hE
          obtain ⟨g24, hE⟩ := hE
          refine s63 g23 g24 (fun c25 => ?_) (fun c25 => ?_)
          · replace hE := hE.1 c25
            refine xG gb142.2.2.2.1 ?_
            refine s10 (x := x4) (ls' := [.ref 59, .int (oI x1), .int (oI x2), .int (oI x3), .int (oI (x4 + 1)), .int (oI (btS (psS A x1 x4 x4 x3 (ld I 59 15))))]) rfl rfl ?_
            refine s60 ?_
            exact hE
          · replace hE := hE.2 c25
            refine s10 (x := x3) (ls' := [.ref 59, .int (oI x1), .int (oI x2), .int (oI (x3 + 1)), .int (oI x4), .int (oI (btS (psS A x1 x4 x4 x3 (ld I 59 15))))]) rfl rfl ?_
            refine s79 ?_
            refine xG gb142.2.2.2.1 ?_
            refine s10 (x := x4) (ls' := [.ref 59, .int (oI x1), .int (oI x2), .int (oI (x3 + 1)), .int (oI (x4 + 1)), .int (oI (btS (psS A x1 x4 x4 x3 (ld I 59 15))))]) rfl rfl ?_
            refine s60 ?_
            exact hE
set_option maxRecDepth 4000 in
theorem e142 {d L : Nat} {I : Nat → Nat → Int32} {R : Nat → Nat → Option Nat} {S : List (Nat × Nat)} {K : Int32 → mM → Prop} {A : aS} (hC : RC R S I A) {x1 : Int} {x2 : Int} (hE : (0 ≤ x1 ∧ x1 < 40) ∧ (h142_1 d L I R S (rqI K) x1 x2 (A 95 x1.toNat) 0 mUn)) : CallI d 142 [.ref 59, .int (oI x1), .int (oI x2)] (bd L I R S) K := by
  refine cI_of (ls := [.ref 59, .int (oI x1), .int (oI x2), mUn, mUn, mUn]) rfl ?_
  refine xG gb142.1 ?_
  refine s6 (p := 59) rfl ?_
  refine s51 sh59 (by decide) (by decide) rf59_3 ?_
  refine s51 sh21 (by decide) (by decide) rf21_2 ?_
  refine s4 (x := x1) rfl ?_
  obtain ⟨g1, hE⟩ := hE
  refine s40 (v := A 95 x1.toNat) sh24 g1 rfl (rdC hC.1 rfl) ?_
  refine s7 (ls' := [.ref 59, .int (oI x1), .int (oI x2), .int (oI (A 95 x1.toNat)), mUn, mUn]) (Nat.le_of_ble_eq_true rfl) rfl ?_
  refine s0 ?_
  refine s7 (ls' := [.ref 59, .int (oI x1), .int (oI x2), .int (oI (A 95 x1.toNat)), .int (oI 0), mUn]) (Nat.le_of_ble_eq_true rfl) rfl ?_
  refine s79 ?_
  exact hE
