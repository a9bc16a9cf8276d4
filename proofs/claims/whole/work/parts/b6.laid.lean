section
variable {d L : Nat} {I I0 : mI} {R : mR} {S : mSh} {Q : Option Value → mM → Prop} {A : aS} {c day known kind half year subj code : Int}
theorem l136_3 {f t kn : Int} (hW : WfA A) (hw : WnOk f t kn) (hc : 0 ≤ c ∧ c < 40) (hK : ∀ I1, Fr [62, 63, 64, 65, 66, 67] [] I0 I1 → RC R S I1 A → LyP A I1 c f t kn → Q none (bd L I1 R S)) : ∀ (n k : Nat) (x3 : Int) (I : mI) (w1 : Value), k + n = nN A → (n : Int) ≤ x3 ∧ x3 ≤ 850 → Fr [62, 63, 64, 65, 66, 67] [] I0 I → RC R S I A → WnP I f t kn → LyK A I c f t kn k → h136_3 (d + 3) L I R S Q w1 (fstO A c k) x3 := by
  have hN := hW.2.2.2.1
  unfold WfN at hN
  have hw2 := hw
  unfold WnOk at hw2
  have hN2 : (nN A : Int) = A 91 3 := by unfold nN; omega
  intro n
  induction n with
  | zero =>
    intro k x3 I w1 hk h6 hf hC hwn hl
    rw [show k = nN A by omega, fstO_end]
    rw [show k = nN A by omega] at hl
    have fin : Q none (bd L I R S) := hK I hf hC (fun i hi => ⟨(hl i hi).1.1, (hl i hi).2⟩)
    exact e136_3 (d := d) hC ⟨by unfold inR; omega, fun _ => ⟨inRd rfl, fun _ => fin, fun c => absurd rfl c⟩, fun _ => fin⟩
  | succ n ih =>
    intro k x3 I w1 hk h6 hf hC hwn hl
    rw [fstO_step (by omega)]
    by_cases ho : ownN A k = c
    · rw [if_pos ho]
      obtain ⟨k1, k2⟩ := (own_chd hW (by omega) hc).mp ho
      have hnx := (hC.2.2.1.1 k (by omega)).2.2.2.2
      rw [ho] at hnx
      refine e136_3 (d := d) hC ?_
      rw [hwn.2.2, Int.toNat_natCast, hnx]
      refine ⟨by unfold inR; omega, fun _ => ⟨by unfold inR; omega, fun c => by exfalso; omega, fun _ => ⟨hW, by omega, by omega, fun q => ⟨c, f, t, kn, k, rfl, hW, hw, hwn, by omega, ⟨k2, k1⟩, q, hl, fun I1 f1 l1 => ⟨by omega, ?_⟩⟩, fun q => ⟨by omega, ?_⟩⟩⟩, fun c => by exfalso; omega⟩
      · have hnx1 := ((hC.fr f1 rfl).2.2.1.1 k (by omega)).2.2.2.2
        rw [ho] at hnx1
        rw [hnx1]
        exact ih (k + 1) (x3 + -1) I1 _ (by omega) (by omega) (hf.trans f1) (hC.fr f1 rfl) ⟨by rw [f1.ld rfl]; exact hwn.1, by rw [f1.ld rfl]; exact hwn.2.1, by rw [f1.ld rfl]; exact hwn.2.2⟩ l1
      · exact ih (k + 1) (x3 + -1) I _ (by omega) (by omega) hf hC hwn (hl.skip (by omega))
    · rw [if_neg ho]
      refine ih (k + 1) x3 I w1 (by omega) (by omega) hf hC hwn (hl.skip (fun hx => ho ((own_chd hW (by omega) hc).mpr ⟨by omega, hx.1⟩)))
theorem l136_1 {f t kn : Int} (hW : WfA A) (hw : WnOk f t kn) (hc : 0 ≤ c ∧ c < 40) (hK : ∀ I1, Fr [62, 63, 64, 65, 66, 67] [] I0 I1 → RC R S I1 A → LyP A I1 c f t kn → Q none (bd L I1 R S)) : ∀ (n k : Nat) (I : mI) (w1 w3 : Value), (k : Int) + n = t - f + 1 → Fr [62, 63, 64, 65, 66, 67] [] I0 I → RC R S I A → WnP I f t kn → ld I 59 16 = c → (∀ i : Nat, i < k → (ld I 62 i = -1 ∧ ld I 63 i = -1) ∧ ld I 65 i = 0 ∧ (ld I 66 i = 0 ∧ ld I 67 i = 0) ∧ (ld I 64 (2 * i) = 0 ∧ ld I 64 (2 * i + 1) = 0)) → h136_1 (d + 3) L I R S Q w1 k w3 := by
  have hw2 := hw
  unfold WnOk at hw2
  have hN := hW.2.2.2.1
  unfold WfN at hN
  intro n
  induction n with
  | zero =>
    intro k I w1 w3 hk hf hC hwn h16 hz
    have hhd := (hC.2.2.1.2 c.toNat (by omega)).1
    refine e136_1 (d := d + 2) hC ?_
    rw [hwn.1, hwn.2.1, h16, hhd, show ((c.toNat : Nat) : Int) = c by omega]
    refine ⟨by unfold inR; omega, by unfold inR; omega, fun _ => ⟨by omega, ?_⟩, fun c => by exfalso; omega⟩
    exact l136_3 (d := d) (I0 := I0) hW hw hc hK (nN A) 0 (A 91 3) I _ (by omega) (by unfold nN; omega) hf hC hwn (fun i hi => hz i (by omega))
  | succ n ih =>
    intro k I w1 w3 hk hf hC hwn h16 hz
    refine e136_1 (d := d + 2) hC ?_
    rw [hwn.1, hwn.2.1]
    refine ⟨by unfold inR; omega, by unfold inR; omega, fun c => by exfalso; omega, fun _ => ⟨by omega, by omega, by omega, ?_⟩⟩
    rw [Int.toNat_natCast, show (2 * (k : Int)).toNat = 2 * k by omega, show (2 * (k : Int) + 1).toNat = 2 * k + 1 by omega]
    have r1 : inR (-1) := inRd rfl
    have r0 : inR 0 := inRd rfl
    refine ih (k + 1) _ _ _ (by omega) (((((((hf.wr rfl).wr rfl).wr rfl).wr rfl).wr rfl).wr rfl).wr rfl) (((((((hC.scr rfl).scr rfl).scr rfl).scr rfl).scr rfl).scr rfl).scr rfl) ?_ ?_ (fun i hi => ?_)
    · refine ⟨?_, ?_, ?_⟩ <;> (repeat rw [ld_o (by decide)])
      · exact hwn.1
      · exact hwn.2.1
      · exact hwn.2.2
    · repeat rw [ld_o (by decide)]
      exact h16
    · rw [ld_o (a := 67) (b := 62) (by decide), ld_o (a := 66) (b := 62) (by decide), ld_o (a := 65) (b := 62) (by decide), ld_o (a := 64) (b := 62) (by decide), ld_o (a := 64) (b := 62) (by decide), ld_o (a := 63) (b := 62) (by decide), ld_w r1]
      rw [ld_o (a := 67) (b := 63) (by decide), ld_o (a := 66) (b := 63) (by decide), ld_o (a := 65) (b := 63) (by decide), ld_o (a := 64) (b := 63) (by decide), ld_o (a := 64) (b := 63) (by decide), ld_w r1, ld_o (a := 62) (b := 63) (by decide)]
      rw [ld_o (a := 67) (b := 65) (by decide), ld_o (a := 66) (b := 65) (by decide), ld_w r0, ld_o (a := 64) (b := 65) (by decide), ld_o (a := 64) (b := 65) (by decide), ld_o (a := 63) (b := 65) (by decide), ld_o (a := 62) (b := 65) (by decide)]
      rw [ld_o (a := 67) (b := 66) (by decide), ld_w r0, ld_o (a := 65) (b := 66) (by decide), ld_o (a := 64) (b := 66) (by decide), ld_o (a := 64) (b := 66) (by decide), ld_o (a := 63) (b := 66) (by decide), ld_o (a := 62) (b := 66) (by decide)]
      rw [ld_w (a := 67) r0, ld_o (a := 66) (b := 67) (by decide), ld_o (a := 65) (b := 67) (by decide), ld_o (a := 64) (b := 67) (by decide), ld_o (a := 64) (b := 67) (by decide), ld_o (a := 63) (b := 67) (by decide), ld_o (a := 62) (b := 67) (by decide)]
      rw [ld_o (a := 67) (b := 64) (by decide), ld_o (a := 66) (b := 64) (by decide), ld_o (a := 65) (b := 64) (by decide), ld_w r0, ld_w r0, ld_o (a := 63) (b := 64) (by decide), ld_o (a := 62) (b := 64) (by decide)]
      rw [ld_o (a := 67) (b := 64) (by decide), ld_o (a := 66) (b := 64) (by decide), ld_o (a := 65) (b := 64) (by decide), ld_w r0, ld_w r0, ld_o (a := 63) (b := 64) (by decide), ld_o (a := 62) (b := 64) (by decide)]
      by_cases q : i = k
      · subst q
        rw [if_pos rfl, if_pos rfl, if_pos rfl, if_pos rfl, if_pos rfl, if_neg (by omega), if_pos rfl, if_pos rfl]
        exact ⟨⟨rfl, rfl⟩, rfl, ⟨rfl, rfl⟩, rfl, rfl⟩
      · rw [if_neg q, if_neg q, if_neg q, if_neg q, if_neg q, if_neg (by omega), if_neg (by omega), if_neg (by omega), if_neg (by omega)]
        exact hz i (by omega)
theorem k136 {f t kn : Int} {K : mM → Prop} (hC : RC R S I A) (hw : WnOk f t kn) (hwn : WnP I f t kn) (hW : WfA A) (hc : 0 ≤ c ∧ c < A 91 1) (hK : ∀ I1, Fr [62, 63, 64, 65, 66, 67] [(59, 16)] I I1 → ld I1 59 16 = c → LyP A I1 c f t kn → K (bd L I1 R S)) : CallV (d + 3) 136 [.ref 59, .int (oI c)] (bd L I R S) K := by
  have hw2 := hw
  unfold WnOk at hw2
  have h1 := hW.2.1
  have r : inR c := by unfold inR; omega
  have e16 : ld (u2 I 59 16 (oI c)) 59 16 = c := by rw [ld_w r, if_pos rfl]
  refine e136 (d := d + 3) hC ?_
  refine l136_1 (d := d) (I0 := u2 I 59 16 (oI c)) hW hw (by omega) (fun I1 f1 hC1 hl => rqV_of (hK I1 ?_ ?_ hl)) (t - f + 1).toNat 0 _ _ _ (by omega) (Fr.refl _ _ _) (hC.scr rfl) ⟨?_, ?_, ?_⟩ e16 (fun i hi => by omega)
  · exact Fr.trans ((Fr.refl _ _ _).wr rfl) (f1.sub rfl rfl)
  · rw [f1.ld rfl]; exact e16
  · rw [ld_w r, if_neg (by decide)]; exact hwn.1
  · rw [ld_w r, if_neg (by decide)]; exact hwn.2.1
  · rw [ld_w r, if_neg (by decide)]; exact hwn.2.2
end
def h145_1 (d L : Nat) (I : Nat → Nat → Int32) (R : Nat → Nat → Option Nat) (S : List (Nat × Nat)) (Q : Option Value → mM → Prop) (w1 : Value) (x2 : Int) (x3 : Int) (x4 : Int) (x5 : Int) : Prop := Wp d (gb 145 1) [.ref 59, w1, .int (oI x2), .int (oI x3), .int (oI x4), .int (oI x5)] [] (bd L I R S) Q
set_option maxRecDepth 4000 in
theorem e145_1 {d L : Nat} {I : Nat → Nat → Int32} {R : Nat → Nat → Option Nat} {S : List (Nat × Nat)} {Q : Option Value → mM → Prop} {A : aS} (hC : RC R S I A) {w1 : Value} {x2 : Int} {x3 : Int} {x4 : Int} {x5 : Int} (hE : inR x5 ∧ (((0 < x5) → inR x4 ∧ (((x4 = (-1)) → Q (some (.int (oI 0))) (bd L I R S)) ∧ (¬ (x4 = (-1)) → (0 ≤ x4 ∧ x4 < 850) ∧ (inR x2 ∧ (((A 103 x4.toNat = x2) → inR x3 ∧ (((ld I 33 x4.toNat ≤ x3 ∧ x3 ≤ ld I 34 x4.toNat) → WfA A ∧ ((0 ≤ x4 ∧ x4 < A 91 3) ∧ ((0 ≤ ld I 59 15 ∧ ld I 59 15 ≤ 799) ∧ (((A 108 x4.toNat ≤ ld I 59 15 ∧ ld I 59 15 < A 109 x4.toNat) → Q (some (.int (oI 1))) (bd L I R S)) ∧ (¬ (A 108 x4.toNat ≤ ld I 59 15 ∧ ld I 59 15 < A 109 x4.toNat) → h145_1 (d + 1) L I R S Q w1 x2 x3 (ld I 39 x4.toNat) (x5 + (-1))))))) ∧ (¬ (ld I 33 x4.toNat ≤ x3 ∧ x3 ≤ ld I 34 x4.toNat) → h145_1 (d + 1) L I R S Q w1 x2 x3 (ld I 39 x4.toNat) (x5 + (-1))))) ∧ (¬ (A 103 x4.toNat = x2) → h145_1 (d + 1) L I R S Q w1 x2 x3 (ld I 39 x4.toNat) (x5 + (-1)))))))) ∧ (¬ (0 < x5) → Q (some (.int (oI 0))) (bd L I R S)))) : h145_1 (d + 1) L I R S Q w1 x2 x3 x4 x5 := by
  unfold h145_1
  refine xG gb145.2.1 ?_
  refine s4 (x := x5) rfl ?_
  obtain ⟨g1, hE⟩ := hE
  refine s72 g1 (fun c2 => ?_) (fun c2 => ?_)
  · replace hE := hE.1 c2
    refine s4 (x := x4) rfl ?_
    refine s0 ?_
    obtain ⟨g3, hE⟩ := hE
    refine s61 g3 (inRd rfl) (fun c4 => ?_) (fun c4 => ?_)
    · replace hE := hE.1 c4
      refine xG gb145.2.2.2 ?_
      refine s0 ?_
      refine s84 (by decide) ?_
      exact hE
    · replace hE := hE.2 c4
      refine s6 (p := 59) rfl ?_
      refine s51 sh59 (by decide) (by decide) rf59_2 ?_
      refine s51 sh31 (by decide) (by decide) rf31_0 ?_
      refine s4 (x := x4) rfl ?_
      obtain ⟨g5, hE⟩ := hE
      refine s40 (v := A 103 x4.toNat) sh32 g5 rfl (rdC hC.1 rfl) ?_
      refine s4 (x := x2) rfl ?_
      obtain ⟨g6, hE⟩ := hE
      refine s62 (inC hC.1 (a := 32) (k := x4.toNat) rfl) g6 (fun c7 => ?_) (fun c7 => ?_)
      · replace hE := hE.1 c7
        refine s4 (x := x3) rfl ?_
        refine s6 (p := 59) rfl ?_
        refine s51 sh59 (by decide) (by decide) rf59_2 ?_
        refine s51 sh31 (by decide) (by decide) rf31_1 ?_
        refine s4 (x := x4) rfl ?_
        refine s40 (v := ld I 33 x4.toNat) sh33 g5 rfl (oI_ld _ _ _) ?_
        refine s6 (p := 59) rfl ?_
        refine s51 sh59 (by decide) (by decide) rf59_2 ?_
        refine s51 sh31 (by decide) (by decide) rf31_2 ?_
        refine s4 (x := x4) rfl ?_
        refine s40 (v := ld I 34 x4.toNat) sh34 g5 rfl (oI_ld _ _ _) ?_
        obtain ⟨g8, hE⟩ := hE
        refine sI rc3 rfl (Nat.le_of_ble_eq_true rfl) ?_
        refine k3 g8 (ld_inR _ _ _) (ld_inR _ _ _) (fun c9 => ?_) (fun c9 => ?_)
        · replace hE := hE.1 c9
          refine s67 (inRd rfl) (fun c10 => absurd c10 (by decide)) (fun _ => ?_)
          refine s6 (p := 59) rfl ?_
          refine s51 sh59 (by decide) (by decide) rf59_2 ?_
          refine s4 (x := x4) rfl ?_
          refine s6 (p := 59) rfl ?_
          refine s50 (v := ld I 59 15) sh59 (by decide) (by decide) (oI_ld _ _ _) ?_
          obtain ⟨g11, hE⟩ := hE
          obtain ⟨g12, hE⟩ := hE
          obtain ⟨g13, hE⟩ := hE
          refine sI rc88 rfl (Nat.le_of_ble_eq_true rfl) ?_
          refine k88 hC g11 g12 g13 (fun c14 => ?_) (fun c14 => ?_)
          · replace hE := hE.1 c14
            refine s67 (inRd rfl) (fun c15 => absurd c15 (by decide)) (fun _ => ?_)
            refine s0 ?_
            refine s84 (by decide) ?_
            exact hE
          · replace hE := hE.2 c14
            refine s67 (inRd rfl) (fun _ => ?_) (fun c16 => absurd (by decide) c16)
            refine xG gb145.2.2.1 ?_
            refine s6 (p := 59) rfl ?_
            refine s51 sh59 (by decide) (by decide) rf59_2 ?_
            refine s4 (x := x4) rfl ?_
            refine sI rc89 rfl (Nat.le_of_ble_eq_true rfl) ?_
            refine cI_of (ls := [.ref 31, .int (oI x4)]) rfl ?_
            refine xG gb89 ?_
            refine s6 (p := 31) rfl ?_
            refine s51 sh31 (by decide) (by decide) rf31_7 ?_
            refine s4 (x := x4) rfl ?_
            refine s40 (v := ld I 39 x4.toNat) sh39 g5 rfl (oI_ld _ _ _) ?_
            refine s80 ?_
            refine rqI_of ?_
            refine s7 (ls' := [.ref 59, w1, .int (oI x2), .int (oI x3), .int (oI (ld I 39 x4.toNat)), .int (oI x5)]) (Nat.le_of_ble_eq_true rfl) rfl ?_
            refine s10 (x := x5) (ls' := [.ref 59, w1, .int (oI x2), .int (oI x3), .int (oI (ld I 39 x4.toNat)), .int (oI (x5 + (-1)))]) rfl rfl ?_
            refine s60 ?_
            exact hE
        · replace hE := hE.2 c9
          refine s67 (inRd rfl) (fun _ => ?_) (fun c17 => absurd (by decide) c17)
          refine xG gb145.2.2.1 ?_
          refine s6 (p := 59) rfl ?_
          refine s51 sh59 (by decide) (by decide) rf59_2 ?_
          refine s4 (x := x4) rfl ?_
          refine sI rc89 rfl (Nat.le_of_ble_eq_true rfl) ?_
          refine cI_of (ls := [.ref 31, .int (oI x4)]) rfl ?_
          refine xG gb89 ?_
          refine s6 (p := 31) rfl ?_
          refine s51 sh31 (by decide) (by decide) rf31_7 ?_
          refine s4 (x := x4) rfl ?_
          refine s40 (v := ld I 39 x4.toNat) sh39 g5 rfl (oI_ld _ _ _) ?_
          refine s80 ?_
          refine rqI_of ?_
          refine s7 (ls' := [.ref 59, w1, .int (oI x2), .int (oI x3), .int (oI (ld I 39 x4.toNat)), .int (oI x5)]) (Nat.le_of_ble_eq_true rfl) rfl ?_
          refine s10 (x := x5) (ls' := [.ref 59, w1, .int (oI x2), .int (oI x3), .int (oI (ld I 39 x4.toNat)), .int (oI (x5 + (-1)))]) rfl rfl ?_
          refine s60 ?_
          exact hE
      · replace hE := hE.2 c7
        refine xG gb145.2.2.1 ?_
        refine s6 (p := 59) rfl ?_
        refine s51 sh59 (by decide) (by decide) rf59_2 ?_
        refine s4 (x := x4) rfl ?_
        refine sI rc89 rfl (Nat.le_of_ble_eq_true rfl) ?_
        refine cI_of (ls := [.ref 31, .int (oI x4)]) rfl ?_
        refine xG gb89 ?_
        refine s6 (p := 31) rfl ?_
        refine s51 sh31 (by decide) (by decide) rf31_7 ?_
        refine s4 (x := x4) rfl ?_
        refine s40 (v := ld I 39 x4.toNat) sh39 g5 rfl (oI_ld _ _ _) ?_
        refine s80 ?_
        refine rqI_of ?_
        refine s7 (ls' := [.ref 59, w1, .int (oI x2), .int (oI x3), .int (oI (ld I 39 x4.toNat)), .int (oI x5)]) (Nat.le_of_ble_eq_true rfl) rfl ?_
        refine s10 (x := x5) (ls' := [.ref 59, w1, .int (oI x2), .int (oI x3), .int (oI (ld I 39 x4.toNat)), .int (oI (x5 + (-1)))]) rfl rfl ?_
        refine s60 ?_
        exact hE
  · replace hE := hE.2 c2
    refine xG gb145.2.2.2 ?_
    refine s0 ?_
    refine s84 (by decide) ?_
    exact hE
set_option maxRecDepth 4000 in
theorem e145 {d L : Nat} {I : Nat → Nat → Int32} {R : Nat → Nat → Option Nat} {S : List (Nat × Nat)} {K : Int32 → mM → Prop} {A : aS} (hC : RC R S I A) {x1 : Int} {x2 : Int} {x3 : Int} (hE : (0 ≤ x1 ∧ x1 < 46) ∧ (h145_1 (d + 1) L I R S (rqI K) (.int (oI x1)) x2 x3 (ld I 40 x1.toNat) (A 91 3))) : CallI (d + 1) 145 [.ref 59, .int (oI x1), .int (oI x2), .int (oI x3)] (bd L I R S) K := by
  refine cI_of (ls := [.ref 59, .int (oI x1), .int (oI x2), .int (oI x3), mUn, mUn]) rfl ?_
  refine xG gb145.1 ?_
  refine s6 (p := 59) rfl ?_
  refine s51 sh59 (by decide) (by decide) rf59_2 ?_
  refine s4 (x := x1) rfl ?_
  refine sI rc90 rfl (Nat.le_of_ble_eq_true rfl) ?_
  refine cI_of (ls := [.ref 31, .int (oI x1)]) rfl ?_
  refine xG gb90 ?_
  refine s6 (p := 31) rfl ?_
  refine s51 sh31 (by decide) (by decide) rf31_8 ?_
  refine s4 (x := x1) rfl ?_
  obtain ⟨g1, hE⟩ := hE
  refine s40 (v := ld I 40 x1.toNat) sh40 g1 rfl (oI_ld _ _ _) ?_
  refine s80 ?_
  refine rqI_of ?_
  refine s7 (ls' := [.ref 59, .int (oI x1), .int (oI x2), .int (oI x3), .int (oI (ld I 40 x1.toNat)), mUn]) (Nat.le_of_ble_eq_true rfl) rfl ?_
  refine s6 (p := 59) rfl ?_
  refine s51 sh59 (by decide) (by decide) rf59_2 ?_
  refine s50 (v := A 91 3) sh31 (by decide) (by decide) (rdC hC.1 rfl) ?_
  refine s7 (ls' := [.ref 59, .int (oI x1), .int (oI x2), .int (oI x3), .int (oI (ld I 40 x1.toNat)), .int (oI (A 91 3))]) (Nat.le_of_ble_eq_true rfl) rfl ?_
  refine s79 ?_
  exact hE
