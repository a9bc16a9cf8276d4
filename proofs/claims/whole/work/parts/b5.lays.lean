def h138_1 (d L : Nat) (I : Nat → Nat → Int32) (R : Nat → Nat → Option Nat) (S : List (Nat × Nat)) (Q : Option Value → mM → Prop) (x1 : Int) (x2 : Int) (x3 : Int) : Prop := Wp d (gb 138 1) [.ref 59, .int (oI x1), .int (oI x2), .int (oI x3)] [] (bd L I R S) Q
set_option maxRecDepth 4000 in
theorem e138_1 {d L : Nat} {I : Nat → Nat → Int32} {R : Nat → Nat → Option Nat} {S : List (Nat × Nat)} {Q : Option Value → mM → Prop} {A : aS} (hC : RC R S I A) {x1 : Int} {x2 : Int} {x3 : Int} (hE : inR x3 ∧ (((ld I 59 14 < x3) → Q none (bd L I R S)) ∧ (¬ (ld I 59 14 < x3) → (0 ≤ x3 - (ld I 59 13) ∧ x3 - (ld I 59 13) < 100) ∧ (inR x2 ∧ (((x2 < ld I 63 (x3 - (ld I 59 13)).toNat) → h138_1 d L I R S Q x1 x2 (x3 + 1)) ∧ (¬ (x2 < ld I 63 (x3 - (ld I 59 13)).toNat) → (0 ≤ x1 ∧ x1 < 850) ∧ (h138_1 d L (u2 (u2 I 63 (x3 - (ld I 59 13)).toNat (oI x2)) 62 (x3 - (ld I 59 13)).toNat (oI (ld I 35 x1.toNat))) R S Q x1 x2 (x3 + 1)))))))) : h138_1 d L I R S Q x1 x2 x3 := by
  unfold h138_1
  refine xG gb138.2.1 ?_
  refine s4 (x := x3) rfl ?_
  refine s6 (p := 59) rfl ?_
  refine s50 (v := ld I 59 14) sh59 (by decide) (by decide) (oI_ld _ _ _) ?_
  obtain ⟨g1, hE⟩ := hE
  refine s65 g1 (ld_inR _ _ _) (fun c2 => ?_) (fun c2 => ?_)
  · replace hE := hE.1 c2
    refine xG gb138.2.2.2 ?_
    refine s83 ?_
    exact hE
  · replace hE := hE.2 c2
    refine s6 (p := 59) rfl ?_
    refine s51 sh59 (by decide) (by decide) rf59_6 ?_
    refine s4 (x := x3) rfl ?_
    refine s6 (p := 59) rfl ?_
    refine s50 (v := ld I 59 13) sh59 (by decide) (by decide) (oI_ld _ _ _) ?_
    refine s17 ?_
    obtain ⟨g3, hE⟩ := hE
    refine s40 (v := ld I 63 (x3 - (ld I 59 13)).toNat) sh63 g3 rfl (oI_ld _ _ _) ?_
    refine s4 (x := x2) rfl ?_
    obtain ⟨g4, hE⟩ := hE
    refine s65 (ld_inR _ _ _) g4 (fun c5 => ?_) (fun c5 => ?_)
    · replace hE := hE.1 c5
      refine xG gb138.2.2.1 ?_
      refine s10 (x := x3) (ls' := [.ref 59, .int (oI x1), .int (oI x2), .int (oI (x3 + 1))]) rfl rfl ?_
      refine s60 ?_
      exact hE
    · replace hE := hE.2 c5
      refine s6 (p := 59) rfl ?_
      refine s51 sh59 (by decide) (by decide) rf59_6 ?_
      refine s4 (x := x3) rfl ?_
      refine s6 (p := 59) rfl ?_
      refine s50 (v := ld I 59 13) sh59 (by decide) (by decide) (oI_ld _ _ _) ?_
      refine s17 ?_
      refine s4 (x := x2) rfl ?_
      refine s44 sh63 (by decide) g3 rfl ?_
      refine s6 (p := 59) rfl ?_
      refine s51 sh59 (by decide) (by decide) rf59_5 ?_
      refine s4 (x := x3) rfl ?_
      refine s6 (p := 59) rfl ?_
      refine s50 (v := ld I 59 13) sh59 (by decide) (by decide) ((v2_ne (by decide)).trans (oI_ld _ _ _)) ?_
      refine s17 ?_
      refine s6 (p := 59) rfl ?_
      refine s51 sh59 (by decide) (by decide) rf59_2 ?_
      refine s51 sh31 (by decide) (by decide) rf31_3 ?_
      refine s4 (x := x1) rfl ?_
      obtain ⟨g6, hE⟩ := hE
      refine s40 (v := ld I 35 x1.toNat) sh35 g6 rfl ((v2_ne (by decide)).trans (oI_ld _ _ _)) ?_
      refine s44 sh62 (by decide) g3 rfl ?_
      refine s79 ?_
      refine xG gb138.2.2.1 ?_
      refine s10 (x := x3) (ls' := [.ref 59, .int (oI x1), .int (oI x2), .int (oI (x3 + 1))]) rfl rfl ?_
      refine s60 ?_
      exact hE
set_option maxRecDepth 4000 in
theorem e138 {d L : Nat} {I : Nat → Nat → Int32} {R : Nat → Nat → Option Nat} {S : List (Nat × Nat)} {K : mM → Prop} {A : aS} (hC : RC R S I A) {x1 : Int} (hE : (0 ≤ x1 ∧ x1 < 850) ∧ (h138_1 (d + 1) L I R S (rqV K) x1 (ld I 33 x1.toNat) (max (ld I 59 13) (ld I 33 x1.toNat)))) : CallV (d + 1) 138 [.ref 59, .int (oI x1)] (bd L I R S) K := by
  refine cV_of (ls := [.ref 59, .int (oI x1), mUn, mUn]) rfl ?_
  refine xG gb138.1 ?_
  refine s6 (p := 59) rfl ?_
  refine s51 sh59 (by decide) (by decide) rf59_2 ?_
  refine s51 sh31 (by decide) (by decide) rf31_1 ?_
  refine s4 (x := x1) rfl ?_
  obtain ⟨g1, hE⟩ := hE
  refine s40 (v := ld I 33 x1.toNat) sh33 g1 rfl (oI_ld _ _ _) ?_
  refine s7 (ls' := [.ref 59, .int (oI x1), .int (oI (ld I 33 x1.toNat)), mUn]) (Nat.le_of_ble_eq_true rfl) rfl ?_
  refine s6 (p := 59) rfl ?_
  refine s50 (v := ld I 59 13) sh59 (by decide) (by decide) (oI_ld _ _ _) ?_
  refine s4 (x := ld I 33 x1.toNat) rfl ?_
  refine sI rc346 rfl (Nat.le_of_ble_eq_true rfl) ?_
  refine k346 (ld_inR _ _ _) (ld_inR _ _ _) ?_
  refine s7 (ls' := [.ref 59, .int (oI x1), .int (oI (ld I 33 x1.toNat)), .int (oI (max (ld I 59 13) (ld I 33 x1.toNat)))]) (Nat.le_of_ble_eq_true rfl) rfl ?_
  refine s79 ?_
  exact hE
def h139_1 (d L : Nat) (I : Nat → Nat → Int32) (R : Nat → Nat → Option Nat) (S : List (Nat × Nat)) (Q : Option Value → mM → Prop) (x1 : Int) (x2 : Int) (x3 : Int) : Prop := Wp d (gb 139 1) [.ref 59, .int (oI x1), .int (oI x2), .int (oI x3)] [] (bd L I R S) Q
set_option maxRecDepth 4000 in
theorem e139_1 {d L : Nat} {I : Nat → Nat → Int32} {R : Nat → Nat → Option Nat} {S : List (Nat × Nat)} {Q : Option Value → mM → Prop} {A : aS} (hC : RC R S I A) {x1 : Int} {x2 : Int} {x3 : Int} (hE : inR x3 ∧ (inR x2 ∧ (((x2 < x3) → Q none (bd L I R S)) ∧ (¬ (x2 < x3) → (0 ≤ x1 ∧ x1 < 850) ∧ ((0 ≤ x3 - ((ld I 59 13) * 2) ∧ x3 - ((ld I 59 13) * 2) < 200) ∧ (h139_1 d L (u2 I 64 (x3 - ((ld I 59 13) * 2)).toNat (oI (ld I 35 x1.toNat))) R S Q x1 x2 (x3 + 1))))))) : h139_1 d L I R S Q x1 x2 x3 := by
  unfold h139_1
  refine xG gb139.2.1 ?_
  refine s4 (x := x3) rfl ?_
  refine s4 (x := x2) rfl ?_
  obtain ⟨g1, hE⟩ := hE
  obtain ⟨g2, hE⟩ := hE
  refine s65 g1 g2 (fun c3 => ?_) (fun c3 => ?_)
  · replace hE := hE.1 c3
    refine xG gb139.2.2 ?_
    refine s83 ?_
    exact hE
  · replace hE := hE.2 c3
    refine s6 (p := 59) rfl ?_
    refine s51 sh59 (by decide) (by decide) rf59_7 ?_
    refine s4 (x := x3) rfl ?_
    refine s6 (p := 59) rfl ?_
    refine s50 (v := ld I 59 13) sh59 (by decide) (by decide) (oI_ld _ _ _) ?_
    refine s0 ?_
    refine s18 ?_
    refine s17 ?_
    refine s6 (p := 59) rfl ?_
    refine s51 sh59 (by decide) (by decide) rf59_2 ?_
    refine s51 sh31 (by decide) (by decide) rf31_3 ?_
    refine s4 (x := x1) rfl ?_
    obtain ⟨g4, hE⟩ := hE
    refine s40 (v := ld I 35 x1.toNat) sh35 g4 rfl (oI_ld _ _ _) ?_
    obtain ⟨g5, hE⟩ := hE
    refine s44 sh64 (by decide) g5 rfl ?_
    refine s10 (x := x3) (ls' := [.ref 59, .int (oI x1), .int (oI x2), .int (oI (x3 + 1))]) rfl rfl ?_
    refine s60 ?_
    exact hE
set_option maxRecDepth 4000 in
theorem e139 {d L : Nat} {I : Nat → Nat → Int32} {R : Nat → Nat → Option Nat} {S : List (Nat × Nat)} {K : mM → Prop} {A : aS} (hC : RC R S I A) {x1 : Int} (hE : (0 ≤ x1 ∧ x1 < 850) ∧ (inR (((ld I 59 14) * 2) + 1) ∧ (inR ((ld I 59 13) * 2) ∧ (h139_1 (d + 1) L I R S (rqV K) x1 (min (((ld I 59 14) * 2) + 1) (ld I 34 x1.toNat)) (max ((ld I 59 13) * 2) (ld I 33 x1.toNat)))))) : CallV (d + 1) 139 [.ref 59, .int (oI x1)] (bd L I R S) K := by
  refine cV_of (ls := [.ref 59, .int (oI x1), mUn, mUn]) rfl ?_
  refine xG gb139.1 ?_
  refine s6 (p := 59) rfl ?_
  refine s50 (v := ld I 59 14) sh59 (by decide) (by decide) (oI_ld _ _ _) ?_
  refine s0 ?_
  refine s18 ?_
  refine s0 ?_
  refine s16 ?_
  refine s6 (p := 59) rfl ?_
  refine s51 sh59 (by decide) (by decide) rf59_2 ?_
  refine s51 sh31 (by decide) (by decide) rf31_2 ?_
  refine s4 (x := x1) rfl ?_
  obtain ⟨g1, hE⟩ := hE
  refine s40 (v := ld I 34 x1.toNat) sh34 g1 rfl (oI_ld _ _ _) ?_
  obtain ⟨g2, hE⟩ := hE
  refine sI rc345 rfl (Nat.le_of_ble_eq_true rfl) ?_
  refine k345 g2 (ld_inR _ _ _) ?_
  refine s7 (ls' := [.ref 59, .int (oI x1), .int (oI (min (((ld I 59 14) * 2) + 1) (ld I 34 x1.toNat))), mUn]) (Nat.le_of_ble_eq_true rfl) rfl ?_
  refine s6 (p := 59) rfl ?_
  refine s50 (v := ld I 59 13) sh59 (by decide) (by decide) (oI_ld _ _ _) ?_
  refine s0 ?_
  refine s18 ?_
  refine s6 (p := 59) rfl ?_
  refine s51 sh59 (by decide) (by decide) rf59_2 ?_
  refine s51 sh31 (by decide) (by decide) rf31_1 ?_
  refine s4 (x := x1) rfl ?_
  refine s40 (v := ld I 33 x1.toNat) sh33 g1 rfl (oI_ld _ _ _) ?_
  obtain ⟨g3, hE⟩ := hE
  refine sI rc346 rfl (Nat.le_of_ble_eq_true rfl) ?_
  refine k346 g3 (ld_inR _ _ _) ?_
  refine s7 (ls' := [.ref 59, .int (oI x1), .int (oI (min (((ld I 59 14) * 2) + 1) (ld I 34 x1.toNat))), .int (oI (max ((ld I 59 13) * 2) (ld I 33 x1.toNat)))]) (Nat.le_of_ble_eq_true rfl) rfl ?_
  refine s79 ?_
  exact hE
section
variable {d L : Nat} {I I0 : mI} {R : mR} {S : mSh} {Q : Option Value → mM → Prop} {A : aS} {c day known kind half year subj code : Int}
theorem l138 {f t lo : Int} {n : Nat} (hf : 0 ≤ f) (ht : t ≤ 799 ∧ t ≤ f + 99) (hlo : f ≤ lo ∧ lo ≤ 3000 ∧ A 106 n ≤ lo ∧ (lo = f ∨ lo = A 106 n)) (hn : n < nN A) (hk : A 103 n = 0) (hW : WfA A) (hK : ∀ I1, Fr [62, 63] [] I0 I1 → (∀ i : Nat, i < 100 → f + i ≤ t → (if A 106 n ≤ f + i ∧ ld I0 63 i ≤ A 106 n then ld I1 62 i = A 105 n ∧ ld I1 63 i = A 106 n else ld I1 62 i = ld I0 62 i ∧ ld I1 63 i = ld I0 63 i)) → Q none (bd L I1 R S)) : ∀ (m : Nat) (x : Int) (I : mI), (t + 1 - x).toNat = m → lo ≤ x → RC R S I A → ld I 59 13 = f → ld I 59 14 = t → Fr [62, 63] [] I0 I → (∀ i : Nat, i < 100 → (if lo ≤ f + i ∧ f + i < x ∧ ld I0 63 i ≤ A 106 n then ld I 62 i = A 105 n ∧ ld I 63 i = A 106 n else ld I 62 i = ld I0 62 i ∧ ld I 63 i = ld I0 63 i)) → x ≤ 4000 → h138_1 d L I R S Q n (A 106 n) x := by
  have w := hW.2.2.2.2 n hn
  have w2 := w.2.2.2.1 hk
  have hN := hW.2.2.2.1
  unfold WfN at hN
  have hnN : n < (A 91 3).toNat := hn
  have w3 := hW.1
  have w4 := hW.2.2.1
  intro m
  induction m with
  | zero =>
    intro x I hm hx hC h13 h14 hfr hj hx4
    refine e138_1 hC ?_
    rw [h14]
    refine ⟨by unfold inR; omega, fun _ => hK I hfr (fun i hi hi2 => ?_), fun c => by exfalso; omega⟩
    have := hj i hi
    by_cases q : lo ≤ f + i ∧ f + i < x ∧ ld I0 63 i ≤ A 106 n
    · rw [if_pos q] at this
      rw [if_pos (by omega)]; exact this
    · rw [if_neg q] at this
      rw [if_neg (by omega)]; exact this
  | succ m ih =>
    intro x I hm hx hC h13 h14 hfr hj hx4
    have hj2 := hj (x - f).toNat (by omega)
    rw [if_neg (by omega)] at hj2
    have hv := (hC.2.2.1.1 n hn).2.2.1
    have hv2 : ld I 35 n = A 105 n := by rw [hv]; unfold vlN; rw [if_pos hk]
    refine e138_1 hC ?_
    rw [h13, h14, Int.toNat_natCast, hv2]
    have r1 : inR (A 106 n) := by unfold inR; omega
    have r2 : inR (A 105 n) := by unfold inR; omega
    refine ⟨by unfold inR; omega, fun c => by exfalso; omega, fun _ => ⟨by omega, r1, fun c => ?_, fun c => ⟨by omega, ?_⟩⟩⟩
    · refine ih (x + 1) I (by omega) (by omega) hC h13 h14 hfr (fun i hi => ?_) (by omega)
      have := hj i hi
      by_cases q : lo ≤ f + i ∧ f + i < x ∧ ld I0 63 i ≤ A 106 n
      · rw [if_pos q] at this
        rw [if_pos (by omega)]; exact this
      · rw [if_neg q] at this
        by_cases q2 : i = (x - f).toNat
        · rw [if_neg]
          · exact this
          · rw [q2]; omega
        · rw [if_neg (by omega)]; exact this
    · refine ih (x + 1) _ (by omega) (by omega) ((hC.scr rfl).scr rfl) ?_ ?_ ((hfr.wr rfl).wr rfl) (fun i hi => ?_) (by omega)
      · rw [ld_o (by decide), ld_o (by decide)]; exact h13
      · rw [ld_o (by decide), ld_o (by decide)]; exact h14
      · have := hj i hi
        rw [ld_w r2, ld_o (a := 63) (b := 62) (by decide), ld_o (a := 62) (b := 63) (by decide), ld_w r1]
        by_cases q2 : i = (x - f).toNat
        · rw [if_pos q2, if_pos q2, if_pos (by rw [q2]; omega)]
          exact ⟨rfl, rfl⟩
        · rw [if_neg q2, if_neg q2]
          by_cases q : lo ≤ f + i ∧ f + i < x ∧ ld I0 63 i ≤ A 106 n
          · rw [if_pos q] at this
            rw [if_pos (by omega)]; exact this
          · rw [if_neg q] at this
            rw [if_neg (by omega)]; exact this
theorem k138 {n : Int} {K : mM → Prop} (hC : RC R S I A) (hW : WfA A) (hn : 0 ≤ n ∧ n < A 91 3) (hk : A 103 n.toNat = 0) (hf : 0 ≤ ld I 59 13 ∧ ld I 59 13 ≤ 799) (ht : ld I 59 14 ≤ 799 ∧ ld I 59 14 ≤ ld I 59 13 + 99 ∧ 0 ≤ ld I 59 14) (hK : ∀ I1, Fr [62, 63] [] I I1 → (∀ i : Nat, i < 100 → ld I 59 13 + i ≤ ld I 59 14 → (if A 106 n.toNat ≤ ld I 59 13 + i ∧ ld I 63 i ≤ A 106 n.toNat then ld I1 62 i = A 105 n.toNat ∧ ld I1 63 i = A 106 n.toNat else ld I1 62 i = ld I 62 i ∧ ld I1 63 i = ld I 63 i)) → K (bd L I1 R S)) : CallV (d + 1) 138 [.ref 59, .int (oI n)] (bd L I R S) K := by
  have hN := hW.2.2.2.1
  unfold WfN at hN
  have hl : n.toNat < nN A := by unfold nN; omega
  have w := (hW.2.2.2.2 n.toNat hl).2.2.2.1 hk
  have w3 := hW.1
  obtain ⟨b1, -⟩ := hC.2.2.1.1 n.toNat hl
  refine e138 hC ⟨by omega, ?_⟩
  rw [b1, show frN A n.toNat = A 106 n.toNat by unfold frN; rw [if_pos hk]]
  have := l138 (d := d + 1) (L := L) (R := R) (S := S) (Q := rqV K) (A := A) (I0 := I) (f := ld I 59 13) (t := ld I 59 14) (lo := max (ld I 59 13) (A 106 n.toNat)) (n := n.toNat) hf.1 ⟨ht.1, ht.2.1⟩ (by omega) hl hk hW (fun I1 h1 h2 => rqV_of (hK I1 h1 h2)) _ _ I rfl (Int.le_refl _) hC rfl rfl (Fr.refl _ _ _) (fun i hi => by rw [if_neg (by omega)]; exact ⟨rfl, rfl⟩) (by omega)
  rw [show ((n.toNat : Nat) : Int) = n by omega] at this
  exact this
theorem l139 {f t lo la : Int} {n : Nat} (hf : 0 ≤ f) (ht : t ≤ 799 ∧ t ≤ f + 99) (hlo : f * 2 ≤ lo ∧ lo ≤ 3000) (hla : la ≤ t * 2 + 1 ∧ -3000 ≤ la) (hn : n < 850) (hv : inR (A 107 n)) (hvl : ∀ I, RC R S I A → ld I 35 n = A 107 n) (hK : ∀ I1, Fr [64] [] I0 I1 → (∀ i : Nat, i < 200 → ld I1 64 i = if lo ≤ f * 2 + i ∧ f * 2 + i ≤ la then A 107 n else ld I0 64 i) → Q none (bd L I1 R S)) : ∀ (m : Nat) (x : Int) (I : mI), (la + 1 - x).toNat = m → lo ≤ x → (x = lo ∨ x ≤ la + 1) → RC R S I A → ld I 59 13 = f → Fr [64] [] I0 I → (∀ i : Nat, i < 200 → ld I 64 i = if lo ≤ f * 2 + i ∧ f * 2 + i < x then A 107 n else ld I0 64 i) → h139_1 d L I R S Q n la x := by
  intro m
  induction m with
  | zero =>
    intro x I hm h1 h2 hC h13 hfr hj
    refine e139_1 hC ⟨by unfold inR; omega, by unfold inR; omega, fun c => hK I hfr (fun i hi => ?_), fun c => by exfalso; omega⟩
    rw [hj i hi]
    by_cases q : lo ≤ f * 2 + i ∧ f * 2 + i < x
    · rw [if_pos q]
      by_cases q2 : f * 2 + i ≤ la
      · rw [if_pos ⟨q.1, q2⟩]
      · exfalso; omega
    · rw [if_neg q, if_neg (by omega)]
  | succ m ih =>
    intro x I hm h1 h2 hC h13 hfr hj
    refine e139_1 hC ?_
    rw [h13, Int.toNat_natCast, hvl I hC]
    refine ⟨by unfold inR; omega, by unfold inR; omega, fun c => by exfalso; omega, fun _ => ⟨by omega, by omega, ?_⟩⟩
    refine ih (x + 1) _ (by omega) (by omega) (by omega) (hC.scr rfl) ?_ (hfr.wr rfl) (fun i hi => ?_)
    · rw [ld_o (by decide)]; exact h13
    · rw [ld_w hv]
      by_cases q : i = (x - f * 2).toNat
      · rw [if_pos q, if_pos (by omega)]
      · rw [if_neg q, hj i hi]
        by_cases q2 : lo ≤ f * 2 + i ∧ f * 2 + i < x
        · rw [if_pos q2, if_pos (by omega)]
        · rw [if_neg q2, if_neg (by omega)]
theorem k139 {n : Int} {K : mM → Prop} (hC : RC R S I A) (hW : WfA A) (hn : 0 ≤ n ∧ n < A 91 3) (hk : A 103 n.toNat = 2) (hf : 0 ≤ ld I 59 13 ∧ ld I 59 13 ≤ 799) (ht : ld I 59 14 ≤ 799 ∧ ld I 59 14 ≤ ld I 59 13 + 99 ∧ 0 ≤ ld I 59 14) (hK : ∀ I1, Fr [64] [] I I1 → (∀ i : Nat, i < 200 → ld I 59 13 * 2 + i ≤ ld I 59 14 * 2 + 1 → ld I1 64 i = if A 105 n.toNat ≤ ld I 59 13 * 2 + i ∧ ld I 59 13 * 2 + i ≤ A 106 n.toNat then A 107 n.toNat else ld I 64 i) → K (bd L I1 R S)) : CallV (d + 1) 139 [.ref 59, .int (oI n)] (bd L I R S) K := by
  have hN := hW.2.2.2.1
  unfold WfN at hN
  have hl : n.toNat < nN A := by unfold nN; omega
  have w := (hW.2.2.2.2 n.toNat hl).2.2.2.2.2.1 hk
  obtain ⟨b1, b2, -⟩ := hC.2.2.1.1 n.toNat hl
  have hvl : ∀ I, RC R S I A → ld I 35 n.toNat = A 107 n.toNat := fun I hC => by
    rw [(hC.2.2.1.1 n.toNat hl).2.2.1]; unfold vlN; rw [if_neg (by omega), if_pos (by omega)]
  refine e139 hC ⟨by omega, by unfold inR; omega, by unfold inR; omega, ?_⟩
  rw [b1, b2, show frN A n.toNat = A 105 n.toNat by unfold frN; rw [if_neg (by omega)]]
  have := l139 (d := d + 1) (L := L) (R := R) (S := S) (Q := rqV K) (A := A) (I0 := I) (f := ld I 59 13) (t := ld I 59 14) (lo := max (ld I 59 13 * 2) (A 105 n.toNat)) (la := min (ld I 59 14 * 2 + 1) (A 106 n.toNat)) (n := n.toNat) hf.1 ⟨ht.1, ht.2.1⟩ (by omega) (by omega) (by omega) (by unfold inR; omega) hvl (fun I1 h1 h2 => rqV_of (hK I1 h1 (fun i hi hi2 => ?_))) _ _ I rfl (Int.le_refl _) (Or.inl rfl) hC rfl (Fr.refl _ _ _) (fun i hi => by rw [if_neg (by omega)])
  · rw [show ((n.toNat : Nat) : Int) = n by omega] at this
    exact this
  · rw [h2 i hi]
    by_cases q : A 105 n.toNat ≤ ld I 59 13 * 2 + i ∧ ld I 59 13 * 2 + i ≤ A 106 n.toNat
    · rw [if_pos q, if_pos (by omega)]
    · rw [if_neg q, if_neg (by omega)]
end
set_option maxRecDepth 4000 in
theorem e137 {d L : Nat} {I : Nat → Nat → Int32} {R : Nat → Nat → Option Nat} {S : List (Nat × Nat)} {K : mM → Prop} {A : aS} (hC : RC R S I A) {x1 : Int} (hE : (0 ≤ x1 ∧ x1 < 850) ∧ ((A 103 x1.toNat = 0 → WfA A ∧ ((0 ≤ x1 ∧ x1 < A 91 3) ∧ (A 103 x1.toNat = 0 ∧ ((0 ≤ ld I 59 13 ∧ ld I 59 13 ≤ 799) ∧ ((ld I 59 14 ≤ 799 ∧ ld I 59 14 ≤ ld I 59 13 + 99 ∧ 0 ≤ ld I 59 14) ∧ (∀ (I8 : mI), (Fr [62, 63] [] I I8) → (∀ i : Nat, i < 100 → ld I 59 13 + i ≤ ld I 59 14 → (if A 106 x1.toNat ≤ ld I 59 13 + i ∧ ld I 63 i ≤ A 106 x1.toNat then ld I8 62 i = A 105 x1.toNat ∧ ld I8 63 i = A 106 x1.toNat else ld I8 62 i = ld I 62 i ∧ ld I8 63 i = ld I 63 i)) → K (bd L I8 R S))))))) ∧ (A 103 x1.toNat = 2 → WfA A ∧ ((0 ≤ x1 ∧ x1 < A 91 3) ∧ (A 103 x1.toNat = 2 ∧ ((0 ≤ ld I 59 13 ∧ ld I 59 13 ≤ 799) ∧ ((ld I 59 14 ≤ 799 ∧ ld I 59 14 ≤ ld I 59 13 + 99 ∧ 0 ≤ ld I 59 14) ∧ (∀ (I17 : mI), (Fr [64] [] I I17) → (∀ i : Nat, i < 200 → ld I 59 13 * 2 + i ≤ ld I 59 14 * 2 + 1 → ld I17 64 i = if A 105 x1.toNat ≤ ld I 59 13 * 2 + i ∧ ld I 59 13 * 2 + i ≤ A 106 x1.toNat then A 107 x1.toNat else ld I 64 i) → K (bd L I17 R S))))))) ∧ (A 103 x1.toNat = 3 → WfA A ∧ ((0 ≤ x1 ∧ x1 < A 91 3) ∧ ((A 103 x1.toNat = 1 ∨ (3 ≤ A 103 x1.toNat ∧ A 103 x1.toNat ≤ 5)) ∧ ((0 ≤ ld I 59 13 ∧ ld I 59 13 ≤ 799) ∧ ((ld I 59 14 ≤ 799 ∧ ld I 59 14 ≤ ld I 59 13 + 99 ∧ 0 ≤ ld I 59 14) ∧ (∀ (I26 : mI), (Fr [65] [] I I26) → (∀ i : Nat, i < 100 → ld I 59 13 + i ≤ ld I 59 14 → ld I26 65 i = if A 105 x1.toNat ≤ ld I 59 13 + i ∧ ld I 59 13 + i ≤ A 106 x1.toNat then iOr (ld I 65 i) (iShl 1 (ld I 35 x1.toNat)) else ld I 65 i) → K (bd L I26 R S))))))) ∧ (A 103 x1.toNat = 4 → WfA A ∧ ((0 ≤ x1 ∧ x1 < A 91 3) ∧ ((A 103 x1.toNat = 1 ∨ (3 ≤ A 103 x1.toNat ∧ A 103 x1.toNat ≤ 5)) ∧ ((0 ≤ ld I 59 13 ∧ ld I 59 13 ≤ 799) ∧ ((ld I 59 14 ≤ 799 ∧ ld I 59 14 ≤ ld I 59 13 + 99 ∧ 0 ≤ ld I 59 14) ∧ (∀ (I35 : mI), (Fr [66] [] I I35) → (∀ i : Nat, i < 100 → ld I 59 13 + i ≤ ld I 59 14 → ld I35 66 i = if A 105 x1.toNat ≤ ld I 59 13 + i ∧ ld I 59 13 + i ≤ A 106 x1.toNat then iOr (ld I 66 i) (iShl 1 0) else ld I 66 i) → K (bd L I35 R S))))))) ∧ (A 103 x1.toNat = 5 → WfA A ∧ ((0 ≤ x1 ∧ x1 < A 91 3) ∧ ((A 103 x1.toNat = 1 ∨ (3 ≤ A 103 x1.toNat ∧ A 103 x1.toNat ≤ 5)) ∧ ((0 ≤ ld I 59 13 ∧ ld I 59 13 ≤ 799) ∧ ((ld I 59 14 ≤ 799 ∧ ld I 59 14 ≤ ld I 59 13 + 99 ∧ 0 ≤ ld I 59 14) ∧ (∀ (I44 : mI), (Fr [67] [] I I44) → (∀ i : Nat, i < 100 → ld I 59 13 + i ≤ ld I 59 14 → ld I44 67 i = if A 105 x1.toNat ≤ ld I 59 13 + i ∧ ld I 59 13 + i ≤ A 106 x1.toNat then iOr (ld I 67 i) (iShl 1 0) else ld I 67 i) → K (bd L I44 R S))))))) ∧ (¬ A 103 x1.toNat = 0 ∧ ¬ A 103 x1.toNat = 2 ∧ ¬ A 103 x1.toNat = 3 ∧ ¬ A 103 x1.toNat = 4 ∧ ¬ A 103 x1.toNat = 5 → K (bd L I R S)))) : CallV (d + 2) 137 [.ref 59, .int (oI x1)] (bd L I R S) K := by
  refine cV_of (ls := [.ref 59, .int (oI x1)]) rfl ?_
  refine xG gb137.1 ?_
  refine s6 (p := 59) rfl ?_
  refine s51 sh59 (by decide) (by decide) rf59_2 ?_
  refine s51 sh31 (by decide) (by decide) rf31_0 ?_
  refine s4 (x := x1) rfl ?_
  obtain ⟨g1, hE⟩ := hE
  refine s40 (v := A 103 x1.toNat) sh32 g1 rfl (rdC hC.1 rfl) ?_
  refine s76 (inC hC.1 (a := 32) (k := x1.toNat) rfl) ?_
  by_cases c2 : A 103 x1.toNat = 0
  · replace hE := hE.1 c2
    rw [show mSel ((jSW.getD 137 []).getD 0 []) (A 103 x1.toNat - 0) = 1 by rw [c2]; rfl]
    refine xG gb137.2.1 ?_
    refine s6 (p := 59) rfl ?_
    refine s4 (x := x1) rfl ?_
    obtain ⟨g3, hE⟩ := hE
    obtain ⟨g4, hE⟩ := hE
    obtain ⟨g5, hE⟩ := hE
    obtain ⟨g6, hE⟩ := hE
    obtain ⟨g7, hE⟩ := hE
    refine sV rc138 rfl (Nat.le_of_ble_eq_true rfl) ?_
    refine k138 hC g3 g4 g5 g6 g7 (fun I8 q9 q10 => ?_)
    replace hE := hE I8 q9 q10
    refine s60 ?_
    refine xG gb137.2.2.2.2.2.2 ?_
    refine s83 ?_
    exact rqV_of hE
  replace hE := hE.2
  by_cases c11 : A 103 x1.toNat = 2
  · replace hE := hE.1 c11
    rw [show mSel ((jSW.getD 137 []).getD 0 []) (A 103 x1.toNat - 0) = 2 by rw [c11]; rfl]
    refine xG gb137.2.2.1 ?_
    refine s6 (p := 59) rfl ?_
    refine s4 (x := x1) rfl ?_
    obtain ⟨g12, hE⟩ := hE
    obtain ⟨g13, hE⟩ := hE
    obtain ⟨g14, hE⟩ := hE
    obtain ⟨g15, hE⟩ := hE
    obtain ⟨g16, hE⟩ := hE
    refine sV rc139 rfl (Nat.le_of_ble_eq_true rfl) ?_
    refine k139 hC g12 g13 g14 g15 g16 (fun I17 q18 q19 => ?_)
    replace hE := hE I17 q18 q19
    refine s60 ?_
    refine xG gb137.2.2.2.2.2.2 ?_
    refine s83 ?_
    exact rqV_of hE
  replace hE := hE.2
  by_cases c20 : A 103 x1.toNat = 3
  · replace hE := hE.1 c20
    rw [show mSel ((jSW.getD 137 []).getD 0 []) (A 103 x1.toNat - 0) = 3 by rw [c20]; rfl]
    refine xG gb137.2.2.2.1 ?_
    refine s6 (p := 59) rfl ?_
    refine s6 (p := 59) rfl ?_
    refine s51 sh59 (by decide) (by decide) rf59_8 ?_
    refine s4 (x := x1) rfl ?_
    refine s6 (p := 59) rfl ?_
    refine s51 sh59 (by decide) (by decide) rf59_2 ?_
    refine s51 sh31 (by decide) (by decide) rf31_3 ?_
    refine s4 (x := x1) rfl ?_
    refine s40 (v := ld I 35 x1.toNat) sh35 g1 rfl (oI_ld _ _ _) ?_
    obtain ⟨g21, hE⟩ := hE
    obtain ⟨g22, hE⟩ := hE
    obtain ⟨g23, hE⟩ := hE
    obtain ⟨g24, hE⟩ := hE
    obtain ⟨g25, hE⟩ := hE
    refine sV rc135 rfl (Nat.le_of_ble_eq_true rfl) ?_
    refine k135a65 hC g21 g22 g23 g24 g25 (fun I26 q27 q28 => ?_)
    replace hE := hE I26 q27 q28
    refine s60 ?_
    refine xG gb137.2.2.2.2.2.2 ?_
    refine s83 ?_
    exact rqV_of hE
  replace hE := hE.2
  by_cases c29 : A 103 x1.toNat = 4
  · replace hE := hE.1 c29
    rw [show mSel ((jSW.getD 137 []).getD 0 []) (A 103 x1.toNat - 0) = 4 by rw [c29]; rfl]
    refine xG gb137.2.2.2.2.1 ?_
    refine s6 (p := 59) rfl ?_
    refine s6 (p := 59) rfl ?_
    refine s51 sh59 (by decide) (by decide) rf59_9 ?_
    refine s4 (x := x1) rfl ?_
    refine s0 ?_
    obtain ⟨g30, hE⟩ := hE
    obtain ⟨g31, hE⟩ := hE
    obtain ⟨g32, hE⟩ := hE
    obtain ⟨g33, hE⟩ := hE
    obtain ⟨g34, hE⟩ := hE
    refine sV rc135 rfl (Nat.le_of_ble_eq_true rfl) ?_
    refine k135a66 hC g30 g31 g32 g33 g34 (fun I35 q36 q37 => ?_)
    replace hE := hE I35 q36 q37
    refine s60 ?_
    refine xG gb137.2.2.2.2.2.2 ?_
    refine s83 ?_
    exact rqV_of hE
  replace hE := hE.2
  by_cases c38 : A 103 x1.toNat = 5
  · replace hE := hE.1 c38
    rw [show mSel ((jSW.getD 137 []).getD 0 []) (A 103 x1.toNat - 0) = 5 by rw [c38]; rfl]
    refine xG gb137.2.2.2.2.2.1 ?_
    refine s6 (p := 59) rfl ?_
    refine s6 (p := 59) rfl ?_
    refine s51 sh59 (by decide) (by decide) rf59_10 ?_
    refine s4 (x := x1) rfl ?_
    refine s0 ?_
    obtain ⟨g39, hE⟩ := hE
    obtain ⟨g40, hE⟩ := hE
    obtain ⟨g41, hE⟩ := hE
    obtain ⟨g42, hE⟩ := hE
    obtain ⟨g43, hE⟩ := hE
    refine sV rc135 rfl (Nat.le_of_ble_eq_true rfl) ?_
    refine k135a67 hC g39 g40 g41 g42 g43 (fun I44 q45 q46 => ?_)
    replace hE := hE I44 q45 q46
    refine s60 ?_
    refine xG gb137.2.2.2.2.2.2 ?_
    refine s83 ?_
    exact rqV_of hE
  replace hE := hE.2
  replace hE := hE ⟨c2, c11, c20, c29, c38⟩
  rw [show mSel ((jSW.getD 137 []).getD 0 []) (A 103 x1.toNat - 0) = 6 by exact mSel_def (lo := 0) (vs := [0, 2, 3, 4, 5]) rfl (by intro v hv; simp only [List.mem_cons, List.not_mem_nil, or_false] at hv; omega)]
  refine xG gb137.2.2.2.2.2.2 ?_
  refine s83 ?_
  exact rqV_of hE
