/-! the class: chains of the book -/
section
variable {A : aS} {o : Int}
theorem fstO_end : fstO A o (nN A) = -1 := by unfold fstO; rw [Nat.sub_self]; rfl
theorem fstO_step {k : Nat} (hk : k < nN A) : fstO A o k = if ownN A k = o then (k : Int) else fstO A o (k + 1) := by
  unfold fstO
  rw [show nN A - k = (nN A - (k + 1)) + 1 by omega]
  rfl
theorem fsO_in : ∀ f k, fsO A o f k = -1 ∨ ∃ m : Nat, fsO A o f k = m ∧ k ≤ m ∧ m < k + f ∧ ownN A m = o
  | 0, k => Or.inl rfl
  | f + 1, k => by
    have e : fsO A o (f + 1) k = if ownN A k = o then (k : Int) else fsO A o f (k + 1) := rfl
    rw [e]
    split
    · rename_i h; exact Or.inr ⟨k, rfl, by omega, by omega, h⟩
    · rcases fsO_in f (k + 1) with h1 | ⟨m, h1, h2, h3, h4⟩
      · exact Or.inl h1
      · exact Or.inr ⟨m, h1, by omega, by omega, h4⟩
theorem fstO_in {k : Nat} : fstO A o k = -1 ∨ ∃ m : Nat, fstO A o k = m ∧ k ≤ m ∧ m < nN A ∧ ownN A m = o := by
  rcases fsO_in (A := A) (o := o) (nN A - k) k with h1 | ⟨m, h1, h2, h3, h4⟩
  · exact Or.inl h1
  · exact Or.inr ⟨m, h1, h2, by omega, h4⟩
theorem own_sch {k : Nat} (hW : WfA A) (hk : k < nN A) {s : Nat} : ownN A k = 40 + s ↔ A 103 k = 1 ∧ A 104 k = s := by
  have w := hW.2.2.2.2 k hk
  have w1 := hW.2.1
  unfold ownN
  constructor
  · intro h
    split at h
    · rename_i h1; exact ⟨h1, by omega⟩
    · rename_i h1; have := w.2.2.1 h1; omega
  · rintro ⟨h1, h2⟩
    rw [if_pos h1, h2]
theorem own_chd {k : Nat} (hW : WfA A) (hk : k < nN A) {c : Int} (hc : 0 ≤ c ∧ c < 40) : ownN A k = c ↔ ¬ A 103 k = 1 ∧ A 104 k = c := by
  have w := hW.2.2.2.2 k hk
  unfold ownN
  constructor
  · intro h
    split at h
    · rename_i h1; have := w.2.1 h1; omega
    · rename_i h1; exact ⟨h1, h⟩
  · rintro ⟨h1, h2⟩
    rw [if_neg h1, h2]
end
def btB (x s : Int) : Bool := !(iAnd (iShr x s) 1 == 0)
theorem bt_or0 : ∀ x : Fin 64, ∀ s0 s : Fin 6, btB (iOr (x.val : Int) (iShl 1 (s0.val : Int))) (s.val : Int) = (btB (x.val : Int) (s.val : Int) || decide (s.val = s0.val)) ∧ 0 ≤ iOr (x.val : Int) (iShl 1 (s0.val : Int)) ∧ iOr (x.val : Int) (iShl 1 (s0.val : Int)) < 64 := by decide +kernel
theorem bt_or {x : Int} {s0 s : Nat} (hx : 0 ≤ x ∧ x < 64) (h0 : s0 < 6) (hs : s < 6) : btB (iOr x (iShl 1 s0)) s = (btB x s || decide (s = s0)) ∧ 0 ≤ iOr x (iShl 1 s0) ∧ iOr x (iShl 1 s0) < 64 := by
  have := bt_or0 ⟨x.toNat, by omega⟩ ⟨s0, h0⟩ ⟨s, hs⟩
  dsimp only at this
  rw [show ((x.toNat : Nat) : Int) = x by omega] at this
  exact this
theorem bt_0 : ∀ s : Fin 6, btB 0 (s.val : Int) = false := by decide +kernel
set_option maxRecDepth 4000 in
theorem e88 {d L : Nat} {I : Nat → Nat → Int32} {R : Nat → Nat → Option Nat} {S : List (Nat × Nat)} {K : Int32 → mM → Prop} {A : aS} (hC : RC R S I A) {x1 : Int} {x2 : Int} (hE : (0 ≤ x1 ∧ x1 < 850) ∧ (inR x2 ∧ (((x2 < A 108 x1.toNat) → K (oI 0) (bd L I R S)) ∧ (¬ (x2 < A 108 x1.toNat) → ((ld I 38 x1.toNat = (-1)) → K (oI 1) (bd L I R S)) ∧ (¬ (ld I 38 x1.toNat = (-1)) → ((x2 < ld I 38 x1.toNat) → K (oI 1) (bd L I R S)) ∧ (¬ (x2 < ld I 38 x1.toNat) → K (oI 0) (bd L I R S))))))) : CallI d 88 [.ref 31, .int (oI x1), .int (oI x2)] (bd L I R S) K := by
  refine cI_of (ls := [.ref 31, .int (oI x1), .int (oI x2)]) rfl ?_
  refine xG gb88.1 ?_
  refine s6 (p := 31) rfl ?_
  refine s51 sh31 (by decide) (by decide) rf31_5 ?_
  refine s4 (x := x1) rfl ?_
  obtain ⟨g1, hE⟩ := hE
  refine s40 (v := A 108 x1.toNat) sh37 g1 rfl (rdC hC.1 rfl) ?_
  refine s4 (x := x2) rfl ?_
  obtain ⟨g2, hE⟩ := hE
  refine s65 (inC hC.1 (a := 37) (k := x1.toNat) rfl) g2 (fun c3 => ?_) (fun c3 => ?_)
  · replace hE := hE.1 c3
    refine xG gb88.2.2.1 ?_
    refine s0 ?_
    refine s79 ?_
    refine xG gb88.2.2.2 ?_
    refine s84 (by decide) ?_
    exact rqI_of hE
  · replace hE := hE.2 c3
    refine s6 (p := 31) rfl ?_
    refine s51 sh31 (by decide) (by decide) rf31_6 ?_
    refine s4 (x := x1) rfl ?_
    refine s40 (v := ld I 38 x1.toNat) sh38 g1 rfl (oI_ld _ _ _) ?_
    refine s0 ?_
    refine s61 (ld_inR _ _ _) (inRd rfl) (fun c4 => ?_) (fun c4 => ?_)
    · replace hE := hE.1 c4
      refine xG gb88.2.1 ?_
      refine s0 ?_
      refine s60 ?_
      refine xG gb88.2.2.2 ?_
      refine s84 (by decide) ?_
      exact rqI_of hE
    · replace hE := hE.2 c4
      refine s4 (x := x2) rfl ?_
      refine s6 (p := 31) rfl ?_
      refine s51 sh31 (by decide) (by decide) rf31_6 ?_
      refine s4 (x := x1) rfl ?_
      refine s40 (v := ld I 38 x1.toNat) sh38 g1 rfl (oI_ld _ _ _) ?_
      refine s64 g2 (ld_inR _ _ _) (fun c5 => ?_) (fun c5 => ?_)
      · replace hE := hE.1 c5
        refine s79 ?_
        refine xG gb88.2.1 ?_
        refine s0 ?_
        refine s60 ?_
        refine xG gb88.2.2.2 ?_
        refine s84 (by decide) ?_
        exact rqI_of hE
      · replace hE := hE.2 c5
        refine xG gb88.2.2.1 ?_
        refine s0 ?_
        refine s79 ?_
        refine xG gb88.2.2.2 ?_
        refine s84 (by decide) ?_
        exact rqI_of hE
section
variable {d L : Nat} {I I0 : mI} {R : mR} {S : mSh} {Q : Option Value → mM → Prop} {A : aS} {c day known kind half year subj code : Int}
theorem k88 {n k : Int} {K : Int32 → mM → Prop} (hC : RC R S I A) (hW : WfA A) (hn : 0 ≤ n ∧ n < A 91 3) (hk : 0 ≤ k ∧ k ≤ 799) (h1 : (A 108 n.toNat ≤ k ∧ k < A 109 n.toNat) → K (oI 1) (bd L I R S)) (h0 : ¬ (A 108 n.toNat ≤ k ∧ k < A 109 n.toNat) → K (oI 0) (bd L I R S)) : CallI d 88 [.ref 31, .int (oI n), .int (oI k)] (bd L I R S) K := by
  have hN := hW.2.2.2.1
  unfold WfN at hN
  have hl : n.toNat < nN A := by unfold nN; omega
  have w := (hW.2.2.2.2 n.toNat hl).2.2.2.2.2.2.2.2.2
  have hb := (hC.2.2.1.1 n.toNat hl).2.2.2.1
  refine e88 hC ?_
  rw [hb]
  unfold unN
  refine ⟨by omega, by unfold inR; omega, fun c => h0 (by omega), fun c => ?_⟩
  by_cases e : A 109 n.toNat = 5000
  · rw [if_pos e]
    exact ⟨fun _ => h1 (by omega), fun c2 => absurd rfl c2⟩
  · rw [if_neg e]
    exact ⟨fun c2 => by exfalso; omega, fun _ => ⟨fun c3 => h1 (by omega), fun c3 => h0 (by omega)⟩⟩
end
def h135_1a68 (d L : Nat) (I : Nat → Nat → Int32) (R : Nat → Nat → Option Nat) (S : List (Nat × Nat)) (Q : Option Value → mM → Prop) (w2 : Value) (x3 : Int) (x4 : Int) (x5 : Int) : Prop := Wp d (gb 135 1) [.ref 59, .ref 68, w2, .int (oI x3), .int (oI x4), .int (oI x5)] [] (bd L I R S) Q
set_option maxRecDepth 4000 in
theorem e135_1a68 {d L : Nat} {I : Nat → Nat → Int32} {R : Nat → Nat → Option Nat} {S : List (Nat × Nat)} {Q : Option Value → mM → Prop} {A : aS} (hC : RC R S I A) {w2 : Value} {x3 : Int} {x4 : Int} {x5 : Int} (hE : inR x5 ∧ (inR x4 ∧ (((x4 < x5) → Q none (bd L I R S)) ∧ (¬ (x4 < x5) → (0 ≤ x5 - (ld I 59 13) ∧ x5 - (ld I 59 13) < 100) ∧ (h135_1a68 d L (u2 I 68 (x5 - (ld I 59 13)).toNat (oI (iOr (ld I 68 (x5 - (ld I 59 13)).toNat) (iShl 1 x3)))) R S Q w2 x3 x4 (x5 + 1)))))) : h135_1a68 d L I R S Q w2 x3 x4 x5 := by
  unfold h135_1a68
  refine xG gb135.2.1 ?_
  refine s4 (x := x5) rfl ?_
  refine s4 (x := x4) rfl ?_
  obtain ⟨g1, hE⟩ := hE
  obtain ⟨g2, hE⟩ := hE
  refine s65 g1 g2 (fun c3 => ?_) (fun c3 => ?_)
  · replace hE := hE.1 c3
    refine xG gb135.2.2 ?_
    refine s83 ?_
    exact hE
  · replace hE := hE.2 c3
    refine s6 (p := 68) rfl ?_
    refine s4 (x := x5) rfl ?_
    refine s6 (p := 59) rfl ?_
    refine s50 (v := ld I 59 13) sh59 (by decide) (by decide) (oI_ld _ _ _) ?_
    refine s17 ?_
    refine s14 ?_
    obtain ⟨g4, hE⟩ := hE
    refine s40 (v := ld I 68 (x5 - (ld I 59 13)).toNat) sh68 g4 rfl (oI_ld _ _ _) ?_
    refine s0 ?_
    refine s4 (x := x3) rfl ?_
    refine s22 ?_
    refine s26 ?_
    refine s44 sh68 (by decide) g4 rfl ?_
    refine s10 (x := x5) (ls' := [.ref 59, .ref 68, w2, .int (oI x3), .int (oI x4), .int (oI (x5 + 1))]) rfl rfl ?_
    refine s60 ?_
    exact hE
set_option maxRecDepth 4000 in
theorem e135a68 {d L : Nat} {I : Nat → Nat → Int32} {R : Nat → Nat → Option Nat} {S : List (Nat × Nat)} {K : mM → Prop} {A : aS} (hC : RC R S I A) {x2 : Int} {x3 : Int} (hE : (0 ≤ x2 ∧ x2 < 850) ∧ (h135_1a68 (d + 1) L I R S (rqV K) (.int (oI x2)) x3 (min (ld I 59 14) (ld I 34 x2.toNat)) (max (ld I 59 13) (ld I 33 x2.toNat)))) : CallV (d + 1) 135 [.ref 59, .ref 68, .int (oI x2), .int (oI x3)] (bd L I R S) K := by
  refine cV_of (ls := [.ref 59, .ref 68, .int (oI x2), .int (oI x3), mUn, mUn]) rfl ?_
  refine xG gb135.1 ?_
  refine s6 (p := 59) rfl ?_
  refine s50 (v := ld I 59 14) sh59 (by decide) (by decide) (oI_ld _ _ _) ?_
  refine s6 (p := 59) rfl ?_
  refine s51 sh59 (by decide) (by decide) rf59_2 ?_
  refine s51 sh31 (by decide) (by decide) rf31_2 ?_
  refine s4 (x := x2) rfl ?_
  obtain ⟨g1, hE⟩ := hE
  refine s40 (v := ld I 34 x2.toNat) sh34 g1 rfl (oI_ld _ _ _) ?_
  refine sI rc345 rfl (Nat.le_of_ble_eq_true rfl) ?_
  refine k345 (ld_inR _ _ _) (ld_inR _ _ _) ?_
  refine s7 (ls' := [.ref 59, .ref 68, .int (oI x2), .int (oI x3), .int (oI (min (ld I 59 14) (ld I 34 x2.toNat))), mUn]) (Nat.le_of_ble_eq_true rfl) rfl ?_
  refine s6 (p := 59) rfl ?_
  refine s50 (v := ld I 59 13) sh59 (by decide) (by decide) (oI_ld _ _ _) ?_
  refine s6 (p := 59) rfl ?_
  refine s51 sh59 (by decide) (by decide) rf59_2 ?_
  refine s51 sh31 (by decide) (by decide) rf31_1 ?_
  refine s4 (x := x2) rfl ?_
  refine s40 (v := ld I 33 x2.toNat) sh33 g1 rfl (oI_ld _ _ _) ?_
  refine sI rc346 rfl (Nat.le_of_ble_eq_true rfl) ?_
  refine k346 (ld_inR _ _ _) (ld_inR _ _ _) ?_
  refine s7 (ls' := [.ref 59, .ref 68, .int (oI x2), .int (oI x3), .int (oI (min (ld I 59 14) (ld I 34 x2.toNat))), .int (oI (max (ld I 59 13) (ld I 33 x2.toNat)))]) (Nat.le_of_ble_eq_true rfl) rfl ?_
  refine s79 ?_
  exact hE
section
variable {d L : Nat} {I I0 : mI} {R : mR} {S : mSh} {Q : Option Value → mM → Prop} {A : aS} {c day known kind half year subj code : Int}
theorem l135a68 {f t lo la bit : Int} (hf : 0 ≤ f) (ht : t ≤ 799 ∧ t ≤ f + 99) (hlo : f ≤ lo ∧ lo ≤ 3000) (hla : la ≤ t ∧ -3000 ≤ la) (hK : ∀ I1, Fr [68] [] I0 I1 → (∀ i : Nat, i < 100 → ld I1 68 i = if lo ≤ f + i ∧ f + i ≤ la then iOr (ld I0 68 i) (iShl 1 bit) else ld I0 68 i) → Q none (bd L I1 R S)) : ∀ (n : Nat) (x : Int) (w2 : Value) (I : mI), (la + 1 - x).toNat = n → lo ≤ x → (x = lo ∨ x ≤ la + 1) → RC R S I A → ld I 59 13 = f → Fr [68] [] I0 I → (∀ i : Nat, i < 100 → ld I 68 i = if lo ≤ f + i ∧ f + i < x then iOr (ld I0 68 i) (iShl 1 bit) else ld I0 68 i) → h135_1a68 d L I R S Q w2 bit la x := by
  intro n
  induction n with
  | zero =>
    intro x w2 I hn h1 h2 hC h13 hfr hj
    refine e135_1a68 hC ⟨by unfold inR; omega, by unfold inR; omega, fun c => hK I hfr (fun i hi => ?_), fun c => by exfalso; omega⟩
    rw [hj i hi]
    by_cases q : lo ≤ f + i ∧ f + i < x
    · rw [if_pos q]
      by_cases q2 : f + i ≤ la
      · rw [if_pos ⟨q.1, q2⟩]
      · exfalso; omega
    · rw [if_neg q, if_neg (by omega)]
  | succ n ih =>
    intro x w2 I hn h1 h2 hC h13 hfr hj
    refine e135_1a68 hC ?_
    rw [h13]
    refine ⟨by unfold inR; omega, by unfold inR; omega, fun c => by exfalso; omega, fun _ => ⟨by omega, ?_⟩⟩
    have hv : inR (iOr (ld I 68 (x - f).toNat) (iShl 1 bit)) := inR_toInt _
    refine ih (x + 1) _ _ (by omega) (by omega) (by omega) (hC.scr rfl) ?_ (hfr.wr rfl) (fun i hi => ?_)
    · rw [ld_o (by decide)]; exact h13
    · rw [ld_w hv]
      by_cases q : i = (x - f).toNat
      · rw [if_pos q, hj _ (by omega), if_neg (by omega), if_pos (by omega), q]
      · rw [if_neg q, hj i hi]
        by_cases q2 : lo ≤ f + i ∧ f + i < x
        · rw [if_pos q2, if_pos (by omega)]
        · rw [if_neg q2, if_neg (by omega)]
theorem k135a68 {n bit : Int} {K : mM → Prop} (hC : RC R S I A) (hW : WfA A) (hn : 0 ≤ n ∧ n < A 91 3) (hk : A 103 n.toNat = 1 ∨ (3 ≤ A 103 n.toNat ∧ A 103 n.toNat ≤ 5)) (hf : 0 ≤ ld I 59 13 ∧ ld I 59 13 ≤ 799) (ht : ld I 59 14 ≤ 799 ∧ ld I 59 14 ≤ ld I 59 13 + 99 ∧ 0 ≤ ld I 59 14) (hK : ∀ I1, Fr [68] [] I I1 → (∀ i : Nat, i < 100 → ld I 59 13 + i ≤ ld I 59 14 → ld I1 68 i = if A 105 n.toNat ≤ ld I 59 13 + i ∧ ld I 59 13 + i ≤ A 106 n.toNat then iOr (ld I 68 i) (iShl 1 bit) else ld I 68 i) → K (bd L I1 R S)) : CallV (d + 1) 135 [.ref 59, .ref 68, .int (oI n), .int (oI bit)] (bd L I R S) K := by
  have hN := hW.2.2.2.1
  unfold WfN at hN
  have hl : n.toNat < nN A := by unfold nN; omega
  have w := (hW.2.2.2.2 n.toNat hl).2.2.2.2.1 hk
  obtain ⟨b1, b2, -⟩ := hC.2.2.1.1 n.toNat hl
  refine e135a68 hC ⟨by omega, ?_⟩
  rw [b1, b2, show frN A n.toNat = A 105 n.toNat by unfold frN; rw [if_neg (by omega)]]
  refine l135a68 (I0 := I) (f := ld I 59 13) (t := ld I 59 14) (lo := max (ld I 59 13) (A 105 n.toNat)) hf.1 ⟨ht.1, ht.2.1⟩ (by omega) (by omega) (fun I1 h1 h2 => rqV_of (hK I1 h1 (fun i hi hi2 => ?_))) _ _ _ I rfl (Int.le_refl _) (Or.inl rfl) hC rfl (Fr.refl _ _ _) (fun i hi => ?_)
  · rw [h2 i hi]
    by_cases q : A 105 n.toNat ≤ ld I 59 13 + i ∧ ld I 59 13 + i ≤ A 106 n.toNat
    · rw [if_pos q, if_pos (by omega)]
    · rw [if_neg q, if_neg (by omega)]
  · rw [if_neg (by omega)]
end
def h135_1a65 (d L : Nat) (I : Nat → Nat → Int32) (R : Nat → Nat → Option Nat) (S : List (Nat × Nat)) (Q : Option Value → mM → Prop) (w2 : Value) (x3 : Int) (x4 : Int) (x5 : Int) : Prop := Wp d (gb 135 1) [.ref 59, .ref 65, w2, .int (oI x3), .int (oI x4), .int (oI x5)] [] (bd L I R S) Q
set_option maxRecDepth 4000 in
theorem e135_1a65 {d L : Nat} {I : Nat → Nat → Int32} {R : Nat → Nat → Option Nat} {S : List (Nat × Nat)} {Q : Option Value → mM → Prop} {A : aS} (hC : RC R S I A) {w2 : Value} {x3 : Int} {x4 : Int} {x5 : Int} (hE : inR x5 ∧ (inR x4 ∧ (((x4 < x5) → Q none (bd L I R S)) ∧ (¬ (x4 < x5) → (0 ≤ x5 - (ld I 59 13) ∧ x5 - (ld I 59 13) < 100) ∧ (h135_1a65 d L (u2 I 65 (x5 - (ld I 59 13)).toNat (oI (iOr (ld I 65 (x5 - (ld I 59 13)).toNat) (iShl 1 x3)))) R S Q w2 x3 x4 (x5 + 1)))))) : h135_1a65 d L I R S Q w2 x3 x4 x5 := by
  unfold h135_1a65
  refine xG gb135.2.1 ?_
  refine s4 (x := x5) rfl ?_
  refine s4 (x := x4) rfl ?_
  obtain ⟨g1, hE⟩ := hE
  obtain ⟨g2, hE⟩ := hE
  refine s65 g1 g2 (fun c3 => ?_) (fun c3 => ?_)
  · replace hE := hE.1 c3
    refine xG gb135.2.2 ?_
    refine s83 ?_
    exact hE
  · replace hE := hE.2 c3
    refine s6 (p := 65) rfl ?_
    refine s4 (x := x5) rfl ?_
    refine s6 (p := 59) rfl ?_
    refine s50 (v := ld I 59 13) sh59 (by decide) (by decide) (oI_ld _ _ _) ?_
    refine s17 ?_
    refine s14 ?_
    obtain ⟨g4, hE⟩ := hE
    refine s40 (v := ld I 65 (x5 - (ld I 59 13)).toNat) sh65 g4 rfl (oI_ld _ _ _) ?_
    refine s0 ?_
    refine s4 (x := x3) rfl ?_
    refine s22 ?_
    refine s26 ?_
    refine s44 sh65 (by decide) g4 rfl ?_
    refine s10 (x := x5) (ls' := [.ref 59, .ref 65, w2, .int (oI x3), .int (oI x4), .int (oI (x5 + 1))]) rfl rfl ?_
    refine s60 ?_
    exact hE
set_option maxRecDepth 4000 in
theorem e135a65 {d L : Nat} {I : Nat → Nat → Int32} {R : Nat → Nat → Option Nat} {S : List (Nat × Nat)} {K : mM → Prop} {A : aS} (hC : RC R S I A) {x2 : Int} {x3 : Int} (hE : (0 ≤ x2 ∧ x2 < 850) ∧ (h135_1a65 (d + 1) L I R S (rqV K) (.int (oI x2)) x3 (min (ld I 59 14) (ld I 34 x2.toNat)) (max (ld I 59 13) (ld I 33 x2.toNat)))) : CallV (d + 1) 135 [.ref 59, .ref 65, .int (oI x2), .int (oI x3)] (bd L I R S) K := by
  refine cV_of (ls := [.ref 59, .ref 65, .int (oI x2), .int (oI x3), mUn, mUn]) rfl ?_
  refine xG gb135.1 ?_
  refine s6 (p := 59) rfl ?_
  refine s50 (v := ld I 59 14) sh59 (by decide) (by decide) (oI_ld _ _ _) ?_
  refine s6 (p := 59) rfl ?_
  refine s51 sh59 (by decide) (by decide) rf59_2 ?_
  refine s51 sh31 (by decide) (by decide) rf31_2 ?_
  refine s4 (x := x2) rfl ?_
  obtain ⟨g1, hE⟩ := hE
  refine s40 (v := ld I 34 x2.toNat) sh34 g1 rfl (oI_ld _ _ _) ?_
  refine sI rc345 rfl (Nat.le_of_ble_eq_true rfl) ?_
  refine k345 (ld_inR _ _ _) (ld_inR _ _ _) ?_
  refine s7 (ls' := [.ref 59, .ref 65, .int (oI x2), .int (oI x3), .int (oI (min (ld I 59 14) (ld I 34 x2.toNat))), mUn]) (Nat.le_of_ble_eq_true rfl) rfl ?_
  refine s6 (p := 59) rfl ?_
  refine s50 (v := ld I 59 13) sh59 (by decide) (by decide) (oI_ld _ _ _) ?_
  refine s6 (p := 59) rfl ?_
  refine s51 sh59 (by decide) (by decide) rf59_2 ?_
  refine s51 sh31 (by decide) (by decide) rf31_1 ?_
  refine s4 (x := x2) rfl ?_
  refine s40 (v := ld I 33 x2.toNat) sh33 g1 rfl (oI_ld _ _ _) ?_
  refine sI rc346 rfl (Nat.le_of_ble_eq_true rfl) ?_
  refine k346 (ld_inR _ _ _) (ld_inR _ _ _) ?_
  refine s7 (ls' := [.ref 59, .ref 65, .int (oI x2), .int (oI x3), .int (oI (min (ld I 59 14) (ld I 34 x2.toNat))), .int (oI (max (ld I 59 13) (ld I 33 x2.toNat)))]) (Nat.le_of_ble_eq_true rfl) rfl ?_
  refine s79 ?_
  exact hE
section
variable {d L : Nat} {I I0 : mI} {R : mR} {S : mSh} {Q : Option Value → mM → Prop} {A : aS} {c day known kind half year subj code : Int}
theorem l135a65 {f t lo la bit : Int} (hf : 0 ≤ f) (ht : t ≤ 799 ∧ t ≤ f + 99) (hlo : f ≤ lo ∧ lo ≤ 3000) (hla : la ≤ t ∧ -3000 ≤ la) (hK : ∀ I1, Fr [65] [] I0 I1 → (∀ i : Nat, i < 100 → ld I1 65 i = if lo ≤ f + i ∧ f + i ≤ la then iOr (ld I0 65 i) (iShl 1 bit) else ld I0 65 i) → Q none (bd L I1 R S)) : ∀ (n : Nat) (x : Int) (w2 : Value) (I : mI), (la + 1 - x).toNat = n → lo ≤ x → (x = lo ∨ x ≤ la + 1) → RC R S I A → ld I 59 13 = f → Fr [65] [] I0 I → (∀ i : Nat, i < 100 → ld I 65 i = if lo ≤ f + i ∧ f + i < x then iOr (ld I0 65 i) (iShl 1 bit) else ld I0 65 i) → h135_1a65 d L I R S Q w2 bit la x := by
  intro n
  induction n with
  | zero =>
    intro x w2 I hn h1 h2 hC h13 hfr hj
    refine e135_1a65 hC ⟨by unfold inR; omega, by unfold inR; omega, fun c => hK I hfr (fun i hi => ?_), fun c => by exfalso; omega⟩
    rw [hj i hi]
    by_cases q : lo ≤ f + i ∧ f + i < x
    · rw [if_pos q]
      by_cases q2 : f + i ≤ la
      · rw [if_pos ⟨q.1, q2⟩]
      · exfalso; omega
    · rw [if_neg q, if_neg (by omega)]
  | succ n ih =>
    intro x w2 I hn h1 h2 hC h13 hfr hj
    refine e135_1a65 hC ?_
    rw [h13]
    refine ⟨by unfold inR; omega, by unfold inR; omega, fun c => by exfalso; omega, fun _ => ⟨by omega, ?_⟩⟩
    have hv : inR (iOr (ld I 65 (x - f).toNat) (iShl 1 bit)) := inR_toInt _
    refine ih (x + 1) _ _ (by omega) (by omega) (by omega) (hC.scr rfl) ?_ (hfr.wr rfl) (fun i hi => ?_)
    · rw [ld_o (by decide)]; exact h13
    · rw [ld_w hv]
      by_cases q : i = (x - f).toNat
      · rw [if_pos q, hj _ (by omega), if_neg (by omega), if_pos (by omega), q]
      · rw [if_neg q, hj i hi]
        by_cases q2 : lo ≤ f + i ∧ f + i < x
        · rw [if_pos q2, if_pos (by omega)]
        · rw [if_neg q2, if_neg (by omega)]
theorem k135a65 {n bit : Int} {K : mM → Prop} (hC : RC R S I A) (hW : WfA A) (hn : 0 ≤ n ∧ n < A 91 3) (hk : A 103 n.toNat = 1 ∨ (3 ≤ A 103 n.toNat ∧ A 103 n.toNat ≤ 5)) (hf : 0 ≤ ld I 59 13 ∧ ld I 59 13 ≤ 799) (ht : ld I 59 14 ≤ 799 ∧ ld I 59 14 ≤ ld I 59 13 + 99 ∧ 0 ≤ ld I 59 14) (hK : ∀ I1, Fr [65] [] I I1 → (∀ i : Nat, i < 100 → ld I 59 13 + i ≤ ld I 59 14 → ld I1 65 i = if A 105 n.toNat ≤ ld I 59 13 + i ∧ ld I 59 13 + i ≤ A 106 n.toNat then iOr (ld I 65 i) (iShl 1 bit) else ld I 65 i) → K (bd L I1 R S)) : CallV (d + 1) 135 [.ref 59, .ref 65, .int (oI n), .int (oI bit)] (bd L I R S) K := by
  have hN := hW.2.2.2.1
  unfold WfN at hN
  have hl : n.toNat < nN A := by unfold nN; omega
  have w := (hW.2.2.2.2 n.toNat hl).2.2.2.2.1 hk
  obtain ⟨b1, b2, -⟩ := hC.2.2.1.1 n.toNat hl
  refine e135a65 hC ⟨by omega, ?_⟩
  rw [b1, b2, show frN A n.toNat = A 105 n.toNat by unfold frN; rw [if_neg (by omega)]]
  refine l135a65 (I0 := I) (f := ld I 59 13) (t := ld I 59 14) (lo := max (ld I 59 13) (A 105 n.toNat)) hf.1 ⟨ht.1, ht.2.1⟩ (by omega) (by omega) (fun I1 h1 h2 => rqV_of (hK I1 h1 (fun i hi hi2 => ?_))) _ _ _ I rfl (Int.le_refl _) (Or.inl rfl) hC rfl (Fr.refl _ _ _) (fun i hi => ?_)
  · rw [h2 i hi]
    by_cases q : A 105 n.toNat ≤ ld I 59 13 + i ∧ ld I 59 13 + i ≤ A 106 n.toNat
    · rw [if_pos q, if_pos (by omega)]
    · rw [if_neg q, if_neg (by omega)]
  · rw [if_neg (by omega)]
end
def h135_1a66 (d L : Nat) (I : Nat → Nat → Int32) (R : Nat → Nat → Option Nat) (S : List (Nat × Nat)) (Q : Option Value → mM → Prop) (w2 : Value) (x3 : Int) (x4 : Int) (x5 : Int) : Prop := Wp d (gb 135 1) [.ref 59, .ref 66, w2, .int (oI x3), .int (oI x4), .int (oI x5)] [] (bd L I R S) Q
set_option maxRecDepth 4000 in
theorem e135_1a66 {d L : Nat} {I : Nat → Nat → Int32} {R : Nat → Nat → Option Nat} {S : List (Nat × Nat)} {Q : Option Value → mM → Prop} {A : aS} (hC : RC R S I A) {w2 : Value} {x3 : Int} {x4 : Int} {x5 : Int} (hE : inR x5 ∧ (inR x4 ∧ (((x4 < x5) → Q none (bd L I R S)) ∧ (¬ (x4 < x5) → (0 ≤ x5 - (ld I 59 13) ∧ x5 - (ld I 59 13) < 100) ∧ (h135_1a66 d L (u2 I 66 (x5 - (ld I 59 13)).toNat (oI (iOr (ld I 66 (x5 - (ld I 59 13)).toNat) (iShl 1 x3)))) R S Q w2 x3 x4 (x5 + 1)))))) : h135_1a66 d L I R S Q w2 x3 x4 x5 := by
  unfold h135_1a66
  refine xG gb135.2.1 ?_
  refine s4 (x := x5) rfl ?_
  refine s4 (x := x4) rfl ?_
  obtain ⟨g1, hE⟩ := hE
  obtain ⟨g2, hE⟩ := hE
  refine s65 g1 g2 (fun c3 => ?_) (fun c3 => ?_)
  · replace hE := hE.1 c3
    refine xG gb135.2.2 ?_
    refine s83 ?_
    exact hE
  · replace hE := hE.2 c3
    refine s6 (p := 66) rfl ?_
    refine s4 (x := x5) rfl ?_
    refine s6 (p := 59) rfl ?_
    refine s50 (v := ld I 59 13) sh59 (by decide) (by decide) (oI_ld _ _ _) ?_
    refine s17 ?_
    refine s14 ?_
    obtain ⟨g4, hE⟩ := hE
    refine s40 (v := ld I 66 (x5 - (ld I 59 13)).toNat) sh66 g4 rfl (oI_ld _ _ _) ?_
    refine s0 ?_
    refine s4 (x := x3) rfl ?_
    refine s22 ?_
    refine s26 ?_
    refine s44 sh66 (by decide) g4 rfl ?_
    refine s10 (x := x5) (ls' := [.ref 59, .ref 66, w2, .int (oI x3), .int (oI x4), .int (oI (x5 + 1))]) rfl rfl ?_
    refine s60 ?_
    exact hE
set_option maxRecDepth 4000 in
theorem e135a66 {d L : Nat} {I : Nat → Nat → Int32} {R : Nat → Nat → Option Nat} {S : List (Nat × Nat)} {K : mM → Prop} {A : aS} (hC : RC R S I A) {x2 : Int} {x3 : Int} (hE : (0 ≤ x2 ∧ x2 < 850) ∧ (h135_1a66 (d + 1) L I R S (rqV K) (.int (oI x2)) x3 (min (ld I 59 14) (ld I 34 x2.toNat)) (max (ld I 59 13) (ld I 33 x2.toNat)))) : CallV (d + 1) 135 [.ref 59, .ref 66, .int (oI x2), .int (oI x3)] (bd L I R S) K := by
  refine cV_of (ls := [.ref 59, .ref 66, .int (oI x2), .int (oI x3), mUn, mUn]) rfl ?_
  refine xG gb135.1 ?_
  refine s6 (p := 59) rfl ?_
  refine s50 (v := ld I 59 14) sh59 (by decide) (by decide) (oI_ld _ _ _) ?_
  refine s6 (p := 59) rfl ?_
  refine s51 sh59 (by decide) (by decide) rf59_2 ?_
  refine s51 sh31 (by decide) (by decide) rf31_2 ?_
  refine s4 (x := x2) rfl ?_
  obtain ⟨g1, hE⟩ := hE
  refine s40 (v := ld I 34 x2.toNat) sh34 g1 rfl (oI_ld _ _ _) ?_
  refine sI rc345 rfl (Nat.le_of_ble_eq_true rfl) ?_
  refine k345 (ld_inR _ _ _) (ld_inR _ _ _) ?_
  refine s7 (ls' := [.ref 59, .ref 66, .int (oI x2), .int (oI x3), .int (oI (min (ld I 59 14) (ld I 34 x2.toNat))), mUn]) (Nat.le_of_ble_eq_true rfl) rfl ?_
  refine s6 (p := 59) rfl ?_
  refine s50 (v := ld I 59 13) sh59 (by decide) (by decide) (oI_ld _ _ _) ?_
  refine s6 (p := 59) rfl ?_
  refine s51 sh59 (by decide) (by decide) rf59_2 ?_
  refine s51 sh31 (by decide) (by decide) rf31_1 ?_
  refine s4 (x := x2) rfl ?_
  refine s40 (v := ld I 33 x2.toNat) sh33 g1 rfl (oI_ld _ _ _) ?_
  refine sI rc346 rfl (Nat.le_of_ble_eq_true rfl) ?_
  refine k346 (ld_inR _ _ _) (ld_inR _ _ _) ?_
  refine s7 (ls' := [.ref 59, .ref 66, .int (oI x2), .int (oI x3), .int (oI (min (ld I 59 14) (ld I 34 x2.toNat))), .int (oI (max (ld I 59 13) (ld I 33 x2.toNat)))]) (Nat.le_of_ble_eq_true rfl) rfl ?_
  refine s79 ?_
  exact hE
section
variable {d L : Nat} {I I0 : mI} {R : mR} {S : mSh} {Q : Option Value → mM → Prop} {A : aS} {c day known kind half year subj code : Int}
theorem l135a66 {f t lo la bit : Int} (hf : 0 ≤ f) (ht : t ≤ 799 ∧ t ≤ f + 99) (hlo : f ≤ lo ∧ lo ≤ 3000) (hla : la ≤ t ∧ -3000 ≤ la) (hK : ∀ I1, Fr [66] [] I0 I1 → (∀ i : Nat, i < 100 → ld I1 66 i = if lo ≤ f + i ∧ f + i ≤ la then iOr (ld I0 66 i) (iShl 1 bit) else ld I0 66 i) → Q none (bd L I1 R S)) : ∀ (n : Nat) (x : Int) (w2 : Value) (I : mI), (la + 1 - x).toNat = n → lo ≤ x → (x = lo ∨ x ≤ la + 1) → RC R S I A → ld I 59 13 = f → Fr [66] [] I0 I → (∀ i : Nat, i < 100 → ld I 66 i = if lo ≤ f + i ∧ f + i < x then iOr (ld I0 66 i) (iShl 1 bit) else ld I0 66 i) → h135_1a66 d L I R S Q w2 bit la x := by
  intro n
  induction n with
  | zero =>
    intro x w2 I hn h1 h2 hC h13 hfr hj
    refine e135_1a66 hC ⟨by unfold inR; omega, by unfold inR; omega, fun c => hK I hfr (fun i hi => ?_), fun c => by exfalso; omega⟩
    rw [hj i hi]
    by_cases q : lo ≤ f + i ∧ f + i < x
    · rw [if_pos q]
      by_cases q2 : f + i ≤ la
      · rw [if_pos ⟨q.1, q2⟩]
      · exfalso; omega
    · rw [if_neg q, if_neg (by omega)]
  | succ n ih =>
    intro x w2 I hn h1 h2 hC h13 hfr hj
    refine e135_1a66 hC ?_
    rw [h13]
    refine ⟨by unfold inR; omega, by unfold inR; omega, fun c => by exfalso; omega, fun _ => ⟨by omega, ?_⟩⟩
    have hv : inR (iOr (ld I 66 (x - f).toNat) (iShl 1 bit)) := inR_toInt _
    refine ih (x + 1) _ _ (by omega) (by omega) (by omega) (hC.scr rfl) ?_ (hfr.wr rfl) (fun i hi => ?_)
    · rw [ld_o (by decide)]; exact h13
    · rw [ld_w hv]
      by_cases q : i = (x - f).toNat
      · rw [if_pos q, hj _ (by omega), if_neg (by omega), if_pos (by omega), q]
      · rw [if_neg q, hj i hi]
        by_cases q2 : lo ≤ f + i ∧ f + i < x
        · rw [if_pos q2, if_pos (by omega)]
        · rw [if_neg q2, if_neg (by omega)]
theorem k135a66 {n bit : Int} {K : mM → Prop} (hC : RC R S I A) (hW : WfA A) (hn : 0 ≤ n ∧ n < A 91 3) (hk : A 103 n.toNat = 1 ∨ (3 ≤ A 103 n.toNat ∧ A 103 n.toNat ≤ 5)) (hf : 0 ≤ ld I 59 13 ∧ ld I 59 13 ≤ 799) (ht : ld I 59 14 ≤ 799 ∧ ld I 59 14 ≤ ld I 59 13 + 99 ∧ 0 ≤ ld I 59 14) (hK : ∀ I1, Fr [66] [] I I1 → (∀ i : Nat, i < 100 → ld I 59 13 + i ≤ ld I 59 14 → ld I1 66 i = if A 105 n.toNat ≤ ld I 59 13 + i ∧ ld I 59 13 + i ≤ A 106 n.toNat then iOr (ld I 66 i) (iShl 1 bit) else ld I 66 i) → K (bd L I1 R S)) : CallV (d + 1) 135 [.ref 59, .ref 66, .int (oI n), .int (oI bit)] (bd L I R S) K := by
  have hN := hW.2.2.2.1
  unfold WfN at hN
  have hl : n.toNat < nN A := by unfold nN; omega
  have w := (hW.2.2.2.2 n.toNat hl).2.2.2.2.1 hk
  obtain ⟨b1, b2, -⟩ := hC.2.2.1.1 n.toNat hl
  refine e135a66 hC ⟨by omega, ?_⟩
  rw [b1, b2, show frN A n.toNat = A 105 n.toNat by unfold frN; rw [if_neg (by omega)]]
  refine l135a66 (I0 := I) (f := ld I 59 13) (t := ld I 59 14) (lo := max (ld I 59 13) (A 105 n.toNat)) hf.1 ⟨ht.1, ht.2.1⟩ (by omega) (by omega) (fun I1 h1 h2 => rqV_of (hK I1 h1 (fun i hi hi2 => ?_))) _ _ _ I rfl (Int.le_refl _) (Or.inl rfl) hC rfl (Fr.refl _ _ _) (fun i hi => ?_)
  · rw [h2 i hi]
    by_cases q : A 105 n.toNat ≤ ld I 59 13 + i ∧ ld I 59 13 + i ≤ A 106 n.toNat
    · rw [if_pos q, if_pos (by omega)]
    · rw [if_neg q, if_neg (by omega)]
  · rw [if_neg (by omega)]
end
def h135_1a67 (d L : Nat) (I : Nat → Nat → Int32) (R : Nat → Nat → Option Nat) (S : List (Nat × Nat)) (Q : Option Value → mM → Prop) (w2 : Value) (x3 : Int) (x4 : Int) (x5 : Int) : Prop := Wp d (gb 135 1) [.ref 59, .ref 67, w2, .int (oI x3), .int (oI x4), .int (oI x5)] [] (bd L I R S) Q
set_option maxRecDepth 4000 in
theorem e135_1a67 {d L : Nat} {I : Nat → Nat → Int32} {R : Nat → Nat → Option Nat} {S : List (Nat × Nat)} {Q : Option Value → mM → Prop} {A : aS} (hC : RC R S I A) {w2 : Value} {x3 : Int} {x4 : Int} {x5 : Int} (hE : inR x5 ∧ (inR x4 ∧ (((x4 < x5) → Q none (bd L I R S)) ∧ (¬ (x4 < x5) → (0 ≤ x5 - (ld I 59 13) ∧ x5 - (ld I 59 13) < 100) ∧ (h135_1a67 d L (u2 I 67 (x5 - (ld I 59 13)).toNat (oI (iOr (ld I 67 (x5 - (ld I 59 13)).toNat) (iShl 1 x3)))) R S Q w2 x3 x4 (x5 + 1)))))) : h135_1a67 d L I R S Q w2 x3 x4 x5 := by
  unfold h135_1a67
  refine xG gb135.2.1 ?_
  refine s4 (x := x5) rfl ?_
  refine s4 (x := x4) rfl ?_
  obtain ⟨g1, hE⟩ := hE
  obtain ⟨g2, hE⟩ := hE
  refine s65 g1 g2 (fun c3 => ?_) (fun c3 => ?_)
  · replace hE := hE.1 c3
    refine xG gb135.2.2 ?_
    refine s83 ?_
    exact hE
  · replace hE := hE.2 c3
    refine s6 (p := 67) rfl ?_
    refine s4 (x := x5) rfl ?_
    refine s6 (p := 59) rfl ?_
    refine s50 (v := ld I 59 13) sh59 (by decide) (by decide) (oI_ld _ _ _) ?_
    refine s17 ?_
    refine s14 ?_
    obtain ⟨g4, hE⟩ := hE
    refine s40 (v := ld I 67 (x5 - (ld I 59 13)).toNat) sh67 g4 rfl (oI_ld _ _ _) ?_
    refine s0 ?_
    refine s4 (x := x3) rfl ?_
    refine s22 ?_
    refine s26 ?_
    refine s44 sh67 (by decide) g4 rfl ?_
    refine s10 (x := x5) (ls' := [.ref 59, .ref 67, w2, .int (oI x3), .int (oI x4), .int (oI (x5 + 1))]) rfl rfl ?_
    refine s60 ?_
    exact hE
set_option maxRecDepth 4000 in
theorem e135a67 {d L : Nat} {I : Nat → Nat → Int32} {R : Nat → Nat → Option Nat} {S : List (Nat × Nat)} {K : mM → Prop} {A : aS} (hC : RC R S I A) {x2 : Int} {x3 : Int} (hE : (0 ≤ x2 ∧ x2 < 850) ∧ (h135_1a67 (d + 1) L I R S (rqV K) (.int (oI x2)) x3 (min (ld I 59 14) (ld I 34 x2.toNat)) (max (ld I 59 13) (ld I 33 x2.toNat)))) : CallV (d + 1) 135 [.ref 59, .ref 67, .int (oI x2), .int (oI x3)] (bd L I R S) K := by
  refine cV_of (ls := [.ref 59, .ref 67, .int (oI x2), .int (oI x3), mUn, mUn]) rfl ?_
  refine xG gb135.1 ?_
  refine s6 (p := 59) rfl ?_
  refine s50 (v := ld I 59 14) sh59 (by decide) (by decide) (oI_ld _ _ _) ?_
  refine s6 (p := 59) rfl ?_
  refine s51 sh59 (by decide) (by decide) rf59_2 ?_
  refine s51 sh31 (by decide) (by decide) rf31_2 ?_
  refine s4 (x := x2) rfl ?_
  obtain ⟨g1, hE⟩ := hE
  refine s40 (v := ld I 34 x2.toNat) sh34 g1 rfl (oI_ld _ _ _) ?_
  refine sI rc345 rfl (Nat.le_of_ble_eq_true rfl) ?_
  refine k345 (ld_inR _ _ _) (ld_inR _ _ _) ?_
  refine s7 (ls' := [.ref 59, .ref 67, .int (oI x2), .int (oI x3), .int (oI (min (ld I 59 14) (ld I 34 x2.toNat))), mUn]) (Nat.le_of_ble_eq_true rfl) rfl ?_
  refine s6 (p := 59) rfl ?_
  refine s50 (v := ld I 59 13) sh59 (by decide) (by decide) (oI_ld _ _ _) ?_
  refine s6 (p := 59) rfl ?_
  refine s51 sh59 (by decide) (by decide) rf59_2 ?_
  refine s51 sh31 (by decide) (by decide) rf31_1 ?_
  refine s4 (x := x2) rfl ?_
  refine s40 (v := ld I 33 x2.toNat) sh33 g1 rfl (oI_ld _ _ _) ?_
  refine sI rc346 rfl (Nat.le_of_ble_eq_true rfl) ?_
  refine k346 (ld_inR _ _ _) (ld_inR _ _ _) ?_
  refine s7 (ls' := [.ref 59, .ref 67, .int (oI x2), .int (oI x3), .int (oI (min (ld I 59 14) (ld I 34 x2.toNat))), .int (oI (max (ld I 59 13) (ld I 33 x2.toNat)))]) (Nat.le_of_ble_eq_true rfl) rfl ?_
  refine s79 ?_
  exact hE
section
variable {d L : Nat} {I I0 : mI} {R : mR} {S : mSh} {Q : Option Value → mM → Prop} {A : aS} {c day known kind half year subj code : Int}
theorem l135a67 {f t lo la bit : Int} (hf : 0 ≤ f) (ht : t ≤ 799 ∧ t ≤ f + 99) (hlo : f ≤ lo ∧ lo ≤ 3000) (hla : la ≤ t ∧ -3000 ≤ la) (hK : ∀ I1, Fr [67] [] I0 I1 → (∀ i : Nat, i < 100 → ld I1 67 i = if lo ≤ f + i ∧ f + i ≤ la then iOr (ld I0 67 i) (iShl 1 bit) else ld I0 67 i) → Q none (bd L I1 R S)) : ∀ (n : Nat) (x : Int) (w2 : Value) (I : mI), (la + 1 - x).toNat = n → lo ≤ x → (x = lo ∨ x ≤ la + 1) → RC R S I A → ld I 59 13 = f → Fr [67] [] I0 I → (∀ i : Nat, i < 100 → ld I 67 i = if lo ≤ f + i ∧ f + i < x then iOr (ld I0 67 i) (iShl 1 bit) else ld I0 67 i) → h135_1a67 d L I R S Q w2 bit la x := by
  intro n
  induction n with
  | zero =>
    intro x w2 I hn h1 h2 hC h13 hfr hj
    refine e135_1a67 hC ⟨by unfold inR; omega, by unfold inR; omega, fun c => hK I hfr (fun i hi => ?_), fun c => by exfalso; omega⟩
    rw [hj i hi]
    by_cases q : lo ≤ f + i ∧ f + i < x
    · rw [if_pos q]
      by_cases q2 : f + i ≤ la
      · rw [if_pos ⟨q.1, q2⟩]
      · exfalso; omega
    · rw [if_neg q, if_neg (by omega)]
  | succ n ih =>
    intro x w2 I hn h1 h2 hC h13 hfr hj
    refine e135_1a67 hC ?_
    rw [h13]
    refine ⟨by unfold inR; omega, by unfold inR; omega, fun c => by exfalso; omega, fun _ => ⟨by omega, ?_⟩⟩
    have hv : inR (iOr (ld I 67 (x - f).toNat) (iShl 1 bit)) := inR_toInt _
    refine ih (x + 1) _ _ (by omega) (by omega) (by omega) (hC.scr rfl) ?_ (hfr.wr rfl) (fun i hi => ?_)
    · rw [ld_o (by decide)]; exact h13
    · rw [ld_w hv]
      by_cases q : i = (x - f).toNat
      · rw [if_pos q, hj _ (by omega), if_neg (by omega), if_pos (by omega), q]
      · rw [if_neg q, hj i hi]
        by_cases q2 : lo ≤ f + i ∧ f + i < x
        · rw [if_pos q2, if_pos (by omega)]
        · rw [if_neg q2, if_neg (by omega)]
theorem k135a67 {n bit : Int} {K : mM → Prop} (hC : RC R S I A) (hW : WfA A) (hn : 0 ≤ n ∧ n < A 91 3) (hk : A 103 n.toNat = 1 ∨ (3 ≤ A 103 n.toNat ∧ A 103 n.toNat ≤ 5)) (hf : 0 ≤ ld I 59 13 ∧ ld I 59 13 ≤ 799) (ht : ld I 59 14 ≤ 799 ∧ ld I 59 14 ≤ ld I 59 13 + 99 ∧ 0 ≤ ld I 59 14) (hK : ∀ I1, Fr [67] [] I I1 → (∀ i : Nat, i < 100 → ld I 59 13 + i ≤ ld I 59 14 → ld I1 67 i = if A 105 n.toNat ≤ ld I 59 13 + i ∧ ld I 59 13 + i ≤ A 106 n.toNat then iOr (ld I 67 i) (iShl 1 bit) else ld I 67 i) → K (bd L I1 R S)) : CallV (d + 1) 135 [.ref 59, .ref 67, .int (oI n), .int (oI bit)] (bd L I R S) K := by
  have hN := hW.2.2.2.1
  unfold WfN at hN
  have hl : n.toNat < nN A := by unfold nN; omega
  have w := (hW.2.2.2.2 n.toNat hl).2.2.2.2.1 hk
  obtain ⟨b1, b2, -⟩ := hC.2.2.1.1 n.toNat hl
  refine e135a67 hC ⟨by omega, ?_⟩
  rw [b1, b2, show frN A n.toNat = A 105 n.toNat by unfold frN; rw [if_neg (by omega)]]
  refine l135a67 (I0 := I) (f := ld I 59 13) (t := ld I 59 14) (lo := max (ld I 59 13) (A 105 n.toNat)) hf.1 ⟨ht.1, ht.2.1⟩ (by omega) (by omega) (fun I1 h1 h2 => rqV_of (hK I1 h1 (fun i hi hi2 => ?_))) _ _ _ I rfl (Int.le_refl _) (Or.inl rfl) hC rfl (Fr.refl _ _ _) (fun i hi => ?_)
  · rw [h2 i hi]
    by_cases q : A 105 n.toNat ≤ ld I 59 13 + i ∧ ld I 59 13 + i ≤ A 106 n.toNat
    · rw [if_pos q, if_pos (by omega)]
    · rw [if_neg q, if_neg (by omega)]
  · rw [if_neg (by omega)]
end
def h134_1 (d L : Nat) (I : Nat → Nat → Int32) (R : Nat → Nat → Option Nat) (S : List (Nat × Nat)) (Q : Option Value → mM → Prop) (w1 : Value) (w2 : Value) (w3 : Value) (x4 : Int) (w5 : Value) (w6 : Value) : Prop := Wp d (gb 134 1) [.ref 59, w1, w2, w3, .int (oI x4), w5, w6] [] (bd L I R S) Q
def h134_3 (d L : Nat) (I : Nat → Nat → Int32) (R : Nat → Nat → Option Nat) (S : List (Nat × Nat)) (Q : Option Value → mM → Prop) (w1 : Value) (w2 : Value) (w3 : Value) (x4 : Int) (w5 : Value) (w6 : Value) : Prop := Wp d (gb 134 3) [.ref 59, w1, w2, w3, .int (oI x4), w5, w6] [] (bd L I R S) Q
def h134_4 (d L : Nat) (I : Nat → Nat → Int32) (R : Nat → Nat → Option Nat) (S : List (Nat × Nat)) (Q : Option Value → mM → Prop) (w1 : Value) (w2 : Value) (w3 : Value) (x4 : Int) (x5 : Int) (x6 : Int) : Prop := Wp d (gb 134 4) [.ref 59, w1, w2, w3, .int (oI x4), .int (oI x5), .int (oI x6)] [] (bd L I R S) Q
set_option maxRecDepth 4000 in
theorem e134_1 {d L : Nat} {I : Nat → Nat → Int32} {R : Nat → Nat → Option Nat} {S : List (Nat × Nat)} {Q : Option Value → mM → Prop} {A : aS} (hC : RC R S I A) {w1 : Value} {w2 : Value} {w3 : Value} {x4 : Int} {w5 : Value} {w6 : Value} (hE : inR x4 ∧ (inR (ld I 59 14 - (ld I 59 13)) ∧ (((ld I 59 14 - (ld I 59 13) < x4) → h134_3 d L I R S Q w1 w2 (mNl w3) 0 w5 w6) ∧ (¬ (ld I 59 14 - (ld I 59 13) < x4) → (0 ≤ x4 ∧ x4 < 100) ∧ (h134_1 d L (u2 I 68 x4.toNat (oI 0)) R S Q w1 w2 (mNl w3) (x4 + 1) w5 w6))))) : h134_1 d L I R S Q w1 w2 w3 x4 w5 w6 := by
  unfold h134_1
  refine xG gb134.2.1 ?_
  refine s4 (x := x4) rfl ?_
  refine s6 (p := 59) rfl ?_
  refine s50 (v := ld I 59 14) sh59 (by decide) (by decide) (oI_ld _ _ _) ?_
  refine s6 (p := 59) rfl ?_
  refine s50 (v := ld I 59 13) sh59 (by decide) (by decide) (oI_ld _ _ _) ?_
  refine s17 ?_
  obtain ⟨g1, hE⟩ := hE
  obtain ⟨g2, hE⟩ := hE
  refine s65 g1 g2 (fun c3 => ?_) (fun c3 => ?_)
  · replace hE := hE.1 c3
    refine xG gb134.2.2.1 ?_
    refine s0 ?_
    refine s7 (ls' := [.ref 59, w1, w2, mNl w3, .int (oI 0), w5, w6]) (Nat.le_of_ble_eq_true rfl) rfl ?_
    refine s79 ?_
    exact hE
  · replace hE := hE.2 c3
    refine s6 (p := 59) rfl ?_
    refine s51 sh59 (by decide) (by decide) rf59_11 ?_
    refine s4 (x := x4) rfl ?_
    refine s0 ?_
    obtain ⟨g4, hE⟩ := hE
    refine s44 sh68 (by decide) g4 rfl ?_
    refine s10 (x := x4) (ls' := [.ref 59, w1, w2, mNl w3, .int (oI (x4 + 1)), w5, w6]) rfl rfl ?_
    refine s60 ?_
    exact hE
set_option maxRecDepth 4000 in
theorem e134_3 {d L : Nat} {I : Nat → Nat → Int32} {R : Nat → Nat → Option Nat} {S : List (Nat × Nat)} {Q : Option Value → mM → Prop} {A : aS} (hC : RC R S I A) {w1 : Value} {w2 : Value} {w3 : Value} {x4 : Int} {w5 : Value} {w6 : Value} (hE : inR x4 ∧ (((x4 < 6) → (0 ≤ 40 + x4 ∧ 40 + x4 < 46) ∧ (h134_4 (d + 1) L I R S Q w1 w2 w3 x4 (ld I 40 (40 + x4).toNat) (A 91 3))) ∧ (¬ (x4 < 6) → Q none (bd L I R S)))) : h134_3 (d + 1) L I R S Q w1 w2 w3 x4 w5 w6 := by
  unfold h134_3
  refine xG gb134.2.2.2.1 ?_
  refine s4 (x := x4) rfl ?_
  refine s0 ?_
  obtain ⟨g1, hE⟩ := hE
  refine s64 g1 (inRd rfl) (fun c2 => ?_) (fun c2 => ?_)
  · replace hE := hE.1 c2
    refine s6 (p := 59) rfl ?_
    refine s51 sh59 (by decide) (by decide) rf59_2 ?_
    refine s4 (x := x4) rfl ?_
    refine sI rc87 rfl (Nat.le_of_ble_eq_true rfl) ?_
    refine cI_of (ls := [.ref 31, .int (oI x4)]) rfl ?_
    refine xG gb87 ?_
    refine s6 (p := 31) rfl ?_
    refine s51 sh31 (by decide) (by decide) rf31_8 ?_
    refine s0 ?_
    refine s4 (x := x4) rfl ?_
    refine s16 ?_
    obtain ⟨g3, hE⟩ := hE
    refine s40 (v := ld I 40 (40 + x4).toNat) sh40 g3 rfl (oI_ld _ _ _) ?_
    refine s80 ?_
    refine rqI_of ?_
    refine s7 (ls' := [.ref 59, w1, w2, w3, .int (oI x4), .int (oI (ld I 40 (40 + x4).toNat)), w6]) (Nat.le_of_ble_eq_true rfl) rfl ?_
    refine s6 (p := 59) rfl ?_
    refine s51 sh59 (by decide) (by decide) rf59_2 ?_
    refine s50 (v := A 91 3) sh31 (by decide) (by decide) (rdC hC.1 rfl) ?_
    refine s7 (ls' := [.ref 59, w1, w2, w3, .int (oI x4), .int (oI (ld I 40 (40 + x4).toNat)), .int (oI (A 91 3))]) (Nat.le_of_ble_eq_true rfl) rfl ?_
    refine s79 ?_
    exact hE
  · replace hE := hE.2 c2
    refine xG gb134.2.2.2.2.2.2.2 ?_
    refine s83 ?_
    exact hE
set_option maxRecDepth 4000 in
theorem e134_4 {d L : Nat} {I : Nat → Nat → Int32} {R : Nat → Nat → Option Nat} {S : List (Nat × Nat)} {Q : Option Value → mM → Prop} {A : aS} (hC : RC R S I A) {w1 : Value} {w2 : Value} {w3 : Value} {x4 : Int} {x5 : Int} {x6 : Int} (hE : inR x6 ∧ (((0 < x6) → inR x5 ∧ (((x5 = (-1)) → h134_3 (d + 2) L I R S Q w1 w2 (mNl w3) (x4 + 1) (.int (oI x5)) (.int (oI x6))) ∧ (¬ (x5 = (-1)) → WfA A ∧ ((0 ≤ x5 ∧ x5 < A 91 3) ∧ ((0 ≤ ld I 59 15 ∧ ld I 59 15 ≤ 799) ∧ (((A 108 x5.toNat ≤ ld I 59 15 ∧ ld I 59 15 < A 109 x5.toNat) → (A 103 x5.toNat = 1 ∨ (3 ≤ A 103 x5.toNat ∧ A 103 x5.toNat ≤ 5)) ∧ ((0 ≤ ld I 59 13 ∧ ld I 59 13 ≤ 799) ∧ ((ld I 59 14 ≤ 799 ∧ ld I 59 14 ≤ ld I 59 13 + 99 ∧ 0 ≤ ld I 59 14) ∧ (∀ (I13 : mI), (Fr [68] [] I I13) → (∀ i : Nat, i < 100 → ld I 59 13 + i ≤ ld I 59 14 → ld I13 68 i = if A 105 x5.toNat ≤ ld I 59 13 + i ∧ ld I 59 13 + i ≤ A 106 x5.toNat then iOr (ld I 68 i) (iShl 1 x4) else ld I 68 i) → (0 ≤ x5 ∧ x5 < 850) ∧ (h134_4 (d + 2) L I13 R S Q w1 w2 w3 x4 (ld I13 39 x5.toNat) (x6 + (-1))))))) ∧ (¬ (A 108 x5.toNat ≤ ld I 59 15 ∧ ld I 59 15 < A 109 x5.toNat) → (0 ≤ x5 ∧ x5 < 850) ∧ (h134_4 (d + 2) L I R S Q w1 w2 w3 x4 (ld I 39 x5.toNat) (x6 + (-1)))))))))) ∧ (¬ (0 < x6) → h134_3 (d + 2) L I R S Q w1 w2 (mNl w3) (x4 + 1) (.int (oI x5)) (.int (oI x6))))) : h134_4 (d + 2) L I R S Q w1 w2 w3 x4 x5 x6 := by
  unfold h134_4
  refine xG gb134.2.2.2.2.1 ?_
  refine s4 (x := x6) rfl ?_
  obtain ⟨g1, hE⟩ := hE
  refine s72 g1 (fun c2 => ?_) (fun c2 => ?_)
  · replace hE := hE.1 c2
    refine s4 (x := x5) rfl ?_
    refine s0 ?_
    obtain ⟨g3, hE⟩ := hE
    refine s61 g3 (inRd rfl) (fun c4 => ?_) (fun c4 => ?_)
    · replace hE := hE.1 c4
      refine xG gb134.2.2.2.2.2.2.1 ?_
      refine s10 (x := x4) (ls' := [.ref 59, w1, w2, mNl w3, .int (oI (x4 + 1)), .int (oI x5), .int (oI x6)]) rfl rfl ?_
      refine s60 ?_
      exact hE
    · replace hE := hE.2 c4
      refine s6 (p := 59) rfl ?_
      refine s51 sh59 (by decide) (by decide) rf59_2 ?_
      refine s4 (x := x5) rfl ?_
      refine s6 (p := 59) rfl ?_
      refine s50 (v := ld I 59 15) sh59 (by decide) (by decide) (oI_ld _ _ _) ?_
      obtain ⟨g5, hE⟩ := hE
      obtain ⟨g6, hE⟩ := hE
      obtain ⟨g7, hE⟩ := hE
      refine sI rc88 rfl (Nat.le_of_ble_eq_true rfl) ?_
      refine k88 hC g5 g6 g7 (fun c8 => ?_) (fun c8 => ?_)
      · replace hE := hE.1 c8
        refine s67 (inRd rfl) (fun c9 => absurd c9 (by decide)) (fun _ => ?_)
        refine s6 (p := 59) rfl ?_
        refine s6 (p := 59) rfl ?_
        refine s51 sh59 (by decide) (by decide) rf59_11 ?_
        refine s4 (x := x5) rfl ?_
        refine s4 (x := x4) rfl ?_
        obtain ⟨g10, hE⟩ := hE
        obtain ⟨g11, hE⟩ := hE
        obtain ⟨g12, hE⟩ := hE
        refine sV rc135 rfl (Nat.le_of_ble_eq_true rfl) ?_
        refine k135a68 hC g5 g6 g10 g11 g12 (fun I13 q14 q15 => ?_)
        replace hE := hE I13 q14 q15
        refine s79 ?_
        refine xG gb134.2.2.2.2.2.1 ?_
        refine s6 (p := 59) rfl ?_
        refine s51 sh59 (by decide) (by decide) rf59_2 ?_
        refine s4 (x := x5) rfl ?_
        refine sI rc89 rfl (Nat.le_of_ble_eq_true rfl) ?_
        refine cI_of (ls := [.ref 31, .int (oI x5)]) rfl ?_
        refine xG gb89 ?_
        refine s6 (p := 31) rfl ?_
        refine s51 sh31 (by decide) (by decide) rf31_7 ?_
        refine s4 (x := x5) rfl ?_
        obtain ⟨g16, hE⟩ := hE
        refine s40 (v := ld I13 39 x5.toNat) sh39 g16 rfl (oI_ld _ _ _) ?_
        refine s80 ?_
        refine rqI_of ?_
        refine s7 (ls' := [.ref 59, w1, w2, w3, .int (oI x4), .int (oI (ld I13 39 x5.toNat)), .int (oI x6)]) (Nat.le_of_ble_eq_true rfl) rfl ?_
        refine s10 (x := x6) (ls' := [.ref 59, w1, w2, w3, .int (oI x4), .int (oI (ld I13 39 x5.toNat)), .int (oI (x6 + (-1)))]) rfl rfl ?_
        refine s60 ?_
        exact hE
      · replace hE := hE.2 c8
        refine s67 (inRd rfl) (fun _ => ?_) (fun c17 => absurd (by decide) c17)
        refine xG gb134.2.2.2.2.2.1 ?_
        refine s6 (p := 59) rfl ?_
        refine s51 sh59 (by decide) (by decide) rf59_2 ?_
        refine s4 (x := x5) rfl ?_
        refine sI rc89 rfl (Nat.le_of_ble_eq_true rfl) ?_
        refine cI_of (ls := [.ref 31, .int (oI x5)]) rfl ?_
        refine xG gb89 ?_
        refine s6 (p := 31) rfl ?_
        refine s51 sh31 (by decide) (by decide) rf31_7 ?_
        refine s4 (x := x5) rfl ?_
        obtain ⟨g18, hE⟩ := hE
        refine s40 (v := ld I 39 x5.toNat) sh39 g18 rfl (oI_ld _ _ _) ?_
        refine s80 ?_
        refine rqI_of ?_
        refine s7 (ls' := [.ref 59, w1, w2, w3, .int (oI x4), .int (oI (ld I 39 x5.toNat)), .int (oI x6)]) (Nat.le_of_ble_eq_true rfl) rfl ?_
        refine s10 (x := x6) (ls' := [.ref 59, w1, w2, w3, .int (oI x4), .int (oI (ld I 39 x5.toNat)), .int (oI (x6 + (-1)))]) rfl rfl ?_
        refine s60 ?_
        exact hE
  · replace hE := hE.2 c2
    refine xG gb134.2.2.2.2.2.2.1 ?_
    refine s10 (x := x4) (ls' := [.ref 59, w1, w2, mNl w3, .int (oI (x4 + 1)), .int (oI x5), .int (oI x6)]) rfl rfl ?_
    refine s60 ?_
    exact hE
set_option maxRecDepth 4000 in
theorem e134 {d L : Nat} {I : Nat → Nat → Int32} {R : Nat → Nat → Option Nat} {S : List (Nat × Nat)} {K : mM → Prop} {A : aS} (hC : RC R S I A) {x1 : Int} {x2 : Int} {x3 : Int} (hE : inR x2 ∧ (inR (x1 + 100 - 1) ∧ (h134_1 (d + 1) L (u2 (u2 (u2 I 59 13 (oI x1)) 59 14 (oI (min x2 (x1 + 100 - 1)))) 59 15 (oI x3)) R S (rqV K) (.int (oI x1)) (.int (oI x2)) (.int (oI x3)) 0 mUn mUn))) : CallV (d + 1) 134 [.ref 59, .int (oI x1), .int (oI x2), .int (oI x3)] (bd L I R S) K := by
  refine cV_of (ls := [.ref 59, .int (oI x1), .int (oI x2), .int (oI x3), mUn, mUn, mUn]) rfl ?_
  refine xG gb134.1 ?_
  refine s6 (p := 59) rfl ?_
  refine s4 (x := x1) rfl ?_
  refine s52 sh59 (by decide) (by decide) ?_
  refine s6 (p := 59) rfl ?_
  refine s4 (x := x2) rfl ?_
  refine s4 (x := x1) rfl ?_
  refine s0 ?_
  refine s16 ?_
  refine s0 ?_
  refine s17 ?_
  obtain ⟨g1, hE⟩ := hE
  obtain ⟨g2, hE⟩ := hE
  refine sI rc345 rfl (Nat.le_of_ble_eq_true rfl) ?_
  refine k345 g1 g2 ?_
  refine s52 sh59 (by decide) (by decide) ?_
  refine s6 (p := 59) rfl ?_
  refine s4 (x := x3) rfl ?_
  refine s52 sh59 (by decide) (by decide) ?_
  refine s0 ?_
  refine s7 (ls' := [.ref 59, .int (oI x1), .int (oI x2), .int (oI x3), .int (oI 0), mUn, mUn]) (Nat.le_of_ble_eq_true rfl) rfl ?_
  refine s79 ?_
  exact hE
section
variable {d L : Nat} {I I0 : mI} {R : mR} {S : mSh} {Q : Option Value → mM → Prop} {A : aS} {c day known kind half year subj code : Int}
/-- the window of days -/
def WnP (I : mI) (f t kn : Int) : Prop := ld I 59 13 = f ∧ ld I 59 14 = t ∧ ld I 59 15 = kn
def WnOk (f t kn : Int) : Prop := 0 ≤ f ∧ f ≤ t ∧ t ≤ 799 ∧ t ≤ f + 99 ∧ 0 ≤ kn ∧ kn ≤ 799
def ShP (A : aS) (I : mI) (f t kn : Int) : Prop := ∀ i : Nat, f + i ≤ t → ∀ s : Nat, s < 6 → btB (ld I 68 i) s = spS A 1 s (f + i) kn
def ShK (A : aS) (I : mI) (f t kn : Int) (s0 k : Nat) : Prop := ∀ i : Nat, f + i ≤ t → (0 ≤ ld I 68 i ∧ ld I 68 i < 64) ∧ ∀ s : Nat, s < 6 → btB (ld I 68 i) s = if s < s0 then spS A 1 s (f + i) kn else if s = s0 then spB A 1 s (f + i) kn k else false
theorem ShK.next {f t kn : Int} {s0 k : Nat} (h : ShK A I f t kn s0 k) (hc : ¬ (A 103 k = 1 ∧ A 104 k = s0 ∧ A 108 k ≤ kn ∧ kn < A 109 k)) : ShK A I f t kn s0 (k + 1) := by
  intro i hi
  refine ⟨(h i hi).1, fun s hs => ?_⟩
  rw [(h i hi).2 s hs]
  split
  · rfl
  · split
    · rename_i e
      rw [spB_succ, decide_eq_false, Bool.or_false]
      rintro ⟨a1, a2, a3, a4, a5⟩
      exact hc ⟨a1, by rw [a2, e], a4, a5⟩
    · rfl
theorem l134_4 {f t kn : Int} {s0 : Nat} (hW : WfA A) (hw : WnOk f t kn) (hs0 : s0 < 6) (hK : ∀ I1 w1 w2 w3 w5 w6, Fr [68] [] I0 I1 → RC R S I1 A → WnP I1 f t kn → ShK A I1 f t kn s0 (nN A) → h134_3 (d + 2) L I1 R S Q w1 w2 w3 (s0 + 1 : Nat) w5 w6) : ∀ (n k : Nat) (x6 : Int) (I : mI) (w1 w2 w3 : Value), k + n = nN A → (n : Int) ≤ x6 ∧ x6 ≤ 850 → Fr [68] [] I0 I → RC R S I A → WnP I f t kn → ShK A I f t kn s0 k → h134_4 (d + 2) L I R S Q w1 w2 w3 s0 (fstO A (40 + s0) k) x6 := by
  have hN := hW.2.2.2.1
  unfold WfN at hN
  unfold WnOk at hw
  have hN2 : (nN A : Int) = A 91 3 := by unfold nN; omega
  intro n
  induction n with
  | zero =>
    intro k x6 I w1 w2 w3 hk h6 hf hC hwn hsh
    rw [show k = nN A by omega, fstO_end]
    rw [show k = nN A by omega] at hsh
    refine e134_4 (d := d) hC ⟨by unfold inR; omega, fun _ => ⟨inRd rfl, fun _ => hK I _ _ _ _ _ hf hC hwn hsh, fun c => absurd rfl c⟩, fun _ => hK I _ _ _ _ _ hf hC hwn hsh⟩
  | succ n ih =>
    intro k x6 I w1 w2 w3 hk h6 hf hC hwn hsh
    rw [fstO_step (by omega)]
    by_cases ho : ownN A k = 40 + (s0 : Int)
    · rw [if_pos ho]
      obtain ⟨k1, k2⟩ := (own_sch hW (by omega)).mp ho
      obtain ⟨n1, n2, n3⟩ := hwn
      have hnx := (hC.2.2.1.1 k (by omega)).2.2.2.2
      rw [ho] at hnx
      refine e134_4 (d := d) hC ?_
      rw [n1, n2, n3, Int.toNat_natCast, hnx]
      refine ⟨by unfold inR; omega, fun _ => ⟨by unfold inR; omega, fun c => by exfalso; omega, fun _ => ?_⟩, fun c => by exfalso; omega⟩
      refine ⟨hW, by omega, by omega, fun c => ⟨Or.inl k1, by omega, by omega, fun I1 f1 hp1 => ⟨by omega, ?_⟩⟩, fun c => ⟨by omega, ?_⟩⟩
      · have hnx1 := ((hC.fr f1 rfl).2.2.1.1 k (by omega)).2.2.2.2
        rw [ho] at hnx1
        rw [hnx1]
        refine ih (k + 1) (x6 + -1) I1 _ _ _ (by omega) (by omega) (hf.trans f1) (hC.fr f1 rfl) ⟨by rw [f1.ld rfl]; exact n1, by rw [f1.ld rfl]; exact n2, by rw [f1.ld rfl]; exact n3⟩ (fun i hi => ?_)
        have hi1 := hp1 i (by omega) hi
        obtain ⟨r1, r2⟩ := hsh i hi
        by_cases q : A 105 k ≤ f + i ∧ f + i ≤ A 106 k
        · rw [if_pos q] at hi1
          rw [hi1]
          refine ⟨(bt_or (s := 0) r1 hs0 (by decide)).2, fun s hs => ?_⟩
          rw [(bt_or r1 hs0 hs).1, r2 s hs]
          by_cases e1 : s < s0
          · rw [if_pos e1, if_pos e1, decide_eq_false (by omega), Bool.or_false]
          · rw [if_neg e1, if_neg e1]
            by_cases e2 : s = s0
            · rw [if_pos e2, if_pos e2, spB_succ, decide_eq_true e2, decide_eq_true ⟨k1, by rw [k2, e2], q, c⟩]
            · rw [if_neg e2, if_neg e2, decide_eq_false e2]; rfl
        · rw [if_neg q] at hi1
          rw [hi1]
          refine ⟨r1, fun s hs => ?_⟩
          rw [r2 s hs]
          split
          · rfl
          · split
            · rw [spB_succ, decide_eq_false (fun hx => q hx.2.2.1), Bool.or_false]
            · rfl
      · exact ih (k + 1) (x6 + -1) I _ _ _ (by omega) (by omega) hf hC ⟨n1, n2, n3⟩ (hsh.next (fun hx => c hx.2.2))
    · rw [if_neg ho]
      exact ih (k + 1) x6 I w1 w2 w3 (by omega) (by omega) hf hC hwn (hsh.next (fun hx => ho ((own_sch hW (by omega)).mpr ⟨hx.1, hx.2.1⟩)))
theorem l134_3 {f t kn : Int} (hW : WfA A) (hw : WnOk f t kn) (hK : ∀ I1, Fr [68] [] I0 I1 → RC R S I1 A → WnP I1 f t kn → ShP A I1 f t kn → Q none (bd L I1 R S)) : ∀ (n s0 : Nat) (I : mI) (w1 w2 w3 w5 w6 : Value), s0 + n = 6 → Fr [68] [] I0 I → RC R S I A → WnP I f t kn → ShK A I f t kn s0 0 → h134_3 (d + 2) L I R S Q w1 w2 w3 s0 w5 w6 := by
  have hN := hW.2.2.2.1
  unfold WfN at hN
  intro n
  induction n with
  | zero =>
    intro s0 I w1 w2 w3 w5 w6 hs hf hC hwn hsh
    refine e134_3 (d := d + 1) hC ⟨by unfold inR; omega, fun c => by exfalso; omega, fun _ => hK I hf hC hwn (fun i hi s hs2 => ?_)⟩
    rw [(hsh i hi).2 s hs2, if_pos (by omega)]
  | succ n ih =>
    intro s0 I w1 w2 w3 w5 w6 hs hf hC hwn hsh
    have hhd := (hC.2.2.1.2 (40 + s0) (by omega)).1
    refine e134_3 (d := d + 1) hC ⟨by unfold inR; omega, fun _ => ⟨by omega, ?_⟩, fun c => by exfalso; omega⟩
    rw [show ((40 : Int) + s0).toNat = 40 + s0 by omega, hhd, show (((40 + s0 : Nat) : Nat) : Int) = 40 + (s0 : Int) by omega]
    refine l134_4 (I0 := I) hW hw (by omega) (fun I1 w1 w2 w3 w5 w6 f1 hC1 hw1 hs1 => ih (s0 + 1) I1 _ _ _ _ _ (by omega) (hf.trans f1) hC1 hw1 (fun i hi => ⟨(hs1 i hi).1, fun s hs2 => ?_⟩)) (nN A) 0 (A 91 3) I _ _ _ (by omega) (by unfold nN; omega) (Fr.refl _ _ _) hC hwn hsh
    rw [(hs1 i hi).2 s hs2]
    by_cases e1 : s < s0
    · rw [if_pos e1, if_pos (by omega)]
    · rw [if_neg e1]
      by_cases e2 : s = s0
      · rw [if_pos e2, if_pos (by omega)]; rfl
      · rw [if_neg e2, if_neg (by omega)]
        split <;> rfl
theorem l134_1 {f t kn : Int} (hW : WfA A) (hw : WnOk f t kn) (hK : ∀ I1, Fr [68] [] I0 I1 → RC R S I1 A → WnP I1 f t kn → ShP A I1 f t kn → Q none (bd L I1 R S)) : ∀ (n k : Nat) (I : mI) (w1 w2 w3 w5 w6 : Value), (k : Int) + n = t - f + 1 → Fr [68] [] I0 I → RC R S I A → WnP I f t kn → (∀ i : Nat, i < k → ld I 68 i = 0) → h134_1 (d + 2) L I R S Q w1 w2 w3 k w5 w6 := by
  have hw2 := hw
  unfold WnOk at hw2
  intro n
  induction n with
  | zero =>
    intro k I w1 w2 w3 w5 w6 hk hf hC hwn hz
    obtain ⟨n1, n2, n3⟩ := hwn
    refine e134_1 (d := d + 2) hC ?_
    rw [n1, n2]
    refine ⟨by unfold inR; omega, by unfold inR; omega, fun _ => ?_, fun c => by exfalso; omega⟩
    refine l134_3 (d := d) (I0 := I0) hW hw hK 6 0 I _ _ _ _ _ rfl hf hC ⟨n1, n2, n3⟩ (fun i hi => ?_)
    rw [hz i (by omega)]
    refine ⟨by omega, fun s hs => ?_⟩
    rw [if_neg (by omega), bt_0 ⟨s, hs⟩]
    split <;> rfl
  | succ n ih =>
    intro k I w1 w2 w3 w5 w6 hk hf hC hwn hz
    obtain ⟨n1, n2, n3⟩ := hwn
    refine e134_1 (d := d + 2) hC ?_
    rw [n1, n2]
    refine ⟨by unfold inR; omega, by unfold inR; omega, fun c => by exfalso; omega, fun _ => ⟨by omega, ?_⟩⟩
    rw [Int.toNat_natCast]
    refine ih (k + 1) _ _ _ _ _ _ (by omega) (hf.wr rfl) (hC.scr rfl) ⟨by rw [ld_o (by decide)]; exact n1, by rw [ld_o (by decide)]; exact n2, by rw [ld_o (by decide)]; exact n3⟩ (fun i hi => ?_)
    rw [ld_w (inRd rfl)]
    split
    · rfl
    · exact hz i (by omega)
theorem k134 {f t kn : Int} {K : mM → Prop} (hC : RC R S I A) (hW : WfA A) (hw : WnOk f t kn) (hK : ∀ I1, Fr [68] [(59, 13), (59, 14), (59, 15)] I I1 → WnP I1 f t kn → ShP A I1 f t kn → K (bd L I1 R S)) : CallV (d + 2) 134 [.ref 59, .int (oI f), .int (oI t), .int (oI kn)] (bd L I R S) K := by
  have hw2 := hw
  unfold WnOk at hw2
  have em : min t (f + 100 - 1) = t := by omega
  refine e134 (d := d + 1) hC ⟨by unfold inR; omega, by unfold inR; omega, ?_⟩
  rw [em]
  have r1 : inR f := by unfold inR; omega
  have r2 : inR t := by unfold inR; omega
  have r3 : inR kn := by unfold inR; omega
  refine l134_1 (d := d) (I0 := u2 (u2 (u2 I 59 13 (oI f)) 59 14 (oI t)) 59 15 (oI kn)) hW hw (fun I1 f1 hC1 hw1 hs1 => rqV_of (hK I1 ?_ hw1 hs1)) (t - f + 1).toNat 0 _ _ _ _ _ _ (by omega) (Fr.refl _ _ _) (((hC.scr rfl).scr rfl).scr rfl) ⟨?_, ?_, ?_⟩ (fun i hi => by omega)
  · exact Fr.trans ((((Fr.refl _ _ _).wr rfl).wr rfl).wr rfl) (f1.sub rfl rfl)
  · rw [ld_w r3, if_neg (by decide), ld_w r2, if_neg (by decide), ld_w r1, if_pos rfl]
  · rw [ld_w r3, if_neg (by decide), ld_w r2, if_pos rfl]
  · rw [ld_w r3, if_pos rfl]
end
