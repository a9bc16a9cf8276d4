/-! the class: the first clause of a kind -/
section
variable {P : Nat → Bool} {A : aS} {y : Nat}
theorem cnt_succ {n : Nat} : cnt P (n + 1) = cnt P n + (if P (n + 1) = true then 1 else 0) := rfl
theorem cnt_mono : ∀ {m n : Nat}, n ≤ m → cnt P n ≤ cnt P m
  | 0, n, h => by rw [show n = 0 by omega]; exact Nat.le_refl _
  | m + 1, n, h => by
    by_cases e : n = m + 1
    · rw [e]; exact Nat.le_refl _
    · have := cnt_mono (m := m) (n := n) (by omega)
      rw [cnt_succ]; omega
theorem cnt_lt {m n : Nat} (h : n < m) (hp : P (n + 1) = true) : cnt P n < cnt P m := by
  have h1 := cnt_mono (P := P) (m := m) (n := n + 1) (by omega)
  rw [cnt_succ, if_pos hp] at h1
  omega
theorem cnt_le : ∀ n : Nat, cnt P n ≤ n
  | 0 => Nat.le_refl _
  | n + 1 => by have := cnt_le n; rw [cnt_succ]; split <;> omega
def stM (A : aS) (y n : Nat) : Nat → Nat
  | 0 => 0
  | k + 1 => stM A y n k + cnt (isK A y k) n
theorem stK_N : ∀ k, stK A y k = stM A y 60 k
  | 0 => rfl
  | k + 1 => by show stK A y k + _ = stM A y 60 k + _; rw [stK_N k]
theorem isK_one {j k n : Nat} (h1 : isK A y j n = true) (h2 : isK A y k n = true) : j = k := by
  unfold isK at h1 h2
  simp only [Bool.and_eq_true, beq_iff_eq] at h1 h2
  omega
theorem stM_step {n : Nat} : ∀ k, stM A y (n + 1) k ≤ stM A y n k + 1 ∧ ((∀ j, j < k → isK A y j (n + 1) = false) → stM A y (n + 1) k = stM A y n k)
  | 0 => ⟨by show 0 ≤ 0 + 1; omega, fun _ => rfl⟩
  | k + 1 => by
    have ih := stM_step (n := n) k
    have e1 : stM A y (n + 1) (k + 1) = stM A y (n + 1) k + cnt (isK A y k) (n + 1) := rfl
    have e2 : stM A y n (k + 1) = stM A y n k + cnt (isK A y k) n := rfl
    rw [e1, e2, cnt_succ]
    cases hb : isK A y k (n + 1) with
    | true =>
      have h3 := ih.2 (fun j hj => by
        cases hc : isK A y j (n + 1) with
        | false => rfl
        | true => have := isK_one hc hb; omega)
      refine ⟨by rw [if_pos rfl]; omega, fun h => ?_⟩
      have := h k (by omega)
      rw [hb] at this
      cases this
    | false =>
      rw [if_neg (by decide)]
      refine ⟨by omega, fun h => ?_⟩
      have := ih.2 (fun j hj => h j (by omega))
      omega
theorem stM_le : ∀ n k, stM A y n k ≤ n
  | 0, k => by
    have : ∀ k, stM A y 0 k = 0 := by
      intro k
      induction k with
      | zero => rfl
      | succ k ih => show stM A y 0 k + cnt (isK A y k) 0 = 0; rw [ih]; rfl
    rw [this]; exact Nat.le_refl _
  | n + 1, k => by have h1 := stM_le n k; have h2 := (stM_step (A := A) (y := y) (n := n) k).1; omega
theorem stK_le {k : Nat} : stK A y k ≤ 60 := by rw [stK_N]; exact stM_le 60 k
end
def fmB (mask o : Int) : Bool := decide (0 ≤ o) && (decide (o < 31) && !(iAnd (iShr mask o) 1 == 0))
noncomputable def tlC (A : aS) (h : Nat → Int) (y kd mask : Int) (n : Nat) : Bool := !(cdS A y n == -1) && (ckd (A 140 (cdS A y n).toNat) == kd && (fmB mask (cOf (A 140 (cdS A y n).toNat) (A 141 (cdS A y n).toNat) (A 142 (cdS A y n).toNat)) && hdB A h (cdS A y n).toNat))
noncomputable def tlV (A : aS) (y n : Int) : Int := cVal (A 140 (cdS A y n).toNat) (A 141 (cdS A y n).toNat) (A 142 (cdS A y n).toNat)
noncomputable def tlF (A : aS) (h : Nat → Int) (y kd mask ow : Int) : Nat → Nat → Int
  | 0, _ => ow
  | f + 1, n => if tlC A h y kd mask n = true then tlV A y n else tlF A h y kd mask ow f (n + 1)
noncomputable def tlS (A : aS) (h : Nat → Int) (y kd mask ow : Int) : Int := tlF A h y kd mask ow 60 1
def h97_1a60 (d L : Nat) (I : Nat → Nat → Int32) (R : Nat → Nat → Option Nat) (S : List (Nat × Nat)) (Q : Option Value → mM → Prop) (w1 : Value) (w2 : Value) (x3 : Int) (x5 : Int) (x6 : Int) (x7 : Int) (w8 : Value) : Prop := Wp d (gb 97 1) [.ref 43, w1, w2, .int (oI x3), .ref 60, .int (oI x5), .int (oI x6), .int (oI x7), w8] [] (bd L I R S) Q
set_option maxRecDepth 4000 in
theorem e97_1a60 {d L : Nat} {I : Nat → Nat → Int32} {R : Nat → Nat → Option Nat} {S : List (Nat × Nat)} {Q : Option Value → mM → Prop} {A : aS} (hC : RC R S I A) {w1 : Value} {w2 : Value} {x3 : Int} {x5 : Int} {x6 : Int} {x7 : Int} {w8 : Value} (hE : inR x7 ∧ (inR x6 ∧ (((x7 < x6) → (0 ≤ x7 ∧ x7 < 480) ∧ (((R 56 x7.toNat = none) → h97_1a60 (d + 1) L I R S Q w1 w2 x3 x5 x6 (x7 + 1) .null) ∧ (∀ p5 : Nat, (R 56 x7.toNat = some p5) → obJ S p5 15 8 ∧ (((ld I p5 2 < 0) → h97_1a60 (d + 1) L I R S Q w1 w2 x3 x5 x6 (x7 + 1) (.ref p5)) ∧ (¬ (ld I p5 2 < 0) → ((ld I p5 2 < 31) → ((iAnd (iShr x3 (ld I p5 2)) 1 = 0) → h97_1a60 (d + 1) L I R S Q w1 w2 x3 x5 x6 (x7 + 1) (.ref p5)) ∧ (¬ (iAnd (iShr x3 (ld I p5 2)) 1 = 0) → ((R p5 6 = none) → Q (some (.int (oI (ld I p5 4)))) (bd L I R S)) ∧ (∀ p14 : Nat, (R p5 6 = some p14) → obJ S p14 16 5 ∧ (∃ (b17 : Bool), R195a60 d L I R S p14 0 b17 ∧ (((bI b17 = 0) → h97_1a60 (d + 1) L I R S Q w1 w2 x3 x5 x6 (x7 + 1) (.ref p5)) ∧ (¬ (bI b17 = 0) → Q (some (.int (oI (ld I p5 4)))) (bd L I R S))))))) ∧ (¬ (ld I p5 2 < 31) → h97_1a60 (d + 1) L I R S Q w1 w2 x3 x5 x6 (x7 + 1) (.ref p5))))))) ∧ (¬ (x7 < x6) → Q (some (.int (oI x5))) (bd L I R S))))) : h97_1a60 (d + 1) L I R S Q w1 w2 x3 x5 x6 x7 w8 := by
  unfold h97_1a60
  refine xG gb97.2.1 ?_
  refine s4 (x := x7) rfl ?_
  refine s4 (x := x6) rfl ?_
  obtain ⟨g1, hE⟩ := hE
  obtain ⟨g2, hE⟩ := hE
  refine s64 g1 g2 (fun c3 => ?_) (fun c3 => ?_)
  · replace hE := hE.1 c3
    refine s6 (p := 43) rfl ?_
    refine s51 sh43 (by decide) (by decide) rf43_11 ?_
    refine s4 (x := x7) rfl ?_
    obtain ⟨g4, hE⟩ := hE
    refine s43 (o := R 56 x7.toNat) sh56 g4 rfl (rfN rfl) ?_
    refine s9o (ls' := [.ref 43, w1, w2, .int (oI x3), .ref 60, .int (oI x5), .int (oI x6), .int (oI x7), vR (R 56 x7.toNat)]) (Nat.le_of_ble_eq_true rfl) rfl ?_
    refine s6o (o := R 56 x7.toNat) rfl ?_
    refine s73o (fun n6 => ?_) (fun p5 n6 => ?_)
    · replace hE := hE.1 n6
      (try rw [n6])
      show Wp _ _ [.ref 43, w1, w2, .int (oI x3), .ref 60, .int (oI x5), .int (oI x6), .int (oI x7), .null] [] _ _
      refine xG gb97.2.2.2.1 ?_
      refine s10 (x := x7) (ls' := [.ref 43, w1, w2, .int (oI x3), .ref 60, .int (oI x5), .int (oI x6), .int (oI (x7 + 1)), .null]) rfl rfl ?_
      refine s60 ?_
      exact hE
    · replace hE := hE.2 p5 n6
      (try rw [n6])
      show Wp _ _ [.ref 43, w1, w2, .int (oI x3), .ref 60, .int (oI x5), .int (oI x6), .int (oI x7), .ref p5] [] _ _
      refine s6 (p := p5) rfl ?_
      refine s4 (x := x3) rfl ?_
      obtain ⟨o7, hE⟩ := hE
      refine sI (rcvO o7 rfl rfl) rfl (Nat.le_of_ble_eq_true rfl) ?_
      refine cI_of (ls := [.ref p5, .int (oI x3)]) rfl ?_
      refine xG gb189.1 ?_
      refine s6 (p := p5) rfl ?_
      refine s50 (v := ld I p5 2) o7.sh o7.sp (by decide) (oI_ld _ _ _) ?_
      refine s69 (ld_inR _ _ _) (fun c8 => ?_) (fun c8 => ?_)
      · replace hE := hE.1 c8
        refine xG gb189.2.1 ?_
        refine s0 ?_
        refine s79 ?_
        refine xG gb189.2.2 ?_
        refine s84 (by decide) ?_
        refine rqI_of ?_
        refine s67 (inRd rfl) (fun _ => ?_) (fun c9 => absurd (by decide) c9)
        refine xG gb97.2.2.2.1 ?_
        refine s10 (x := x7) (ls' := [.ref 43, w1, w2, .int (oI x3), .ref 60, .int (oI x5), .int (oI x6), .int (oI (x7 + 1)), .ref p5]) rfl rfl ?_
        refine s60 ?_
        exact hE
      · replace hE := hE.2 c8
        refine s6 (p := p5) rfl ?_
        refine s50 (v := ld I p5 2) o7.sh o7.sp (by decide) (oI_ld _ _ _) ?_
        refine s0 ?_
        refine s64 (ld_inR _ _ _) (inRd rfl) (fun c10 => ?_) (fun c10 => ?_)
        · replace hE := hE.1 c10
          refine s4 (x := x3) rfl ?_
          refine s6 (p := p5) rfl ?_
          refine s50 (v := ld I p5 2) o7.sh o7.sp (by decide) (oI_ld _ _ _) ?_
          refine s23 ?_
          refine s0 ?_
          refine s25 ?_
          refine s67 (inR_toInt _) (fun c11 => ?_) (fun c11 => ?_)
          · replace hE := hE.1 c11
            refine xG gb189.2.1 ?_
            refine s0 ?_
            refine s79 ?_
            refine xG gb189.2.2 ?_
            refine s84 (by decide) ?_
            refine rqI_of ?_
            refine s67 (inRd rfl) (fun _ => ?_) (fun c12 => absurd (by decide) c12)
            refine xG gb97.2.2.2.1 ?_
            refine s10 (x := x7) (ls' := [.ref 43, w1, w2, .int (oI x3), .ref 60, .int (oI x5), .int (oI x6), .int (oI (x7 + 1)), .ref p5]) rfl rfl ?_
            refine s60 ?_
            exact hE
          · replace hE := hE.2 c11
            refine s0 ?_
            refine s60 ?_
            refine xG gb189.2.2 ?_
            refine s84 (by decide) ?_
            refine rqI_of ?_
            refine s67 (inRd rfl) (fun c13 => absurd c13 (by decide)) (fun _ => ?_)
            refine s6 (p := p5) rfl ?_
            refine s51o (o := R p5 6) o7.sh o7.sp (by decide) o7.rf ?_
            refine s73o (fun n15 => ?_) (fun p14 n15 => ?_)
            · replace hE := hE.1 n15
              (try rw [n15])
              show Wp _ _ [.ref 43, w1, w2, .int (oI x3), .ref 60, .int (oI x5), .int (oI x6), .int (oI x7), .ref p5] [] _ _
              refine xG gb97.2.2.1 ?_
              refine s6 (p := p5) rfl ?_
              refine s50 (v := ld I p5 4) o7.sh o7.sp (by decide) (oI_ld _ _ _) ?_
              refine s80 ?_
              exact hE
            · replace hE := hE.2 p14 n15
              (try rw [n15])
              show Wp _ _ [.ref 43, w1, w2, .int (oI x3), .ref 60, .int (oI x5), .int (oI x6), .int (oI x7), .ref p5] [] _ _
              refine s6 (p := p5) rfl ?_
              refine s51o (o := (some p14)) o7.sh o7.sp (by decide) (o7.rf.trans n15) ?_
              refine s6 (p := 60) rfl ?_
              refine s0 ?_
              obtain ⟨o16, hE⟩ := hE
              obtain ⟨b17, r18, hE⟩ := hE
              refine sI rc195 rfl (Nat.le_of_ble_eq_true rfl) ?_
              refine r18 _ ?_
              refine s67 (bI_in _) (fun c19 => ?_) (fun c19 => ?_)
              · replace hE := hE.1 c19
                refine xG gb97.2.2.2.1 ?_
                refine s10 (x := x7) (ls' := [.ref 43, w1, w2, .int (oI x3), .ref 60, .int (oI x5), .int (oI x6), .int (oI (x7 + 1)), .ref p5]) rfl rfl ?_
                refine s60 ?_
                exact hE
              · replace hE := hE.2 c19
                refine s79 ?_
                refine xG gb97.2.2.1 ?_
                refine s6 (p := p5) rfl ?_
                refine s50 (v := ld I p5 4) o7.sh o7.sp (by decide) (oI_ld _ _ _) ?_
                refine s80 ?_
                exact hE
        · replace hE := hE.2 c10
          refine xG gb189.2.1 ?_
          refine s0 ?_
          refine s79 ?_
          refine xG gb189.2.2 ?_
          refine s84 (by decide) ?_
          refine rqI_of ?_
          refine s67 (inRd rfl) (fun _ => ?_) (fun c20 => absurd (by decide) c20)
          refine xG gb97.2.2.2.1 ?_
          refine s10 (x := x7) (ls' := [.ref 43, w1, w2, .int (oI x3), .ref 60, .int (oI x5), .int (oI x6), .int (oI (x7 + 1)), .ref p5]) rfl rfl ?_
          refine s60 ?_
          exact hE
  · replace hE := hE.2 c3
    refine xG gb97.2.2.2.2 ?_
    refine s4 (x := x5) rfl ?_
    refine s80 ?_
    exact hE
set_option maxRecDepth 4000 in
theorem e97a60 {d L : Nat} {I : Nat → Nat → Int32} {R : Nat → Nat → Option Nat} {S : List (Nat × Nat)} {K : Int32 → mM → Prop} {A : aS} (hC : RC R S I A) {x1 : Int} {x2 : Int} {x3 : Int} {x5 : Int} (hE : (0 ≤ (((x1 * 16) + x2) - 130) + 1 ∧ (((x1 * 16) + x2) - 130) + 1 < 128) ∧ ((0 ≤ ((x1 * 16) + x2) - 130 ∧ ((x1 * 16) + x2) - 130 < 128) ∧ (h97_1a60 (d + 1) L I R S (rqI K) (.int (oI x1)) (.int (oI x2)) x3 x5 (ld I 57 ((((x1 * 16) + x2) - 130) + 1).toNat) (ld I 57 (((x1 * 16) + x2) - 130).toNat) mUn))) : CallI (d + 1) 97 [.ref 43, .int (oI x1), .int (oI x2), .int (oI x3), .ref 60, .int (oI x5)] (bd L I R S) K := by
  refine cI_of (ls := [.ref 43, .int (oI x1), .int (oI x2), .int (oI x3), .ref 60, .int (oI x5), mUn, mUn, mUn]) rfl ?_
  refine xG gb97.1 ?_
  refine s6 (p := 43) rfl ?_
  refine s4 (x := x1) rfl ?_
  refine s4 (x := x2) rfl ?_
  refine sI rc98 rfl (Nat.le_of_ble_eq_true rfl) ?_
  refine cI_of (ls := [.ref 43, .int (oI x1), .int (oI x2)]) rfl ?_
  refine xG gb98 ?_
  refine s6 (p := 43) rfl ?_
  refine s51 sh43 (by decide) (by decide) rf43_12 ?_
  refine s4 (x := x1) rfl ?_
  refine s0 ?_
  refine s18 ?_
  refine s4 (x := x2) rfl ?_
  refine s16 ?_
  refine s0 ?_
  refine s17 ?_
  refine s0 ?_
  refine s16 ?_
  obtain ⟨g1, hE⟩ := hE
  refine s40 (v := ld I 57 ((((x1 * 16) + x2) - 130) + 1).toNat) sh57 g1 rfl (oI_ld _ _ _) ?_
  refine s80 ?_
  refine rqI_of ?_
  refine s7 (ls' := [.ref 43, .int (oI x1), .int (oI x2), .int (oI x3), .ref 60, .int (oI x5), .int (oI (ld I 57 ((((x1 * 16) + x2) - 130) + 1).toNat)), mUn, mUn]) (Nat.le_of_ble_eq_true rfl) rfl ?_
  refine s6 (p := 43) rfl ?_
  refine s4 (x := x1) rfl ?_
  refine s4 (x := x2) rfl ?_
  refine sI rc99 rfl (Nat.le_of_ble_eq_true rfl) ?_
  refine cI_of (ls := [.ref 43, .int (oI x1), .int (oI x2)]) rfl ?_
  refine xG gb99 ?_
  refine s6 (p := 43) rfl ?_
  refine s51 sh43 (by decide) (by decide) rf43_12 ?_
  refine s4 (x := x1) rfl ?_
  refine s0 ?_
  refine s18 ?_
  refine s4 (x := x2) rfl ?_
  refine s16 ?_
  refine s0 ?_
  refine s17 ?_
  obtain ⟨g2, hE⟩ := hE
  refine s40 (v := ld I 57 (((x1 * 16) + x2) - 130).toNat) sh57 g2 rfl (oI_ld _ _ _) ?_
  refine s80 ?_
  refine rqI_of ?_
  refine s7 (ls' := [.ref 43, .int (oI x1), .int (oI x2), .int (oI x3), .ref 60, .int (oI x5), .int (oI (ld I 57 ((((x1 * 16) + x2) - 130) + 1).toNat)), .int (oI (ld I 57 (((x1 * 16) + x2) - 130).toNat)), mUn]) (Nat.le_of_ble_eq_true rfl) rfl ?_
  refine s79 ?_
  exact hE
section
variable {d L : Nat} {I : mI} {R : mR} {S : mSh} {Q : Option Value → mM → Prop} {A : aS} {h : Nat → Int}
theorem l97a60 {y k : Nat} {mask ow : Int} (hC : RC R S I A) (hW : WfC A) (hE : EnvC 60 I h) (hy : y < 8) (hk : k < 15) (ho : inR ow) : ∀ (f n : Nat) (w1 w2 w8 : Value), n + f = 60 → Q (some (.int (oI (tlF A h y (130 + k) mask ow f (n + 1))))) (bd L I R S) → h97_1a60 (d + 24) L I R S Q w1 w2 mask ow ((bsY A y + stK A y (k + 1) : Nat) : Int) ((bsY A y + stK A y k + cnt (isK A y k) n : Nat) : Int) w8 := by
  have hst : stK A y (k + 1) = stK A y k + cnt (isK A y k) 60 := rfl
  have hle := stK_le (A := A) (y := y) (k := k + 1)
  have hbs := bsY_le (A := A) (y := y)
  intro f
  induction f with
  | zero =>
    intro n w1 w2 w8 hn hQ
    obtain rfl : n = 60 := by omega
    refine e97_1a60 hC ⟨by unfold inR; omega, by unfold inR; omega, fun c => ?_, fun _ => hQ⟩
    exfalso
    omega
  | succ f ih =>
    intro n w1 w2 w8 hn hQ
    have es : tlF A h y (130 + k) mask ow (f + 1) (n + 1) = if tlC A h y (130 + k) mask (n + 1) = true then tlV A y (n + 1 : Nat) else tlF A h y (130 + k) mask ow f (n + 1 + 1) := rfl
    rw [es] at hQ
    cases hb : isK A y k (n + 1) with
    | false =>
      have e1 : cnt (isK A y k) n = cnt (isK A y k) (n + 1) := by rw [cnt_succ, if_neg (by rw [hb]; decide)]; rfl
      rw [e1]
      refine ih (n + 1) w1 w2 w8 (by omega) ?_
      rw [if_neg] at hQ
      · exact hQ
      · unfold isK at hb
        unfold tlC
        intro hc
        simp only [Bool.and_eq_true] at hc
        rw [hc.1, hc.2.1] at hb
        cases hb
    | true =>
      have hlt := cnt_lt (m := 60) (n := n) (by omega) hb
      have e1 : cnt (isK A y k) (n + 1) = cnt (isK A y k) n + 1 := by rw [cnt_succ, if_pos hb]
      have ih := fun w1 w2 w8 => ih (n + 1) w1 w2 w8 (by omega)
      rw [e1] at ih
      have ix : ((bsY A y + stK A y k + cnt (isK A y k) n : Nat) : Int) + 1 = ((bsY A y + stK A y k + (cnt (isK A y k) n + 1) : Nat) : Int) := by omega
      have hor := hC.2.1.2.2.1 y k n hy hk (by omega) hb
      unfold isK at hb
      simp only [Bool.and_eq_true, Bool.not_eq_true', beq_eq_false_iff_ne, beq_iff_eq] at hb
      obtain ⟨hb1, hb2⟩ := hb
      obtain ⟨p, hp1, hp2⟩ := (hC.2.1.1 y (n + 1) hy (by omega)).2 hb1
      rw [hp1] at hor
      obtain ⟨s, s1, s2, s3, s4, s5, -⟩ := cdS_wf hW hb1
      have es : (cdS A y (n + 1 : Nat)).toNat = s := by omega
      rw [es] at hp2 hb2
      obtain ⟨ho1, -, -, -, hr⟩ := hp2
      obtain ⟨h2, h3, h4, h5, h6, -⟩ := hr s5
      unfold tlC tlV at hQ
      rw [es, hb2, show (!cdS A y (n + 1 : Nat) == -1) = true by rw [Bool.not_eq_true']; exact beq_eq_false_iff_ne.mpr hb1, beq_self_eq_true, Bool.true_and, Bool.true_and] at hQ
      unfold fmB at hQ
      refine e97_1a60 hC ⟨by unfold inR; omega, by unfold inR; omega, fun _ => ⟨by omega, ?_⟩, fun c => absurd (by omega) c⟩
      rw [Int.toNat_natCast, hor]
      refine ⟨fun c => absurd c (by simp), fun p' hp' => ?_⟩
      cases hp'
      refine ⟨ho1, ?_⟩
      rw [h2, h4, ix]
      refine ⟨fun c => ?_, fun c => ⟨fun c2 => ⟨fun c3 => ?_, fun c3 => ⟨fun c4 => ?_, fun q hq => ?_⟩⟩, fun c2 => ?_⟩⟩
      · rw [if_neg] at hQ
        · exact ih _ _ _ hQ
        · rw [decide_eq_false (by omega)]; simp
      · rw [if_neg] at hQ
        · exact ih _ _ _ hQ
        · rw [c3]; simp
      · have hd : hdB A h s = true := by
          unfold hdB
          by_cases q : A 143 s = -1
          · rw [q]; rfl
          · obtain ⟨q1, hq1, -⟩ := h6 q
            rw [hq1] at c4; cases c4
        rw [if_pos] at hQ
        · exact hQ
        · rw [hd, decide_eq_true (by omega), decide_eq_true c2]; simp [c3]
      · have hq9 : ¬ A 143 s = -1 := fun q => by rw [h5 q] at hq; cases hq
        obtain ⟨q1, hq1, hq2⟩ := h6 hq9
        rw [hq1] at hq
        cases hq
        have hd : hdB A h s = tvA h 10 (wT A s) := by
          unfold hdB
          rw [show (A 143 s == -1) = false by simp [hq9], Bool.false_or]
        refine ⟨NJn.ob hq2 (fun _ _ hx => NJn.ob hx (fun q x hx => NOne.ob 10 q x hx)), tvA h 10 (wT A s), any60 (d := d) hE hq2, fun c5 => ?_, fun c5 => ?_⟩
        · rw [if_neg] at hQ
          · exact ih _ _ _ hQ
          · rw [hd]
            intro hx
            simp only [Bool.and_eq_true] at hx
            rw [hx.2] at c5
            exact absurd c5 (by decide)
        · rw [if_pos] at hQ
          · exact hQ
          · rw [hd, decide_eq_true (by omega), decide_eq_true c2]
            cases hv : tvA h 10 (wT A s)
            · rw [hv] at c5; exact absurd rfl c5
            · simp [c3]
      · rw [if_neg] at hQ
        · exact ih _ _ _ hQ
        · rw [decide_eq_false c2]; simp
theorem k97a60 {y kd mask ow : Int} {K : Int32 → mM → Prop} (hC : RC R S I A) (hW : WfC A) (hE : EnvC 60 I h) (hy : 0 ≤ y ∧ y ≤ 7) (hk : 130 ≤ kd ∧ kd ≤ 144) (ho : inR ow) (hK : K (oI (tlS A h y kd mask ow)) (bd L I R S)) : CallI (d + 24) 97 [.ref 43, .int (oI y), .int (oI kd), .int (oI mask), .ref 60, .int (oI ow)] (bd L I R S) K := by
  obtain ⟨y, rfl⟩ : ∃ n : Nat, y = n := ⟨y.toNat, by omega⟩
  obtain ⟨k, rfl⟩ : ∃ n : Nat, kd = 130 + n := ⟨(kd - 130).toNat, by omega⟩
  refine e97a60 (d := d + 23) hC ⟨by omega, by omega, ?_⟩
  rw [show ((y : Int) * 16 + (130 + k) - 130 + 1).toNat = 16 * y + (k + 1) by omega, show ((y : Int) * 16 + (130 + k) - 130).toNat = 16 * y + k by omega, hC.2.1.2.1 y (k + 1) (by omega) (by omega), hC.2.1.2.1 y k (by omega) (by omega)]
  exact l97a60 (d := d) hC hW hE (by omega) (by omega) ho 60 0 _ _ _ rfl (rqI_of hK)
end
def h97_1a58 (d L : Nat) (I : Nat → Nat → Int32) (R : Nat → Nat → Option Nat) (S : List (Nat × Nat)) (Q : Option Value → mM → Prop) (w1 : Value) (w2 : Value) (x3 : Int) (x5 : Int) (x6 : Int) (x7 : Int) (w8 : Value) : Prop := Wp d (gb 97 1) [.ref 43, w1, w2, .int (oI x3), .ref 58, .int (oI x5), .int (oI x6), .int (oI x7), w8] [] (bd L I R S) Q
set_option maxRecDepth 4000 in
theorem e97_1a58 {d L : Nat} {I : Nat → Nat → Int32} {R : Nat → Nat → Option Nat} {S : List (Nat × Nat)} {Q : Option Value → mM → Prop} {A : aS} (hC : RC R S I A) {w1 : Value} {w2 : Value} {x3 : Int} {x5 : Int} {x6 : Int} {x7 : Int} {w8 : Value} (hE : inR x7 ∧ (inR x6 ∧ (((x7 < x6) → (0 ≤ x7 ∧ x7 < 480) ∧ (((R 56 x7.toNat = none) → h97_1a58 (d + 1) L I R S Q w1 w2 x3 x5 x6 (x7 + 1) .null) ∧ (∀ p5 : Nat, (R 56 x7.toNat = some p5) → obJ S p5 15 8 ∧ (((ld I p5 2 < 0) → h97_1a58 (d + 1) L I R S Q w1 w2 x3 x5 x6 (x7 + 1) (.ref p5)) ∧ (¬ (ld I p5 2 < 0) → ((ld I p5 2 < 31) → ((iAnd (iShr x3 (ld I p5 2)) 1 = 0) → h97_1a58 (d + 1) L I R S Q w1 w2 x3 x5 x6 (x7 + 1) (.ref p5)) ∧ (¬ (iAnd (iShr x3 (ld I p5 2)) 1 = 0) → ((R p5 6 = none) → Q (some (.int (oI (ld I p5 4)))) (bd L I R S)) ∧ (∀ p14 : Nat, (R p5 6 = some p14) → obJ S p14 16 5 ∧ (∃ (b17 : Bool), R195a58 d L I R S p14 0 b17 ∧ (((bI b17 = 0) → h97_1a58 (d + 1) L I R S Q w1 w2 x3 x5 x6 (x7 + 1) (.ref p5)) ∧ (¬ (bI b17 = 0) → Q (some (.int (oI (ld I p5 4)))) (bd L I R S))))))) ∧ (¬ (ld I p5 2 < 31) → h97_1a58 (d + 1) L I R S Q w1 w2 x3 x5 x6 (x7 + 1) (.ref p5))))))) ∧ (¬ (x7 < x6) → Q (some (.int (oI x5))) (bd L I R S))))) : h97_1a58 (d + 1) L I R S Q w1 w2 x3 x5 x6 x7 w8 := by
  unfold h97_1a58
  refine xG gb97.2.1 ?_
  refine s4 (x := x7) rfl ?_
  refine s4 (x := x6) rfl ?_
  obtain ⟨g1, hE⟩ := hE
  obtain ⟨g2, hE⟩ := hE
  refine s64 g1 g2 (fun c3 => ?_) (fun c3 => ?_)
  · replace hE := hE.1 c3
    refine s6 (p := 43) rfl ?_
    refine s51 sh43 (by decide) (by decide) rf43_11 ?_
    refine s4 (x := x7) rfl ?_
    obtain ⟨g4, hE⟩ := hE
    refine s43 (o := R 56 x7.toNat) sh56 g4 rfl (rfN rfl) ?_
    refine s9o (ls' := [.ref 43, w1, w2, .int (oI x3), .ref 58, .int (oI x5), .int (oI x6), .int (oI x7), vR (R 56 x7.toNat)]) (Nat.le_of_ble_eq_true rfl) rfl ?_
    refine s6o (o := R 56 x7.toNat) rfl ?_
    refine s73o (fun n6 => ?_) (fun p5 n6 => ?_)
    · replace hE := hE.1 n6
      (try rw [n6])
      show Wp _ _ [.ref 43, w1, w2, .int (oI x3), .ref 58, .int (oI x5), .int (oI x6), .int (oI x7), .null] [] _ _
      refine xG gb97.2.2.2.1 ?_
      refine s10 (x := x7) (ls' := [.ref 43, w1, w2, .int (oI x3), .ref 58, .int (oI x5), .int (oI x6), .int (oI (x7 + 1)), .null]) rfl rfl ?_
      refine s60 ?_
      exact hE
    · replace hE := hE.2 p5 n6
      (try rw [n6])
      show Wp _ _ [.ref 43, w1, w2, .int (oI x3), .ref 58, .int (oI x5), .int (oI x6), .int (oI x7), .ref p5] [] _ _
      refine s6 (p := p5) rfl ?_
      refine s4 (x := x3) rfl ?_
      obtain ⟨o7, hE⟩ := hE
      refine sI (rcvO o7 rfl rfl) rfl (Nat.le_of_ble_eq_true rfl) ?_
      refine cI_of (ls := [.ref p5, .int (oI x3)]) rfl ?_
      refine xG gb189.1 ?_
      refine s6 (p := p5) rfl ?_
      refine s50 (v := ld I p5 2) o7.sh o7.sp (by decide) (oI_ld _ _ _) ?_
      refine s69 (ld_inR _ _ _) (fun c8 => ?_) (fun c8 => ?_)
      · replace hE := hE.1 c8
        refine xG gb189.2.1 ?_
        refine s0 ?_
        refine s79 ?_
        refine xG gb189.2.2 ?_
        refine s84 (by decide) ?_
        refine rqI_of ?_
        refine s67 (inRd rfl) (fun _ => ?_) (fun c9 => absurd (by decide) c9)
        refine xG gb97.2.2.2.1 ?_
        refine s10 (x := x7) (ls' := [.ref 43, w1, w2, .int (oI x3), .ref 58, .int (oI x5), .int (oI x6), .int (oI (x7 + 1)), .ref p5]) rfl rfl ?_
        refine s60 ?_
        exact hE
      · replace hE := hE.2 c8
        refine s6 (p := p5) rfl ?_
        refine s50 (v := ld I p5 2) o7.sh o7.sp (by decide) (oI_ld _ _ _) ?_
        refine s0 ?_
        refine s64 (ld_inR _ _ _) (inRd rfl) (fun c10 => ?_) (fun c10 => ?_)
        · replace hE := hE.1 c10
          refine s4 (x := x3) rfl ?_
          refine s6 (p := p5) rfl ?_
          refine s50 (v := ld I p5 2) o7.sh o7.sp (by decide) (oI_ld _ _ _) ?_
          refine s23 ?_
          refine s0 ?_
          refine s25 ?_
          refine s67 (inR_toInt _) (fun c11 => ?_) (fun c11 => ?_)
          · replace hE := hE.1 c11
            refine xG gb189.2.1 ?_
            refine s0 ?_
            refine s79 ?_
            refine xG gb189.2.2 ?_
            refine s84 (by decide) ?_
            refine rqI_of ?_
            refine s67 (inRd rfl) (fun _ => ?_) (fun c12 => absurd (by decide) c12)
            refine xG gb97.2.2.2.1 ?_
            refine s10 (x := x7) (ls' := [.ref 43, w1, w2, .int (oI x3), .ref 58, .int (oI x5), .int (oI x6), .int (oI (x7 + 1)), .ref p5]) rfl rfl ?_
            refine s60 ?_
            exact hE
          · replace hE := hE.2 c11
            refine s0 ?_
            refine s60 ?_
            refine xG gb189.2.2 ?_
            refine s84 (by decide) ?_
            refine rqI_of ?_
            refine s67 (inRd rfl) (fun c13 => absurd c13 (by decide)) (fun _ => ?_)
            refine s6 (p := p5) rfl ?_
            refine s51o (o := R p5 6) o7.sh o7.sp (by decide) o7.rf ?_
            refine s73o (fun n15 => ?_) (fun p14 n15 => ?_)
            · replace hE := hE.1 n15
              (try rw [n15])
              show Wp _ _ [.ref 43, w1, w2, .int (oI x3), .ref 58, .int (oI x5), .int (oI x6), .int (oI x7), .ref p5] [] _ _
              refine xG gb97.2.2.1 ?_
              refine s6 (p := p5) rfl ?_
              refine s50 (v := ld I p5 4) o7.sh o7.sp (by decide) (oI_ld _ _ _) ?_
              refine s80 ?_
              exact hE
            · replace hE := hE.2 p14 n15
              (try rw [n15])
              show Wp _ _ [.ref 43, w1, w2, .int (oI x3), .ref 58, .int (oI x5), .int (oI x6), .int (oI x7), .ref p5] [] _ _
              refine s6 (p := p5) rfl ?_
              refine s51o (o := (some p14)) o7.sh o7.sp (by decide) (o7.rf.trans n15) ?_
              refine s6 (p := 58) rfl ?_
              refine s0 ?_
              obtain ⟨o16, hE⟩ := hE
              obtain ⟨b17, r18, hE⟩ := hE
              refine sI rc195 rfl (Nat.le_of_ble_eq_true rfl) ?_
              refine r18 _ ?_
              refine s67 (bI_in _) (fun c19 => ?_) (fun c19 => ?_)
              · replace hE := hE.1 c19
                refine xG gb97.2.2.2.1 ?_
                refine s10 (x := x7) (ls' := [.ref 43, w1, w2, .int (oI x3), .ref 58, .int (oI x5), .int (oI x6), .int (oI (x7 + 1)), .ref p5]) rfl rfl ?_
                refine s60 ?_
                exact hE
              · replace hE := hE.2 c19
                refine s79 ?_
                refine xG gb97.2.2.1 ?_
                refine s6 (p := p5) rfl ?_
                refine s50 (v := ld I p5 4) o7.sh o7.sp (by decide) (oI_ld _ _ _) ?_
                refine s80 ?_
                exact hE
        · replace hE := hE.2 c10
          refine xG gb189.2.1 ?_
          refine s0 ?_
          refine s79 ?_
          refine xG gb189.2.2 ?_
          refine s84 (by decide) ?_
          refine rqI_of ?_
          refine s67 (inRd rfl) (fun _ => ?_) (fun c20 => absurd (by decide) c20)
          refine xG gb97.2.2.2.1 ?_
          refine s10 (x := x7) (ls' := [.ref 43, w1, w2, .int (oI x3), .ref 58, .int (oI x5), .int (oI x6), .int (oI (x7 + 1)), .ref p5]) rfl rfl ?_
          refine s60 ?_
          exact hE
  · replace hE := hE.2 c3
    refine xG gb97.2.2.2.2 ?_
    refine s4 (x := x5) rfl ?_
    refine s80 ?_
    exact hE
set_option maxRecDepth 4000 in
theorem e97a58 {d L : Nat} {I : Nat → Nat → Int32} {R : Nat → Nat → Option Nat} {S : List (Nat × Nat)} {K : Int32 → mM → Prop} {A : aS} (hC : RC R S I A) {x1 : Int} {x2 : Int} {x3 : Int} {x5 : Int} (hE : (0 ≤ (((x1 * 16) + x2) - 130) + 1 ∧ (((x1 * 16) + x2) - 130) + 1 < 128) ∧ ((0 ≤ ((x1 * 16) + x2) - 130 ∧ ((x1 * 16) + x2) - 130 < 128) ∧ (h97_1a58 (d + 1) L I R S (rqI K) (.int (oI x1)) (.int (oI x2)) x3 x5 (ld I 57 ((((x1 * 16) + x2) - 130) + 1).toNat) (ld I 57 (((x1 * 16) + x2) - 130).toNat) mUn))) : CallI (d + 1) 97 [.ref 43, .int (oI x1), .int (oI x2), .int (oI x3), .ref 58, .int (oI x5)] (bd L I R S) K := by
  refine cI_of (ls := [.ref 43, .int (oI x1), .int (oI x2), .int (oI x3), .ref 58, .int (oI x5), mUn, mUn, mUn]) rfl ?_
  refine xG gb97.1 ?_
  refine s6 (p := 43) rfl ?_
  refine s4 (x := x1) rfl ?_
  refine s4 (x := x2) rfl ?_
  refine sI rc98 rfl (Nat.le_of_ble_eq_true rfl) ?_
  refine cI_of (ls := [.ref 43, .int (oI x1), .int (oI x2)]) rfl ?_
  refine xG gb98 ?_
  refine s6 (p := 43) rfl ?_
  refine s51 sh43 (by decide) (by decide) rf43_12 ?_
  refine s4 (x := x1) rfl ?_
  refine s0 ?_
  refine s18 ?_
  refine s4 (x := x2) rfl ?_
  refine s16 ?_
  refine s0 ?_
  refine s17 ?_
  refine s0 ?_
  refine s16 ?_
  obtain ⟨g1, hE⟩ := hE
  refine s40 (v := ld I 57 ((((x1 * 16) + x2) - 130) + 1).toNat) sh57 g1 rfl (oI_ld _ _ _) ?_
  refine s80 ?_
  refine rqI_of ?_
  refine s7 (ls' := [.ref 43, .int (oI x1), .int (oI x2), .int (oI x3), .ref 58, .int (oI x5), .int (oI (ld I 57 ((((x1 * 16) + x2) - 130) + 1).toNat)), mUn, mUn]) (Nat.le_of_ble_eq_true rfl) rfl ?_
  refine s6 (p := 43) rfl ?_
  refine s4 (x := x1) rfl ?_
  refine s4 (x := x2) rfl ?_
  refine sI rc99 rfl (Nat.le_of_ble_eq_true rfl) ?_
  refine cI_of (ls := [.ref 43, .int (oI x1), .int (oI x2)]) rfl ?_
  refine xG gb99 ?_
  refine s6 (p := 43) rfl ?_
  refine s51 sh43 (by decide) (by decide) rf43_12 ?_
  refine s4 (x := x1) rfl ?_
  refine s0 ?_
  refine s18 ?_
  refine s4 (x := x2) rfl ?_
  refine s16 ?_
  refine s0 ?_
  refine s17 ?_
  obtain ⟨g2, hE⟩ := hE
  refine s40 (v := ld I 57 (((x1 * 16) + x2) - 130).toNat) sh57 g2 rfl (oI_ld _ _ _) ?_
  refine s80 ?_
  refine rqI_of ?_
  refine s7 (ls' := [.ref 43, .int (oI x1), .int (oI x2), .int (oI x3), .ref 58, .int (oI x5), .int (oI (ld I 57 ((((x1 * 16) + x2) - 130) + 1).toNat)), .int (oI (ld I 57 (((x1 * 16) + x2) - 130).toNat)), mUn]) (Nat.le_of_ble_eq_true rfl) rfl ?_
  refine s79 ?_
  exact hE
section
variable {d L : Nat} {I : mI} {R : mR} {S : mSh} {Q : Option Value → mM → Prop} {A : aS} {h : Nat → Int}
theorem l97a58 {y k : Nat} {mask ow : Int} (hC : RC R S I A) (hW : WfC A) (hE : EnvC 58 I h) (hy : y < 8) (hk : k < 15) (ho : inR ow) : ∀ (f n : Nat) (w1 w2 w8 : Value), n + f = 60 → Q (some (.int (oI (tlF A h y (130 + k) mask ow f (n + 1))))) (bd L I R S) → h97_1a58 (d + 24) L I R S Q w1 w2 mask ow ((bsY A y + stK A y (k + 1) : Nat) : Int) ((bsY A y + stK A y k + cnt (isK A y k) n : Nat) : Int) w8 := by
  have hst : stK A y (k + 1) = stK A y k + cnt (isK A y k) 60 := rfl
  have hle := stK_le (A := A) (y := y) (k := k + 1)
  have hbs := bsY_le (A := A) (y := y)
  intro f
  induction f with
  | zero =>
    intro n w1 w2 w8 hn hQ
    obtain rfl : n = 60 := by omega
    refine e97_1a58 hC ⟨by unfold inR; omega, by unfold inR; omega, fun c => ?_, fun _ => hQ⟩
    exfalso
    omega
  | succ f ih =>
    intro n w1 w2 w8 hn hQ
    have es : tlF A h y (130 + k) mask ow (f + 1) (n + 1) = if tlC A h y (130 + k) mask (n + 1) = true then tlV A y (n + 1 : Nat) else tlF A h y (130 + k) mask ow f (n + 1 + 1) := rfl
    rw [es] at hQ
    cases hb : isK A y k (n + 1) with
    | false =>
      have e1 : cnt (isK A y k) n = cnt (isK A y k) (n + 1) := by rw [cnt_succ, if_neg (by rw [hb]; decide)]; rfl
      rw [e1]
      refine ih (n + 1) w1 w2 w8 (by omega) ?_
      rw [if_neg] at hQ
      · exact hQ
      · unfold isK at hb
        unfold tlC
        intro hc
        simp only [Bool.and_eq_true] at hc
        rw [hc.1, hc.2.1] at hb
        cases hb
    | true =>
      have hlt := cnt_lt (m := 60) (n := n) (by omega) hb
      have e1 : cnt (isK A y k) (n + 1) = cnt (isK A y k) n + 1 := by rw [cnt_succ, if_pos hb]
      have ih := fun w1 w2 w8 => ih (n + 1) w1 w2 w8 (by omega)
      rw [e1] at ih
      have ix : ((bsY A y + stK A y k + cnt (isK A y k) n : Nat) : Int) + 1 = ((bsY A y + stK A y k + (cnt (isK A y k) n + 1) : Nat) : Int) := by omega
      have hor := hC.2.1.2.2.1 y k n hy hk (by omega) hb
      unfold isK at hb
      simp only [Bool.and_eq_true, Bool.not_eq_true', beq_eq_false_iff_ne, beq_iff_eq] at hb
      obtain ⟨hb1, hb2⟩ := hb
      obtain ⟨p, hp1, hp2⟩ := (hC.2.1.1 y (n + 1) hy (by omega)).2 hb1
      rw [hp1] at hor
      obtain ⟨s, s1, s2, s3, s4, s5, -⟩ := cdS_wf hW hb1
      have es : (cdS A y (n + 1 : Nat)).toNat = s := by omega
      rw [es] at hp2 hb2
      obtain ⟨ho1, -, -, -, hr⟩ := hp2
      obtain ⟨h2, h3, h4, h5, h6, -⟩ := hr s5
      unfold tlC tlV at hQ
      rw [es, hb2, show (!cdS A y (n + 1 : Nat) == -1) = true by rw [Bool.not_eq_true']; exact beq_eq_false_iff_ne.mpr hb1, beq_self_eq_true, Bool.true_and, Bool.true_and] at hQ
      unfold fmB at hQ
      refine e97_1a58 hC ⟨by unfold inR; omega, by unfold inR; omega, fun _ => ⟨by omega, ?_⟩, fun c => absurd (by omega) c⟩
      rw [Int.toNat_natCast, hor]
      refine ⟨fun c => absurd c (by simp), fun p' hp' => ?_⟩
      cases hp'
      refine ⟨ho1, ?_⟩
      rw [h2, h4, ix]
      refine ⟨fun c => ?_, fun c => ⟨fun c2 => ⟨fun c3 => ?_, fun c3 => ⟨fun c4 => ?_, fun q hq => ?_⟩⟩, fun c2 => ?_⟩⟩
      · rw [if_neg] at hQ
        · exact ih _ _ _ hQ
        · rw [decide_eq_false (by omega)]; simp
      · rw [if_neg] at hQ
        · exact ih _ _ _ hQ
        · rw [c3]; simp
      · have hd : hdB A h s = true := by
          unfold hdB
          by_cases q : A 143 s = -1
          · rw [q]; rfl
          · obtain ⟨q1, hq1, -⟩ := h6 q
            rw [hq1] at c4; cases c4
        rw [if_pos] at hQ
        · exact hQ
        · rw [hd, decide_eq_true (by omega), decide_eq_true c2]; simp [c3]
      · have hq9 : ¬ A 143 s = -1 := fun q => by rw [h5 q] at hq; cases hq
        obtain ⟨q1, hq1, hq2⟩ := h6 hq9
        rw [hq1] at hq
        cases hq
        have hd : hdB A h s = tvA h 10 (wT A s) := by
          unfold hdB
          rw [show (A 143 s == -1) = false by simp [hq9], Bool.false_or]
        refine ⟨NJn.ob hq2 (fun _ _ hx => NJn.ob hx (fun q x hx => NOne.ob 10 q x hx)), tvA h 10 (wT A s), any58 (d := d) hE hq2, fun c5 => ?_, fun c5 => ?_⟩
        · rw [if_neg] at hQ
          · exact ih _ _ _ hQ
          · rw [hd]
            intro hx
            simp only [Bool.and_eq_true] at hx
            rw [hx.2] at c5
            exact absurd c5 (by decide)
        · rw [if_pos] at hQ
          · exact hQ
          · rw [hd, decide_eq_true (by omega), decide_eq_true c2]
            cases hv : tvA h 10 (wT A s)
            · rw [hv] at c5; exact absurd rfl c5
            · simp [c3]
      · rw [if_neg] at hQ
        · exact ih _ _ _ hQ
        · rw [decide_eq_false c2]; simp
theorem k97a58 {y kd mask ow : Int} {K : Int32 → mM → Prop} (hC : RC R S I A) (hW : WfC A) (hE : EnvC 58 I h) (hy : 0 ≤ y ∧ y ≤ 7) (hk : 130 ≤ kd ∧ kd ≤ 144) (ho : inR ow) (hK : K (oI (tlS A h y kd mask ow)) (bd L I R S)) : CallI (d + 24) 97 [.ref 43, .int (oI y), .int (oI kd), .int (oI mask), .ref 58, .int (oI ow)] (bd L I R S) K := by
  obtain ⟨y, rfl⟩ : ∃ n : Nat, y = n := ⟨y.toNat, by omega⟩
  obtain ⟨k, rfl⟩ : ∃ n : Nat, kd = 130 + n := ⟨(kd - 130).toNat, by omega⟩
  refine e97a58 (d := d + 23) hC ⟨by omega, by omega, ?_⟩
  rw [show ((y : Int) * 16 + (130 + k) - 130 + 1).toNat = 16 * y + (k + 1) by omega, show ((y : Int) * 16 + (130 + k) - 130).toNat = 16 * y + k by omega, hC.2.1.2.1 y (k + 1) (by omega) (by omega), hC.2.1.2.1 y k (by omega) (by omega)]
  exact l97a58 (d := d) hC hW hE (by omega) (by omega) ho 60 0 _ _ _ rfl (rqI_of hK)
end
