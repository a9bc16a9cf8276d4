def h103_1 (d L : Nat) (I : Nat → Nat → Int32) (R : Nat → Nat → Option Nat) (S : List (Nat × Nat)) (Q : Option Value → mM → Prop) (x1 : Int) (x2 : Int) (x3 : Int) (w4 : Value) (w5 : Value) : Prop := Wp d (gb 103 1) [.ref 43, .int (oI x1), .int (oI x2), .int (oI x3), w4, w5] [] (bd L I R S) Q
def h103_2 (d L : Nat) (I : Nat → Nat → Int32) (R : Nat → Nat → Option Nat) (S : List (Nat × Nat)) (Q : Option Value → mM → Prop) (x1 : Int) (x2 : Int) (x3 : Int) (x4 : Int) (w5 : Value) : Prop := Wp d (gb 103 2) [.ref 43, .int (oI x1), .int (oI x2), .int (oI x3), .int (oI x4), w5] [] (bd L I R S) Q
set_option maxRecDepth 4000 in
theorem e103_1 {d L : Nat} {I : Nat → Nat → Int32} {R : Nat → Nat → Option Nat} {S : List (Nat × Nat)} {Q : Option Value → mM → Prop}  {x1 : Int} {x2 : Int} {x3 : Int} {w4 : Value} {w5 : Value} (hE : inR x3 ∧ (((144 < x3) → (0 ≤ (x1 * 16) + 15 ∧ (x1 * 16) + 15 < 128) ∧ ((0 ≤ x1 ∧ x1 < 8) ∧ (Q none (bd L (u2 (u2 I 57 ((x1 * 16) + 15).toNat (oI x2)) 44 x1.toNat (oI (x2 - (x1 * 60)))) R S)))) ∧ (¬ (144 < x3) → (0 ≤ ((x1 * 16) + x3) - 130 ∧ ((x1 * 16) + x3) - 130 < 128) ∧ (h103_2 d L (u2 I 57 (((x1 * 16) + x3) - 130).toNat (oI x2)) R S Q x1 x2 x3 1 w5)))) : h103_1 d L I R S Q x1 x2 x3 w4 w5 := by
  unfold h103_1
  refine xG gb103.2.1 ?_
  refine s4 (x := x3) rfl ?_
  refine s0 ?_
  obtain ⟨g1, hE⟩ := hE
  refine s65 g1 (inRd rfl) (fun c2 => ?_) (fun c2 => ?_)
  · replace hE := hE.1 c2
    refine xG gb103.2.2.2.2.2 ?_
    refine s6 (p := 43) rfl ?_
    refine s51 sh43 (by decide) (by decide) rf43_12 ?_
    refine s4 (x := x1) rfl ?_
    refine s0 ?_
    refine s18 ?_
    refine s0 ?_
    refine s16 ?_
    refine s4 (x := x2) rfl ?_
    obtain ⟨g3, hE⟩ := hE
    refine s44 sh57 (by decide) g3 rfl ?_
    refine s6 (p := 43) rfl ?_
    refine s51 sh43 (by decide) (by decide) rf43_0 ?_
    refine s4 (x := x1) rfl ?_
    refine s4 (x := x2) rfl ?_
    refine s4 (x := x1) rfl ?_
    refine s0 ?_
    refine s18 ?_
    refine s17 ?_
    obtain ⟨g4, hE⟩ := hE
    refine s44 sh44 (by decide) g4 rfl ?_
    refine s83 ?_
    exact hE
  · replace hE := hE.2 c2
    refine s6 (p := 43) rfl ?_
    refine s51 sh43 (by decide) (by decide) rf43_12 ?_
    refine s4 (x := x1) rfl ?_
    refine s0 ?_
    refine s18 ?_
    refine s4 (x := x3) rfl ?_
    refine s16 ?_
    refine s0 ?_
    refine s17 ?_
    refine s4 (x := x2) rfl ?_
    obtain ⟨g5, hE⟩ := hE
    refine s44 sh57 (by decide) g5 rfl ?_
    refine s0 ?_
    refine s7 (ls' := [.ref 43, .int (oI x1), .int (oI x2), .int (oI x3), .int (oI 1), w5]) (Nat.le_of_ble_eq_true rfl) rfl ?_
    refine s79 ?_
    exact hE
set_option maxRecDepth 4000 in
theorem e103_2 {d L : Nat} {I : Nat → Nat → Int32} {R : Nat → Nat → Option Nat} {S : List (Nat × Nat)} {Q : Option Value → mM → Prop}  {x1 : Int} {x2 : Int} {x3 : Int} {x4 : Int} {w5 : Value} (hE : inR x4 ∧ (((x4 < 61) → (0 ≤ (x1 * 61) + x4 ∧ (x1 * 61) + x4 < 488) ∧ (((R 55 ((x1 * 61) + x4).toNat = none) → h103_2 d L I R S Q x1 x2 x3 (x4 + 1) .null) ∧ (∀ p4 : Nat, (R 55 ((x1 * 61) + x4).toNat = some p4) → obJ S p4 15 8 ∧ (inR x3 ∧ (((ld I p4 1 = x3) → (0 ≤ x2 ∧ x2 < 480) ∧ (h103_2 d L I (u2 R 56 x2.toNat (some p4)) S Q x1 (x2 + 1) x3 (x4 + 1) (.ref p4))) ∧ (¬ (ld I p4 1 = x3) → h103_2 d L I R S Q x1 x2 x3 (x4 + 1) (.ref p4))))))) ∧ (¬ (x4 < 61) → h103_1 d L I R S Q x1 x2 (x3 + 1) (.int (oI x4)) w5))) : h103_2 d L I R S Q x1 x2 x3 x4 w5 := by
  unfold h103_2
  refine xG gb103.2.2.1 ?_
  refine s4 (x := x4) rfl ?_
  refine s0 ?_
  obtain ⟨g1, hE⟩ := hE
  refine s64 g1 (inRd rfl) (fun c2 => ?_) (fun c2 => ?_)
  · replace hE := hE.1 c2
    refine s6 (p := 43) rfl ?_
    refine s51 sh43 (by decide) (by decide) rf43_10 ?_
    refine s4 (x := x1) rfl ?_
    refine s0 ?_
    refine s18 ?_
    refine s4 (x := x4) rfl ?_
    refine s16 ?_
    obtain ⟨g3, hE⟩ := hE
    refine s43 (o := R 55 ((x1 * 61) + x4).toNat) sh55 g3 rfl (rfN rfl) ?_
    refine s9o (ls' := [.ref 43, .int (oI x1), .int (oI x2), .int (oI x3), .int (oI x4), vR (R 55 ((x1 * 61) + x4).toNat)]) (Nat.le_of_ble_eq_true rfl) rfl ?_
    refine s6o (o := R 55 ((x1 * 61) + x4).toNat) rfl ?_
    refine s73o (fun n5 => ?_) (fun p4 n5 => ?_)
    · replace hE := hE.1 n5
      (try rw [n5])
      show Wp _ _ [.ref 43, .int (oI x1), .int (oI x2), .int (oI x3), .int (oI x4), .null] [] _ _
      refine xG gb103.2.2.2.1 ?_
      refine s10 (x := x4) (ls' := [.ref 43, .int (oI x1), .int (oI x2), .int (oI x3), .int (oI (x4 + 1)), .null]) rfl rfl ?_
      refine s60 ?_
      exact hE
    · replace hE := hE.2 p4 n5
      (try rw [n5])
      show Wp _ _ [.ref 43, .int (oI x1), .int (oI x2), .int (oI x3), .int (oI x4), .ref p4] [] _ _
      refine s6 (p := p4) rfl ?_
      obtain ⟨o6, hE⟩ := hE
      refine s50 (v := ld I p4 1) o6.sh o6.sp (by decide) (oI_ld _ _ _) ?_
      refine s4 (x := x3) rfl ?_
      obtain ⟨g7, hE⟩ := hE
      refine s62 (ld_inR _ _ _) g7 (fun c8 => ?_) (fun c8 => ?_)
      · replace hE := hE.1 c8
        refine s6 (p := 43) rfl ?_
        refine s51 sh43 (by decide) (by decide) rf43_11 ?_
        refine s4 (x := x2) rfl ?_
        refine s6 (p := p4) rfl ?_
        obtain ⟨g9, hE⟩ := hE
        refine s47 sh56 (by decide) g9 rfl o6.sh o6.sp rfl ?_
        refine s10 (x := x2) (ls' := [.ref 43, .int (oI x1), .int (oI (x2 + 1)), .int (oI x3), .int (oI x4), .ref p4]) rfl rfl ?_
        refine s79 ?_
        refine xG gb103.2.2.2.1 ?_
        refine s10 (x := x4) (ls' := [.ref 43, .int (oI x1), .int (oI (x2 + 1)), .int (oI x3), .int (oI (x4 + 1)), .ref p4]) rfl rfl ?_
        refine s60 ?_
        exact hE
      · replace hE := hE.2 c8
        refine xG gb103.2.2.2.1 ?_
        refine s10 (x := x4) (ls' := [.ref 43, .int (oI x1), .int (oI x2), .int (oI x3), .int (oI (x4 + 1)), .ref p4]) rfl rfl ?_
        refine s60 ?_
        exact hE
  · replace hE := hE.2 c2
    refine xG gb103.2.2.2.2.1 ?_
    refine s10 (x := x3) (ls' := [.ref 43, .int (oI x1), .int (oI x2), .int (oI (x3 + 1)), .int (oI x4), w5]) rfl rfl ?_
    refine s60 ?_
    exact hE
set_option maxRecDepth 4000 in
theorem e103 {d L : Nat} {I : Nat → Nat → Int32} {R : Nat → Nat → Option Nat} {S : List (Nat × Nat)} {K : mM → Prop}  {x1 : Int} (hE : h103_1 d L I R S (rqV K) x1 (x1 * 60) 130 mUn mUn) : CallV d 103 [.ref 43, .int (oI x1)] (bd L I R S) K := by
  refine cV_of (ls := [.ref 43, .int (oI x1), mUn, mUn, mUn, mUn]) rfl ?_
  refine xG gb103.1 ?_
  refine s4 (x := x1) rfl ?_
  refine s0 ?_
  refine s18 ?_
  refine s7 (ls' := [.ref 43, .int (oI x1), .int (oI (x1 * 60)), mUn, mUn, mUn]) (Nat.le_of_ble_eq_true rfl) rfl ?_
  refine s0 ?_
  refine s7 (ls' := [.ref 43, .int (oI x1), .int (oI (x1 * 60)), .int (oI 130), mUn, mUn]) (Nat.le_of_ble_eq_true rfl) rfl ?_
  refine s79 ?_
  exact hE
section
variable {d L : Nat} {I I0 I1 : mI} {R R0 R1 : mR} {S : mSh} {A : aS} {y k n : Nat} {K : mM → Prop} {Q : Option Value → mM → Prop}
theorem stM_up {n : Nat} : ∀ m k, k < m → isK A y k (n + 1) = true → stM A y (n + 1) m = stM A y n m + 1
  | 0, k, h, _ => absurd h (Nat.not_lt_zero _)
  | m + 1, k, h, hk => by
    have e1 : stM A y (n + 1) (m + 1) = stM A y (n + 1) m + cnt (isK A y m) (n + 1) := rfl
    have e2 : stM A y n (m + 1) = stM A y n m + cnt (isK A y m) n := rfl
    rw [e1, e2, cnt_succ]
    by_cases c : k = m
    · subst c
      have h3 := (stM_step (A := A) (y := y) (n := n) k).2 (fun j hj => by
        cases hc : isK A y j (n + 1) with
        | false => rfl
        | true => have := isK_one hc hk; omega)
      rw [if_pos hk, h3]; omega
    · have h3 := stM_up m k (by omega) hk
      have h4 : ¬ isK A y m (n + 1) = true := fun h9 => c (isK_one hk h9)
      rw [if_neg h4, h3]; omega
theorem isK_of (hW : WfC A) (h : isC A y n = true) : ∃ k, k < 15 ∧ isK A y k n = true := by
  unfold isC at h
  simp only [Bool.not_eq_true', beq_eq_false_iff_ne] at h
  obtain ⟨s, hs, hs2, hs3, hs4, hs5, -⟩ := cdS_wf hW h
  have hk := hs3.2.1
  refine ⟨(ckd (A 140 s) - 130).toNat, ?_, ?_⟩
  · unfold ckd; split
    · omega
    · split <;> omega
  · unfold isK
    rw [hs, Int.toNat_natCast]
    have e : ckd (A 140 s) = 130 + (((ckd (A 140 s) - 130).toNat : Nat) : Int) := by
      have : 130 ≤ ckd (A 140 s) := by
        unfold ckd; split
        · omega
        · split <;> omega
      omega
    rw [← e]
    simp
theorem stM_C (hW : WfC A) : ∀ n, stM A y n 15 = cnt (isC A y) n
  | 0 => by
    have := stM_le (A := A) (y := y) 0 15
    have e : cnt (isC A y) 0 = 0 := rfl
    omega
  | n + 1 => by
    have ih := stM_C hW n
    rw [cnt_succ]
    by_cases c : isC A y (n + 1) = true
    · obtain ⟨k, hk, hk2⟩ := isK_of hW c
      rw [if_pos c, stM_up 15 k hk hk2, ih]
    · rw [if_neg c, (stM_step (A := A) (y := y) (n := n) 15).2 (fun j hj => ?_), ih]; omega
      cases hc : isK A y j (n + 1) with
      | false => rfl
      | true =>
        exfalso
        apply c
        unfold isK at hc
        simp only [Bool.and_eq_true] at hc
        exact hc.1
theorem stK_C (hW : WfC A) : stK A y 15 = cnt (isC A y) 60 := (stK_N 15).trans (stM_C hW 60)
theorem stK_mono : ∀ {j m : Nat}, j ≤ m → stK A y j ≤ stK A y m
  | j, 0, h => by rw [show j = 0 by omega]; exact Nat.le_refl _
  | j, m + 1, h => by
    by_cases e : j = m + 1
    · rw [e]; exact Nat.le_refl _
    · have := stK_mono (j := j) (m := m) (by omega)
      have e2 : stK A y (m + 1) = stK A y m + cnt (isK A y m) 60 := rfl
      omega
theorem stK_at (hk : k < 15) (hn : n < 60) (h : isK A y k (n + 1) = true) : stK A y k + cnt (isK A y k) n < stK A y (k + 1) ∧ stK A y (k + 1) ≤ 60 := by
  have h1 := cnt_lt (P := isK A y k) (m := 60) (n := n) hn h
  have h2 := stK_le (A := A) (y := y) (k := k + 1)
  have e2 : stK A y (k + 1) = stK A y k + cnt (isK A y k) 60 := rfl
  omega
def OrI (I I1 : mI) (y : Nat) : Prop := ∀ a k, ¬ (a = 57 ∧ 16 * y ≤ k ∧ k < 16 * y + 16) → ¬ (a = 44 ∧ k = y) → I1 a k = I a k
def OrR (R R1 : mR) (y : Nat) : Prop := ∀ a k, ¬ (a = 56 ∧ 60 * y ≤ k ∧ k < 60 * y + 60) → R1 a k = R a k
/-- the clauses of year y, by numbers -/
def RwC (I : mI) (R : mR) (S : mSh) (A : aS) (y : Nat) : Prop := ∀ n : Nat, n ≤ 60 → (cdS A y n = -1 → R 55 (61 * y + n) = none) ∧ (¬ cdS A y n = -1 → ∃ p, R 55 (61 * y + n) = some p ∧ obJ S p 15 8 ∧ ld I p 1 = ckd (A 140 (cdS A y n).toNat))
/-- what is ordered so far: the kinds before k, of k the numbers up to n -/
def OrD (R0 R : mR) (A : aS) (y k n : Nat) : Prop := ∀ k' n', k' < 15 → n' < 60 → (k' < k ∨ (k' = k ∧ n' < n)) → isK A y k' (n' + 1) = true → R 56 (60 * y + stK A y k' + cnt (isK A y k') n') = R0 55 (61 * y + (n' + 1))
theorem l103_2 (hy : y < 8) (hrow : RwC I0 R0 S A y) (hk : k < 15) (hI : OrI I0 I y) (hgo : ∀ (R : mR) (w : Value), OrR R0 R y → OrD R0 R A y (k + 1) 0 → h103_1 d L I R S Q y ((60 * y + stK A y (k + 1) : Nat) : Int) ((130 + (k + 1) : Nat) : Int) (.int (oI 61)) w) : ∀ (g n : Nat) (R : mR) (w : Value), n + g = 60 → OrR R0 R y → OrD R0 R A y k n → h103_2 d L I R S Q y ((60 * y + stK A y k + cnt (isK A y k) n : Nat) : Int) ((130 + k : Nat) : Int) ((n + 1 : Nat) : Int) w := by
  intro g
  induction g with
  | zero =>
    intro n R w hn hR hD
    obtain rfl : n = 60 := by omega
    refine e103_2 (d := d) ⟨⟨by omega, by omega⟩, fun c => absurd c (by omega), fun _ => ?_⟩
    have e1 : ((130 + k : Nat) : Int) + 1 = ((130 + (k + 1) : Nat) : Int) := by omega
    have e2 : 60 * y + stK A y k + cnt (isK A y k) 60 = 60 * y + stK A y (k + 1) := by
      have : stK A y (k + 1) = stK A y k + cnt (isK A y k) 60 := rfl
      omega
    rw [e1, e2]
    refine hgo R w hR (fun k' n' h1 h2 h3 h4 => hD k' n' h1 h2 ?_ h4)
    omega
  | succ g ih =>
    intro n R w hn hR hD
    have e1 : ((n + 1 : Nat) : Int) + 1 = ((n + 1 + 1 : Nat) : Int) := by omega
    have ix : ((y : Int) * 61 + ((n + 1 : Nat) : Int)).toNat = 61 * y + (n + 1) := by omega
    have r55 : R 55 (61 * y + (n + 1)) = R0 55 (61 * y + (n + 1)) := hR 55 _ (by omega)
    obtain ⟨z1, z2⟩ := hrow (n + 1) (by omega)
    have skip : isK A y k (n + 1) = false → ∀ w, h103_2 d L I R S Q y ((60 * y + stK A y k + cnt (isK A y k) n : Nat) : Int) ((130 + k : Nat) : Int) ((n + 1 + 1 : Nat) : Int) w := fun hf w => by
      have ec : cnt (isK A y k) (n + 1) = cnt (isK A y k) n := by rw [cnt_succ, if_neg (by rw [hf]; decide)]; rfl
      rw [← ec]
      refine ih (n + 1) R w (by omega) hR (fun k' n' h1 h2 h3 h4 => ?_)
      by_cases c : k' = k ∧ n' = n
      · rw [c.1, c.2, hf] at h4; cases h4
      · exact hD k' n' h1 h2 (by omega) h4
    refine e103_2 (d := d) ⟨⟨by omega, by omega⟩, fun _ => ⟨⟨by omega, by omega⟩, ?_⟩, fun c => absurd (by omega) c⟩
    rw [ix, e1, r55]
    refine ⟨fun c => skip ?_ _, fun p4 c => ?_⟩
    · cases hb : isK A y k (n + 1) with
      | false => rfl
      | true =>
        unfold isK at hb
        simp only [Bool.and_eq_true, Bool.not_eq_true', beq_eq_false_iff_ne] at hb
        obtain ⟨p, q1, -⟩ := z2 hb.1
        rw [c] at q1; cases q1
    · have hne : ¬ cdS A y ((n + 1 : Nat) : Int) = -1 := fun h9 => by rw [z1 h9] at c; cases c
      obtain ⟨p, q1, q2, q3⟩ := z2 hne
      rw [c] at q1
      have q1 := Option.some.inj q1
      subst q1
      have hI1 : ld I p4 1 = ld I0 p4 1 := by
        have := q2.1
        unfold ld; rw [hI p4 1 (by omega) (by omega)]
      refine ⟨q2, ⟨by omega, by omega⟩, ?_⟩
      rw [hI1, q3]
      refine ⟨fun ce => ?_, fun ce => skip ?_ _⟩
      · have hb : isK A y k (n + 1) = true := by
          unfold isK
          simp only [Bool.and_eq_true, Bool.not_eq_true', beq_eq_false_iff_ne, beq_iff_eq]
          exact ⟨hne, by rw [ce]; omega⟩
        obtain ⟨b1, b2⟩ := stK_at hk (by omega) hb
        have ec : cnt (isK A y k) (n + 1) = cnt (isK A y k) n + 1 := by rw [cnt_succ, if_pos hb]
        refine ⟨⟨by omega, by omega⟩, ?_⟩
        rw [Int.toNat_natCast, show ((60 * y + stK A y k + cnt (isK A y k) n : Nat) : Int) + 1 = ((60 * y + stK A y k + cnt (isK A y k) (n + 1) : Nat) : Int) by omega]
        refine ih (n + 1) _ _ (by omega) (fun a j h9 => ?_) (fun k' n' h1 h2 h3 h4 => ?_)
        · rw [show u2 R 56 (60 * y + stK A y k + cnt (isK A y k) n) (some p4) a j = R a j from if_neg (by rintro ⟨rfl, rfl⟩; exact h9 (by omega))]
          exact hR a j h9
        · by_cases c9 : k' = k ∧ n' = n
          · rw [c9.1, c9.2]
            exact v2_eq.trans c.symm
          · rw [v2_nk]
            · exact hD k' n' h1 h2 (by omega) h4
            · obtain ⟨b3, b4⟩ := stK_at h1 h2 h4
              by_cases c8 : k' < k
              · have := stK_mono (A := A) (y := y) (j := k' + 1) (m := k) (by omega)
                omega
              · have e8 : k' = k := by omega
                subst e8
                have := cnt_lt (P := isK A y k') (m := n) (n := n') (by omega) h4
                omega
      · unfold isK
        rw [Bool.and_eq_false_iff]
        exact Or.inr (by rw [beq_eq_false_iff_ne]; intro h9; exact ce (by rw [h9]; omega))
theorem l103_1 (hy : y < 8) (hW : WfC A) (hrow : RwC I0 R0 S A y) (hQ : ∀ I1 R1, OrI I0 I1 y → OrR R0 R1 y → (∀ k, k ≤ 15 → ld I1 57 (16 * y + k) = ((60 * y + stK A y k : Nat) : Int)) → OrD R0 R1 A y 15 0 → ld I1 44 y = (cnt (isC A y) 60 : Nat) → Q none (bd L I1 R1 S)) : ∀ (g k : Nat) (I : mI) (R : mR) (w w2 : Value), k + g = 15 → OrI I0 I y → OrR R0 R y → (∀ k', k' < k → ld I 57 (16 * y + k') = ((60 * y + stK A y k' : Nat) : Int)) → OrD R0 R A y k 0 → h103_1 d L I R S Q y ((60 * y + stK A y k : Nat) : Int) ((130 + k : Nat) : Int) w w2 := by
  intro g
  induction g with
  | zero =>
    intro k I R w w2 hk hI hR hs hD
    obtain rfl : k = 15 := by omega
    have hle := stK_le (A := A) (y := y) (k := 15)
    have ix : ((y : Int) * 16 + 15).toNat = 16 * y + 15 := by omega
    refine e103_1 (d := d) ⟨⟨by omega, by omega⟩, fun _ => ⟨⟨by omega, by omega⟩, ⟨by omega, by omega⟩, ?_⟩, fun c => absurd (by omega) c⟩
    rw [ix, Int.toNat_natCast]
    refine hQ _ R (fun a j h1 h2 => ?_) hR (fun k' hk' => ?_) hD ?_
    · rw [show u2 (u2 I 57 (16 * y + 15) (oI ((60 * y + stK A y 15 : Nat) : Int))) 44 y (oI (((60 * y + stK A y 15 : Nat) : Int) - (y : Int) * 60)) a j = u2 I 57 (16 * y + 15) (oI ((60 * y + stK A y 15 : Nat) : Int)) a j from if_neg h2]
      rw [show u2 I 57 (16 * y + 15) (oI ((60 * y + stK A y 15 : Nat) : Int)) a j = I a j from if_neg (by rintro ⟨rfl, rfl⟩; exact h1 (by omega))]
      exact hI a j h1 h2
    · rw [ld_o (by decide), ld_w ⟨by omega, by omega⟩]
      by_cases c : 16 * y + k' = 16 * y + 15
      · rw [if_pos c, show k' = 15 by omega]
      · rw [if_neg c]; exact hs k' (by omega)
    · rw [ld_w ⟨by omega, by omega⟩, if_pos rfl, ← stK_C hW]; omega
  | succ g ih =>
    intro k I R w w2 hk hI hR hs hD
    have hle := stK_le (A := A) (y := y) (k := k)
    have ix : ((y : Int) * 16 + ((130 + k : Nat) : Int) - 130).toNat = 16 * y + k := by omega
    have c0 : 60 * y + stK A y k + cnt (isK A y k) 0 = 60 * y + stK A y k := rfl
    refine e103_1 (d := d) ⟨⟨by omega, by omega⟩, fun c => absurd c (by omega), fun _ => ⟨⟨by omega, by omega⟩, ?_⟩⟩
    rw [ix]
    have hI2 : OrI I0 (u2 I 57 (16 * y + k) (oI ((60 * y + stK A y k : Nat) : Int))) y := fun a j h1 h2 => by
      rw [show u2 I 57 (16 * y + k) (oI ((60 * y + stK A y k : Nat) : Int)) a j = I a j from if_neg (by rintro ⟨rfl, rfl⟩; exact h1 (by omega))]
      exact hI a j h1 h2
    have := l103_2 (d := d) (L := L) (Q := Q) hy hrow (show k < 15 by omega) hI2 (fun R' w' hR' hD' => ih (k + 1) _ R' _ w' (by omega) hI2 hR' (fun k' hk' => ?_) hD') 60 0 R w2 (by omega) hR hD
    · rw [c0] at this
      exact this
    · rw [ld_w ⟨by omega, by omega⟩]
      by_cases c : 16 * y + k' = 16 * y + k
      · rw [if_pos c, show k' = k by omega]
      · rw [if_neg c]; exact hs k' (by omega)
theorem k103 (hy : y < 8) (hW : WfC A) (hrow : RwC I R S A y) (hK : ∀ I1 R1, OrI I I1 y → OrR R R1 y → (∀ k, k ≤ 15 → ld I1 57 (16 * y + k) = ((60 * y + stK A y k : Nat) : Int)) → OrD R R1 A y 15 0 → ld I1 44 y = (cnt (isC A y) 60 : Nat) → K (bd L I1 R1 S)) : CallV d 103 [.ref 43, .int (oI (y : Int))] (bd L I R S) K := by
  refine e103 (d := d) ?_
  have := l103_1 (d := d) (L := L) (Q := rqV K) hy hW hrow (fun I1 R1 a b c e f => rqV_of (hK I1 R1 a b c e f)) 15 0 I R mUn mUn rfl (fun _ _ _ _ => rfl) (fun _ _ _ => rfl) (fun k' h => absurd h (Nat.not_lt_zero _)) (fun k' n' _ _ h => absurd h (by omega))
  have e : (((60 * y + stK A y 0 : Nat)) : Int) = (y : Int) * 60 := by
    have : stK A y 0 = 0 := rfl
    rw [this]; omega
  rw [e] at this
  exact this
end
