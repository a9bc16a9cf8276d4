def h102_1 (d L : Nat) (I : Nat → Nat → Int32) (R : Nat → Nat → Option Nat) (S : List (Nat × Nat)) (Q : Option Value → mM → Prop) (x1 : Int) (x2 : Int) (w3 : Value) (w4 : Value) : Prop := Wp d (gb 102 1) [.ref 43, .int (oI x1), .int (oI x2), w3, w4] [] (bd L I R S) Q
def h102_3 (d L : Nat) (I : Nat → Nat → Int32) (R : Nat → Nat → Option Nat) (S : List (Nat × Nat)) (Q : Option Value → mM → Prop) (x1 : Int) (x2 : Int) (w3 : Value) (w4 : Value) : Prop := Wp d (gb 102 3) [.ref 43, .int (oI x1), .int (oI x2), w3, w4] [] (bd L I R S) Q
def h102_4 (d L : Nat) (I : Nat → Nat → Int32) (R : Nat → Nat → Option Nat) (S : List (Nat × Nat)) (Q : Option Value → mM → Prop) (x1 : Int) (x2 : Int) (x3 : Int) (w4 : Value) : Prop := Wp d (gb 102 4) [.ref 43, .int (oI x1), .int (oI x2), .int (oI x3), w4] [] (bd L I R S) Q
set_option maxRecDepth 4000 in
theorem e102_1 {d L : Nat} {I : Nat → Nat → Int32} {R : Nat → Nat → Option Nat} {S : List (Nat × Nat)} {Q : Option Value → mM → Prop}  {x1 : Int} {x2 : Int} {w3 : Value} {w4 : Value} (hE : inR x2 ∧ (((x2 < 61) → (0 ≤ (x1 * 61) + x2 ∧ (x1 * 61) + x2 < 488) ∧ (h102_1 d L I (u2 R 55 ((x1 * 61) + x2).toNat none) S Q x1 (x2 + 1) w3 w4)) ∧ (¬ (x2 < 61) → h102_3 d L I R S Q x1 0 w3 w4))) : h102_1 d L I R S Q x1 x2 w3 w4 := by
  unfold h102_1
  refine xG gb102.2.1 ?_
  refine s4 (x := x2) rfl ?_
  refine s0 ?_
  obtain ⟨g1, hE⟩ := hE
  refine s64 g1 (inRd rfl) (fun c2 => ?_) (fun c2 => ?_)
  · replace hE := hE.1 c2
    refine s6 (p := 43) rfl ?_
    refine s51 sh43 (by decide) (by decide) rf43_10 ?_
    refine s4 (x := x1) rfl ?_
    refine s0 ?_
    refine s18 ?_
    refine s4 (x := x2) rfl ?_
    refine s16 ?_
    refine s3 ?_
    obtain ⟨g3, hE⟩ := hE
    refine s47n sh55 (by decide) g3 rfl rfl ?_
    refine s10 (x := x2) (ls' := [.ref 43, .int (oI x1), .int (oI (x2 + 1)), w3, w4]) rfl rfl ?_
    refine s60 ?_
    exact hE
  · replace hE := hE.2 c2
    refine xG gb102.2.2.1 ?_
    refine s0 ?_
    refine s7 (ls' := [.ref 43, .int (oI x1), .int (oI 0), w3, w4]) (Nat.le_of_ble_eq_true rfl) rfl ?_
    refine s79 ?_
    exact hE
set_option maxRecDepth 4000 in
theorem e102_3 {d L : Nat} {I : Nat → Nat → Int32} {R : Nat → Nat → Option Nat} {S : List (Nat × Nat)} {Q : Option Value → mM → Prop}  {x1 : Int} {x2 : Int} {w3 : Value} {w4 : Value} (hE : inR x2 ∧ (inR x1 ∧ (((x1 < x2) → CallV d 103 [.ref 43, .int (oI x1)] (bd L I R S) (fun s => ∃ (I4 : mI) (R5 : mR) (S6 : mSh), s = bd L I4 R5 S6 ∧ (Q none (bd L I4 R5 S6)))) ∧ (¬ (x1 < x2) → h102_4 (d + 1) L I R S Q x1 x2 0 w4)))) : h102_3 (d + 1) L I R S Q x1 x2 w3 w4 := by
  unfold h102_3
  refine xG gb102.2.2.2.1 ?_
  refine s4 (x := x2) rfl ?_
  refine s4 (x := x1) rfl ?_
  obtain ⟨g1, hE⟩ := hE
  obtain ⟨g2, hE⟩ := hE
  refine s65 g1 g2 (fun c3 => ?_) (fun c3 => ?_)
  · replace hE := hE.1 c3
    refine xG gb102.2.2.2.2.2.2.2.2.2 ?_
    refine s6 (p := 43) rfl ?_
    refine s4 (x := x1) rfl ?_
    refine sV rc103 rfl (Nat.le_of_ble_eq_true rfl) ?_
    refine CallV.mono hE ?_
    rintro _ ⟨I4, R5, S6, rfl, hE⟩
    refine s83 ?_
    exact hE
  · replace hE := hE.2 c3
    refine s0 ?_
    refine s7 (ls' := [.ref 43, .int (oI x1), .int (oI x2), .int (oI 0), w4]) (Nat.le_of_ble_eq_true rfl) rfl ?_
    refine s79 ?_
    exact hE
set_option maxRecDepth 4000 in
theorem e102_4 {d L : Nat} {I : Nat → Nat → Int32} {R : Nat → Nat → Option Nat} {S : List (Nat × Nat)} {Q : Option Value → mM → Prop}  {x1 : Int} {x2 : Int} {x3 : Int} {w4 : Value} (hE : inR x3 ∧ (((x3 < ld I 43 7) → (0 ≤ x3 ∧ x3 < 320) ∧ (((R 51 x3.toNat = none) → h102_4 d L I R S Q x1 x2 (x3 + 1) .null) ∧ (∀ p4 : Nat, (R 51 x3.toNat = some p4) → obJ S p4 15 8 ∧ ((0 ≤ ld I p4 5 ∧ ld I p4 5 < 8) ∧ (inR x2 ∧ (((ld I 52 (ld I p4 5).toNat = x2) → ((ld I p4 1 = 129) → (0 ≤ (x1 * 61) + (ld I p4 0) ∧ (x1 * 61) + (ld I p4 0) < 488) ∧ (h102_4 d L I (u2 R 55 ((x1 * 61) + (ld I p4 0)).toNat none) S Q x1 x2 (x3 + 1) (.ref p4))) ∧ (¬ (ld I p4 1 = 129) → (0 ≤ (x1 * 61) + (ld I p4 0) ∧ (x1 * 61) + (ld I p4 0) < 488) ∧ (h102_4 d L I (u2 R 55 ((x1 * 61) + (ld I p4 0)).toNat (some p4)) S Q x1 x2 (x3 + 1) (.ref p4)))) ∧ (¬ (ld I 52 (ld I p4 5).toNat = x2) → h102_4 d L I R S Q x1 x2 (x3 + 1) (.ref p4)))))))) ∧ (¬ (x3 < ld I 43 7) → h102_3 d L I R S Q x1 (x2 + 1) (.int (oI x3)) w4))) : h102_4 d L I R S Q x1 x2 x3 w4 := by
  unfold h102_4
  refine xG gb102.2.2.2.2.1 ?_
  refine s4 (x := x3) rfl ?_
  refine s6 (p := 43) rfl ?_
  refine s50 (v := ld I 43 7) sh43 (by decide) (by decide) (oI_ld _ _ _) ?_
  obtain ⟨g1, hE⟩ := hE
  refine s64 g1 (ld_inR _ _ _) (fun c2 => ?_) (fun c2 => ?_)
  · replace hE := hE.1 c2
    refine s6 (p := 43) rfl ?_
    refine s51 sh43 (by decide) (by decide) rf43_6 ?_
    refine s4 (x := x3) rfl ?_
    obtain ⟨g3, hE⟩ := hE
    refine s43 (o := R 51 x3.toNat) sh51 g3 rfl (rfN rfl) ?_
    refine s9o (ls' := [.ref 43, .int (oI x1), .int (oI x2), .int (oI x3), vR (R 51 x3.toNat)]) (Nat.le_of_ble_eq_true rfl) rfl ?_
    refine s6o (o := R 51 x3.toNat) rfl ?_
    refine s73o (fun n5 => ?_) (fun p4 n5 => ?_)
    · replace hE := hE.1 n5
      (try rw [n5])
      show Wp _ _ [.ref 43, .int (oI x1), .int (oI x2), .int (oI x3), .null] [] _ _
      refine xG gb102.2.2.2.2.2.2.2.1 ?_
      refine s10 (x := x3) (ls' := [.ref 43, .int (oI x1), .int (oI x2), .int (oI (x3 + 1)), .null]) rfl rfl ?_
      refine s60 ?_
      exact hE
    · replace hE := hE.2 p4 n5
      (try rw [n5])
      show Wp _ _ [.ref 43, .int (oI x1), .int (oI x2), .int (oI x3), .ref p4] [] _ _
      refine s6 (p := 43) rfl ?_
      refine s51 sh43 (by decide) (by decide) rf43_8 ?_
      refine s6 (p := p4) rfl ?_
      obtain ⟨o6, hE⟩ := hE
      refine s50 (v := ld I p4 5) o6.sh o6.sp (by decide) (oI_ld _ _ _) ?_
      obtain ⟨g7, hE⟩ := hE
      refine s40 (v := ld I 52 (ld I p4 5).toNat) sh52 g7 rfl (oI_ld _ _ _) ?_
      refine s4 (x := x2) rfl ?_
      obtain ⟨g8, hE⟩ := hE
      refine s62 (ld_inR _ _ _) g8 (fun c9 => ?_) (fun c9 => ?_)
      · replace hE := hE.1 c9
        refine s6 (p := 43) rfl ?_
        refine s51 sh43 (by decide) (by decide) rf43_10 ?_
        refine s4 (x := x1) rfl ?_
        refine s0 ?_
        refine s18 ?_
        refine s6 (p := p4) rfl ?_
        refine s50 (v := ld I p4 0) o6.sh o6.sp (by decide) (oI_ld _ _ _) ?_
        refine s16 ?_
        refine s6 (p := p4) rfl ?_
        refine s50 (v := ld I p4 1) o6.sh o6.sp (by decide) (oI_ld _ _ _) ?_
        refine s0 ?_
        refine s62 (ld_inR _ _ _) (inRd rfl) (fun c10 => ?_) (fun c10 => ?_)
        · replace hE := hE.1 c10
          refine s3 ?_
          refine s60 ?_
          refine xG gb102.2.2.2.2.2.2.1 ?_
          obtain ⟨g11, hE⟩ := hE
          refine s47n sh55 (by decide) g11 rfl rfl ?_
          refine s79 ?_
          refine xG gb102.2.2.2.2.2.2.2.1 ?_
          refine s10 (x := x3) (ls' := [.ref 43, .int (oI x1), .int (oI x2), .int (oI (x3 + 1)), .ref p4]) rfl rfl ?_
          refine s60 ?_
          exact hE
        · replace hE := hE.2 c10
          refine xG gb102.2.2.2.2.2.1 ?_
          refine s6 (p := p4) rfl ?_
          refine s79 ?_
          refine xG gb102.2.2.2.2.2.2.1 ?_
          obtain ⟨g12, hE⟩ := hE
          refine s47 sh55 (by decide) g12 rfl o6.sh o6.sp rfl ?_
          refine s79 ?_
          refine xG gb102.2.2.2.2.2.2.2.1 ?_
          refine s10 (x := x3) (ls' := [.ref 43, .int (oI x1), .int (oI x2), .int (oI (x3 + 1)), .ref p4]) rfl rfl ?_
          refine s60 ?_
          exact hE
      · replace hE := hE.2 c9
        refine xG gb102.2.2.2.2.2.2.2.1 ?_
        refine s10 (x := x3) (ls' := [.ref 43, .int (oI x1), .int (oI x2), .int (oI (x3 + 1)), .ref p4]) rfl rfl ?_
        refine s60 ?_
        exact hE
  · replace hE := hE.2 c2
    refine xG gb102.2.2.2.2.2.2.2.2.1 ?_
    refine s10 (x := x2) (ls' := [.ref 43, .int (oI x1), .int (oI (x2 + 1)), .int (oI x3), w4]) rfl rfl ?_
    refine s60 ?_
    exact hE
set_option maxRecDepth 4000 in
theorem e102 {d L : Nat} {I : Nat → Nat → Int32} {R : Nat → Nat → Option Nat} {S : List (Nat × Nat)} {K : mM → Prop}  {x1 : Int} (hE : h102_1 d L I R S (rqV K) x1 0 mUn mUn) : CallV d 102 [.ref 43, .int (oI x1)] (bd L I R S) K := by
  refine cV_of (ls := [.ref 43, .int (oI x1), mUn, mUn, mUn]) rfl ?_
  refine xG gb102.1 ?_
  refine s0 ?_
  refine s7 (ls' := [.ref 43, .int (oI x1), .int (oI 0), mUn, mUn]) (Nat.le_of_ble_eq_true rfl) rfl ?_
  refine s79 ?_
  exact hE
section
variable {d L : Nat} {I I0 I1 : mI} {R R0 R1 : mR} {S : mSh} {A : aS} {y k n f N : Nat} {K : mM → Prop} {Q : Option Value → mM → Prop}
/-- the statements of the acts stand one behind another -/
def StF (I : mI) (R : mR) (S : mSh) (A : aS) : Prop := ∀ a j : Nat, a < (A 91 65).toNat → j < (A 137 a).toNat → ∃ p, R 51 (prS A a + j) = some p ∧ obJ S p 15 8 ∧ ld I p 0 = A 139 (40 * a + j) ∧ ld I p 1 = ckd (A 140 (40 * a + j)) ∧ ld I p 5 = (a : Int)
/-- the clause object of statement v -/
def ptr (A : aS) (R : mR) (v : Int) : Option Nat := if v = -1 then none else R 51 (prS A (v.toNat / 40) + v.toNat % 40)
theorem ptr_at {a j : Nat} (hj : j < 40) : ptr A R ((40 * a + j : Nat) : Int) = R 51 (prS A a + j) := by
  unfold ptr
  rw [if_neg (by omega), Int.toNat_natCast, show (40 * a + j) / 40 = a by omega, show (40 * a + j) % 40 = j by omega]
theorem prS_succ {a : Nat} : prS A (a + 1) = prS A a + (A 137 a).toNat := rfl
theorem prS_mono : ∀ {a b : Nat}, a ≤ b → prS A a ≤ prS A b
  | a, 0, h => by rw [show a = 0 by omega]; exact Nat.le_refl _
  | a, b + 1, h => by
    by_cases e : a = b + 1
    · rw [e]; exact Nat.le_refl _
    · have := prS_mono (a := a) (b := b) (by omega)
      rw [prS_succ]; omega
theorem prS_le (hW : WfC A) : ∀ a, a ≤ (A 91 65).toNat → prS A a ≤ 40 * a
  | 0, _ => Nat.le_refl _
  | a + 1, h => by
    have h1 := prS_le hW a (by omega)
    have h2 := (hW.2 a (by omega)).1
    rw [prS_succ]; omega
theorem ckd_om {b : Int} (h : 0 ≤ b ∧ b ≤ 15) : ckd b = 129 ↔ b = 0 := by
  constructor
  · intro h9
    apply Classical.byContradiction
    intro c
    exact ckd_129 (b := b) (by omega) h9
  · rintro rfl; rfl
def OrY (R R1 : mR) (y : Nat) : Prop := ∀ a k, ¬ (a = 55 ∧ 61 * y ≤ k ∧ k < 61 * y + 61) → R1 a k = R a k
theorem OrY.wr {o : Option Nat} (h : OrY R R1 y) (hk : 61 * y ≤ k ∧ k < 61 * y + 61) : OrY R (u2 R1 55 k o) y := fun a j h9 => by
  rw [show u2 R1 55 k o a j = R1 a j from if_neg (by rintro ⟨rfl, rfl⟩; exact h9 (by omega))]
  exact h a j h9
theorem OrY.sf (h : OrY R R1 y) (hs : StF I R S A) : StF I R1 S A := fun a j ha hj => by
  obtain ⟨p, h1, h2⟩ := hs a j ha hj
  exact ⟨p, (h 51 _ (by omega)).trans h1, h2⟩
theorem OrY.pt1 (h : OrY R R1 y) {v : Int} : ptr A R1 v = ptr A R v := by
  unfold ptr
  rw [h 51 _ (by omega)]
/-- what lies at n while acts of year f are told -/
def cdW (A : aS) (n : Int) (f a j : Nat) : Int := if A 138 a = (f : Int) then cdA A n a (cdF A n f (cdY A n f) a) j else cdF A n f (cdY A n f) a
theorem cdW_0 {n : Int} {a : Nat} : cdW A n f a 0 = cdF A n f (cdY A n f) a := by
  unfold cdW
  split
  · rfl
  · rfl
theorem cdW_end {n : Int} {a : Nat} : cdW A n f a (A 137 a).toNat = cdF A n f (cdY A n f) (a + 1) := by
  unfold cdW
  rw [cdF_succ]
theorem l102_4 (hy : y < 8) (hf : f < 8) (hW : WfC A) (h52 : ∀ a : Nat, ld I 52 a = A 138 a) (hN : ld I 43 7 = (prS A (A 91 65).toNat : Nat)) (hs : StF I R0 S A) (hgo : ∀ (R : mR) (w w4 : Value), OrY R0 R y → (∀ n : Nat, n ≤ 60 → R 55 (61 * y + n) = ptr A R0 (cdY A n (f + 1))) → h102_3 (d + 1) L I R S Q y ((f : Int) + 1) w w4) : ∀ (m a j g : Nat) (R : mR) (w4 : Value), m = g + ((A 91 65).toNat - a) → a ≤ (A 91 65).toNat → (a < (A 91 65).toNat → j ≤ (A 137 a).toNat) → (a = (A 91 65).toNat → j = 0) → prS A a + j + g = prS A (A 91 65).toNat → OrY R0 R y → (∀ n : Nat, n ≤ 60 → R 55 (61 * y + n) = ptr A R0 (cdW A n f a j)) → h102_4 (d + 1) L I R S Q y f ((prS A a + j : Nat) : Int) w4 := by
  intro m
  have hac := hW.1
  have hle := prS_le hW (A 91 65).toNat (Nat.le_refl _)
  induction m with
  | zero =>
    intro a j g R w4 hm ha hj hj0 hg hR hr
    have e1 : a = (A 91 65).toNat := by omega
    have e2 := hj0 e1
    refine e102_4 (d := d + 1) ⟨⟨by omega, by omega⟩, fun c => absurd c (by omega), fun _ => hgo R _ _ hR (fun n hn => ?_)⟩
    rw [hr n hn, e2, e1, cdW_0, cdY_succ]
  | succ m ih =>
    intro a j g R w4 hm ha hj hj0 hg hR hr
    by_cases ea : a = (A 91 65).toNat
    · have e2 := hj0 ea
      refine e102_4 (d := d + 1) ⟨⟨by omega, by omega⟩, fun c => absurd c (by rw [hN, ← ea, e2]; omega), fun _ => hgo R _ _ hR (fun n hn => ?_)⟩
      rw [hr n hn, e2, ea, cdW_0, cdY_succ]
    · have hal : a < (A 91 65).toNat := by omega
      by_cases ej : j = (A 137 a).toNat
      · have e3 : prS A a + j = prS A (a + 1) + 0 := by rw [prS_succ, ej]; omega
        rw [e3]
        refine ih (a + 1) 0 g R w4 (by omega) (by omega) (fun _ => Nat.zero_le _) (fun _ => rfl) (by rw [← e3]; exact hg) hR (fun n hn => ?_)
        rw [hr n hn, ej, cdW_end, cdW_0]
      · have hjl : j < (A 137 a).toNat := by have := hj hal; omega
        have hm1 := prS_mono (A := A) (a := a + 1) (b := (A 91 65).toNat) (by omega)
        rw [prS_succ] at hm1
        obtain ⟨p, p1, p2, p3, p4, p5⟩ := hR.sf hs a j hal hjl
        have hwf := hW.2 a hal
        have hst := hwf.2.2 j hjl
        have hn1 := hst.1
        have hlt40 : j < 40 := by have := hwf.1; omega
        have e1 : ((prS A a + j : Nat) : Int) + 1 = ((prS A a + (j + 1) : Nat) : Int) := by omega
        refine e102_4 (d := d + 1) ⟨⟨by omega, by omega⟩, fun _ => ⟨⟨by omega, by omega⟩, ?_⟩, fun c => absurd (by rw [hN]; omega) c⟩
        rw [Int.toNat_natCast, p1, e1]
        refine ⟨fun c => (by cases c), fun q c => ?_⟩
        cases c
        rw [p5, Int.toNat_natCast, h52, p4, p3]
        have nx : ∀ (R' : mR) (w : Value), OrY R0 R' y → (∀ n : Nat, n ≤ 60 → R' 55 (61 * y + n) = ptr A R0 (cdW A n f a (j + 1))) → h102_4 (d + 1) L I R' S Q y f ((prS A a + (j + 1) : Nat) : Int) w := fun R' w hR' hr' => ih a (j + 1) (g - 1) R' w (by omega) ha (fun _ => by omega) (fun h => absurd h ea) (by omega) hR' hr'
        have ix : ((y : Int) * 61 + A 139 (40 * a + j)).toNat = 61 * y + (A 139 (40 * a + j)).toNat := by omega
        have wr : ∀ (o : Option Nat), A 138 a = (f : Int) → o = ptr A R0 (if A 140 (40 * a + j) = 0 then -1 else ((40 * a + j : Nat) : Int)) → ∀ w, h102_4 (d + 1) L I (u2 R 55 (61 * y + (A 139 (40 * a + j)).toNat) o) S Q y f ((prS A a + (j + 1) : Nat) : Int) w := fun o hf9 ho w => by
          refine nx _ w (hR.wr (by omega)) (fun n hn => ?_)
          have ew : cdW A n f a (j + 1) = if A 139 (40 * a + j) = (n : Int) then (if A 140 (40 * a + j) = 0 then -1 else ((40 * a + j : Nat) : Int)) else cdW A n f a j := by
            unfold cdW
            rw [if_pos hf9, if_pos hf9, cdA_succ]
          rw [ew]
          by_cases cn : A 139 (40 * a + j) = (n : Int)
          · rw [if_pos cn, ← ho, cn, Int.toNat_natCast, v2_eq]
          · rw [if_neg cn, v2_nk (by omega)]
            exact hr n hn
        refine ⟨p2, ⟨by omega, by omega⟩, ⟨by omega, by omega⟩, fun c5 => ⟨fun c6 => ⟨⟨by omega, by omega⟩, ?_⟩, fun c6 => ⟨⟨by omega, by omega⟩, ?_⟩⟩, fun c5 => ?_⟩
        · rw [ix]
          exact wr none c5 (by rw [if_pos ((ckd_om hst.2.1).mp c6)]; rfl) _
        · rw [ix]
          refine wr (some p) c5 ?_ _
          rw [if_neg (fun h9 => c6 ((ckd_om hst.2.1).mpr h9)), ptr_at hlt40, ← hR 51 _ (by omega)]
          exact p1.symm
        · refine nx R _ hR (fun n hn => ?_)
          rw [hr n hn]
          unfold cdW
          rw [if_neg c5, if_neg c5]
theorem l102_3 (hy : y < 8) (hW : WfC A) (h52 : ∀ a : Nat, ld I 52 a = A 138 a) (hN : ld I 43 7 = (prS A (A 91 65).toNat : Nat)) (hs : StF I R0 S A) (hgo : ∀ R : mR, OrY R0 R y → (∀ n : Nat, n ≤ 60 → R 55 (61 * y + n) = ptr A R0 (cdS A y n)) → CallV d 103 [.ref 43, .int (oI (y : Int))] (bd L I R S) (fun s => ∃ (I4 : mI) (R5 : mR) (S6 : mSh), s = bd L I4 R5 S6 ∧ Q none (bd L I4 R5 S6))) : ∀ (g f : Nat) (R : mR) (w w4 : Value), f + g = y + 1 → OrY R0 R y → (∀ n : Nat, n ≤ 60 → R 55 (61 * y + n) = ptr A R0 (cdY A n f)) → h102_3 (d + 1) L I R S Q y (f : Int) w w4 := by
  intro g
  induction g with
  | zero =>
    intro f R w w4 hf hR hr
    obtain rfl : f = y + 1 := by omega
    refine e102_3 (d := d) ⟨⟨by omega, by omega⟩, ⟨by omega, by omega⟩, fun _ => hgo R hR (fun n hn => ?_), fun c => absurd (by omega) c⟩
    rw [hr n hn]
    unfold cdS
    rw [Int.toNat_natCast]
  | succ g ih =>
    intro f R w w4 hf hR hr
    refine e102_3 (d := d) ⟨⟨by omega, by omega⟩, ⟨by omega, by omega⟩, fun c => absurd c (by omega), fun _ => ?_⟩
    have := l102_4 (d := d) (f := f) hy (by omega) hW h52 hN hs (fun R' w w4 hR' hr' => by
      have := ih (f + 1) R' w w4 (by omega) hR' hr'
      rw [show ((f + 1 : Nat) : Int) = (f : Int) + 1 by omega] at this
      exact this) (prS A (A 91 65).toNat + ((A 91 65).toNat - 0)) 0 0 (prS A (A 91 65).toNat) R w4 rfl (Nat.zero_le _) (fun _ => Nat.zero_le _) (fun _ => rfl) (by show 0 + 0 + _ = _; omega) hR (fun n hn => by rw [hr n hn, cdW_0]; rfl)
    exact this
theorem l102_1 (hy : y < 8) (hgo : ∀ (R : mR) (w w4 : Value), OrY R0 R y → (∀ n : Nat, n ≤ 60 → R 55 (61 * y + n) = none) → h102_3 d L I R S Q y 0 w w4) : ∀ (g n : Nat) (R : mR) (w w4 : Value), n + g = 61 → OrY R0 R y → (∀ n' : Nat, n' < n → R 55 (61 * y + n') = none) → h102_1 d L I R S Q y (n : Int) w w4 := by
  intro g
  induction g with
  | zero =>
    intro n R w w4 hn hR hr
    exact e102_1 (d := d) ⟨⟨by omega, by omega⟩, fun c => absurd c (by omega), fun _ => hgo R w w4 hR (fun n' h => hr n' (by omega))⟩
  | succ g ih =>
    intro n R w w4 hn hR hr
    have ix : ((y : Int) * 61 + (n : Int)).toNat = 61 * y + n := by omega
    refine e102_1 (d := d) ⟨⟨by omega, by omega⟩, fun _ => ⟨⟨by omega, by omega⟩, ?_⟩, fun c => absurd (by omega) c⟩
    rw [ix, show (n : Int) + 1 = ((n + 1 : Nat) : Int) by omega]
    refine ih (n + 1) _ w w4 (by omega) (hR.wr (by omega)) (fun n' h => ?_)
    by_cases c : n' = n
    · rw [c]; exact v2_eq
    · rw [v2_nk (by omega)]; exact hr n' (by omega)
theorem k102 (hy : y < 8) (hW : WfC A) (h52 : ∀ a : Nat, ld I 52 a = A 138 a) (hN : ld I 43 7 = (prS A (A 91 65).toNat : Nat)) (hs : StF I R S A) (hK : ∀ I1 R1, OrI I I1 y → (∀ a k, ¬ (a = 55 ∧ 61 * y ≤ k ∧ k < 61 * y + 61) → ¬ (a = 56 ∧ 60 * y ≤ k ∧ k < 60 * y + 60) → R1 a k = R a k) → (∀ n : Nat, n ≤ 60 → R1 55 (61 * y + n) = ptr A R (cdS A y n)) → (∀ k, k ≤ 15 → ld I1 57 (16 * y + k) = ((60 * y + stK A y k : Nat) : Int)) → (∀ k n, k < 15 → n < 60 → isK A y k (n + 1) = true → R1 56 (60 * y + stK A y k + cnt (isK A y k) n) = R1 55 (61 * y + (n + 1))) → ld I1 44 y = (cnt (isC A y) 60 : Nat) → K (bd L I1 R1 S)) : CallV (d + 1) 102 [.ref 43, .int (oI (y : Int))] (bd L I R S) K := by
  refine e102 (d := d + 1) ?_
  refine l102_1 (R0 := R) hy (fun R1 w w4 h1 h2 => ?_) 61 0 R mUn mUn rfl (fun _ _ _ => rfl) (fun n' h => absurd h (Nat.not_lt_zero _))
  refine l102_3 (R0 := R) hy hW h52 hN hs (fun R2 h3 h4 => ?_) (y + 1) 0 R1 w w4 (by omega) h1 (fun n hn => by rw [h2 n hn]; rfl)
  have hrow : RwC I R2 S A y := fun n hn => by
    refine ⟨fun c => by rw [h4 n hn, c]; rfl, fun c => ?_⟩
    obtain ⟨s, e1, e2, e3, e4, e5, a, j, e6, e7, e8⟩ := cdS_wf hW c
    have hlt40 : j < 40 := by have := (hW.2 a e7).1; omega
    obtain ⟨p, p1, p2, p3, p4, p5⟩ := hs a j e7 e8
    refine ⟨p, ?_, p2, ?_⟩
    · rw [h4 n hn, e1, e6, ptr_at hlt40]; exact p1
    · rw [e1, Int.toNat_natCast, e6]; exact p4
  refine k103 hy hW hrow (fun I3 R3 b1 b2 b3 b4 b5 => ⟨I3, R3, S, rfl, rqV_of (hK I3 R3 b1 (fun a k c1 c2 => (b2 a k c2).trans (h3 a k c1)) (fun n hn => (b2 55 _ (by omega)).trans (h4 n hn)) b3 (fun k n c1 c2 c3 => (b4 k n c1 c2 (Or.inl c1) c3).trans (b2 55 _ (by omega)).symm) b5)⟩)
end
