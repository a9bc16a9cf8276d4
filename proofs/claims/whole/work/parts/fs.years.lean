section
variable {d L : Nat} {I I0 I1 Ib : mI} {R R0 R1 Rb : mR} {S S0 S1 Sb : mSh} {A : aS} {y Y : Nat} {Q : Option Value → mM → Prop}
/-- what is told of year Y -/
def YrC (I : mI) (R : mR) (A : aS) (R0 : mR) (Y : Nat) : Prop := (∀ n : Nat, n ≤ 60 → R 55 (61 * Y + n) = ptr A R0 (cdS A Y n)) ∧ (∀ k, k ≤ 15 → ld I 57 (16 * Y + k) = ((60 * Y + stK A Y k : Nat) : Int)) ∧ (∀ k n, k < 15 → n < 60 → isK A Y k (n + 1) = true → R 56 (60 * Y + stK A Y k + cnt (isK A Y k) n) = R 55 (61 * Y + (n + 1))) ∧ ld I 44 Y = (cnt (isC A Y) 60 : Nat)
/-- what the telling of the years from y to Y may change -/
def YrI (I I1 : mI) (y Y : Nat) : Prop := ∀ a k, ¬ (a = 57 ∧ 16 * y ≤ k ∧ k < 16 * Y) → ¬ (a = 44 ∧ y ≤ k ∧ k < Y) → I1 a k = I a k
def YrR (R R1 : mR) (y Y : Nat) : Prop := ∀ a k, ¬ (a = 55 ∧ 61 * y ≤ k ∧ k < 61 * Y) → ¬ (a = 56 ∧ 60 * y ≤ k ∧ k < 60 * Y) → R1 a k = R a k
theorem l101_6 (hW : WfC A) (h52 : ∀ a : Nat, ld I0 52 a = A 138 a) (hN : ld I0 43 7 = (prS A (A 91 65).toNat : Nat)) (hs : StF I0 R0 S A) (hac : inR (ld I0 43 2 - 1)) (hQ : ∀ I1 R1, YrI I0 I1 y 8 → YrR R0 R1 y 8 → (∀ Y, y ≤ Y → Y < 8 → YrC I1 R1 A R0 Y) → Q (some (.int (oI (ld I0 43 2 - 1)))) (bd L I1 R1 S)) : ∀ (g Y : Nat) (I : mI) (R : mR) (w w2 w4 : Value), Y + g = 8 → y ≤ Y → YrI I0 I y Y → YrR R0 R y Y → (∀ Y', y ≤ Y' → Y' < Y → YrC I R A R0 Y') → h101_6 (d + 2) L I R S Q w w2 (Y : Int) w4 := by
  intro g
  induction g with
  | zero =>
    intro Y I R w w2 w4 hY hy hI hR hc
    obtain rfl : Y = 8 := by omega
    have e2 : ld I 43 2 = ld I0 43 2 := by unfold ld; rw [hI 43 2 (by omega) (by omega)]
    refine e101_6 (d := d + 1) ⟨⟨by omega, by omega⟩, fun c => absurd c (by omega), fun _ => ?_⟩
    rw [e2]
    exact hQ I R hI hR hc
  | succ g ih =>
    intro Y I R w w2 w4 hY hy hI hR hc
    have f52 : ∀ a : Nat, ld I 52 a = A 138 a := fun a => by
      have : ld I 52 a = ld I0 52 a := by unfold ld; rw [hI 52 a (by omega) (by omega)]
      exact this.trans (h52 a)
    have fN : ld I 43 7 = (prS A (A 91 65).toNat : Nat) := by
      have : ld I 43 7 = ld I0 43 7 := by unfold ld; rw [hI 43 7 (by omega) (by omega)]
      exact this.trans hN
    have fs : StF I R S A := fun a j ha hj => by
      obtain ⟨p, p1, p2, p3, p4, p5⟩ := hs a j ha hj
      have hp := p2.1
      have l : ∀ k, ld I p k = ld I0 p k := fun k => by unfold ld; rw [hI p k (by omega) (by omega)]
      exact ⟨p, (hR 51 _ (by omega) (by omega)).trans p1, p2, (l 0).trans p3, (l 1).trans p4, (l 5).trans p5⟩
    have fp : ∀ v, ptr A R v = ptr A R0 v := fun v => by unfold ptr; rw [hR 51 _ (by omega) (by omega)]
    refine e101_6 (d := d + 1) ⟨⟨by omega, by omega⟩, fun _ => ?_, fun c => absurd (by omega) c⟩
    refine k102 (d := d) (show Y < 8 by omega) hW f52 fN fs (fun I1 R1 b1 b2 b3 b4 b5 b6 => ⟨I1, R1, S, rfl, ?_⟩)
    rw [show (Y : Int) + 1 = ((Y + 1 : Nat) : Int) by omega]
    refine ih (Y + 1) I1 R1 _ _ _ (by omega) (by omega) (fun a k c1 c2 => (b1 a k (by omega) (by omega)).trans (hI a k (by omega) (by omega))) (fun a k c1 c2 => (b2 a k (by omega) (by omega)).trans (hR a k (by omega) (by omega))) (fun Y' c1 c2 => ?_)
    by_cases c : Y' = Y
    · subst c
      exact ⟨fun n hn => (b3 n hn).trans (fp _), b4, b5, b6⟩
    · obtain ⟨d1, d2, d3, d4⟩ := hc Y' c1 (by omega)
      refine ⟨fun n hn => (b2 55 _ (by omega) (by omega)).trans (d1 n hn), fun k hk => ?_, fun k n hk hn hb => ?_, ?_⟩
      · unfold ld; rw [b1 57 _ (by omega) (by omega)]; exact d2 k hk
      · obtain ⟨z1, z2⟩ := stK_at hk hn hb
        rw [b2 56 _ (by omega) (by omega), b2 55 _ (by omega) (by omega)]
        exact d3 k n hk hn hb
      · unfold ld; rw [b1 44 _ (by omega) (by omega)]; exact d4
end
