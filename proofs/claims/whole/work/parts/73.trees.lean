/-! a tree in its stretch is a tree of the reference -/
section
variable {α : Type} {P : Nat → Nat → α → Prop} {M : Int → α → Prop} {nx : Nat → Int} {A : aS} {hi : Nat}
theorem PCh_M (hlt : ∀ k e x, P k e x → k < e) (hM : ∀ k e x, e ≤ hi → P k e x → M (k : Int) x) : ∀ (l : List α) (k e : Nat), e ≤ hi → PCh P nx l k e → MCh M nx l (k : Int)
  | [], _, _, _, h => h.elim
  | x :: l, k, e, h1, h => by
    rcases h with ⟨a, h, b⟩ | ⟨m, h, b, c⟩
    · subst a
      refine ⟨hM k e x h1 h, ?_⟩
      show nx ((k : Int).toNat) = -1
      rw [Int.toNat_natCast]; exact b
    · have h4 := PCh_lt hlt l m e c
      refine ⟨hM k m x (by omega) h, ?_⟩
      rw [Int.toNat_natCast, b]
      exact PCh_M hlt hM l m e h1 c
theorem PCh_ne {l : List α} {k e : Nat} (h : PCh P nx l k e) : l ≠ [] := by
  intro q; subst q; exact h
theorem PAll_M (hlt : ∀ k e x, P k e x → k < e) (hh : (hi : Int) ≤ A 91 66 ∧ A 91 66 ≤ 7200) (hM : ∀ k e x, e ≤ hi → P k e x → M (k : Int) x) (k e : Nat) (l : List α) (he : e ≤ hi) (h : PAll A P k e l) : MAllP A M (k : Int) l := by
  have hk := PAll_lt hlt k e l h
  refine ⟨⟨by omega, by omega, hh.2⟩, ?_, PCh_ne h.2.2, ?_⟩
  · rw [Int.toNat_natCast]; exact h.1
  · rw [Int.toNat_natCast, h.2.1]; exact PCh_M hlt hM l (k + 1) e he h.2.2
theorem PAny_M (hlt : ∀ k e x, P k e x → k < e) (hh : (hi : Int) ≤ A 91 66 ∧ A 91 66 ≤ 7200) (hM : ∀ k e x, e ≤ hi → P k e x → M (k : Int) x) (k e : Nat) (t : List (List α)) (he : e ≤ hi) (h : PAny A P k e t) : MAnyP A M (k : Int) t := by
  have hk := PAny_lt hlt k e t h
  refine ⟨⟨by omega, by omega, hh.2⟩, ?_, PCh_ne h.2.2, ?_⟩
  · rw [Int.toNat_natCast]; exact h.1
  · rw [Int.toNat_natCast, h.2.1]; exact PCh_M (PAll_lt hlt) (PAll_M hlt hh hM) t (k + 1) e he h.2.2
end
theorem PLf_M {A : aS} {hi : Nat} (hh : (hi : Int) ≤ A 91 66 ∧ A 91 66 ≤ 7200) {k e : Nat} {l : Lf} (he : e ≤ hi) (h : PLf A k e l) : MLf A (k : Int) l := by
  have h1 := h.1
  have h2 := h.2
  refine ⟨⟨by omega, by omega, hh.2⟩, ?_⟩
  rw [Int.toNat_natCast]
  exact h2
theorem POne_M {A : aS} {hi : Nat} (hh : (hi : Int) ≤ A 91 66 ∧ A 91 66 ≤ 7200) : ∀ (n k e : Nat) (o : One n), e ≤ hi → POne A n k e o → MOne A n (k : Int) o
  | 0, k, e, o, he, h => PLf_M hh he h
  | n + 1, k, e, .inl l, he, h => PLf_M (l := l) hh he h
  | n + 1, k, e, .inr (.inl o), he, h => by
    have h' : A 144 k = 2 ∧ A 145 k = ((k + 1 : Nat) : Int) ∧ POne A n (k + 1) e o := h
    have hk := POne_lt n (k + 1) e o h'.2.2
    have q := POne_M hh n (k + 1) e o he h'.2.2
    show ndIn A (k : Int) ∧ A 144 ((k : Int).toNat) = 2 ∧ MOne A n (A 145 ((k : Int).toNat)) o
    rw [Int.toNat_natCast, h'.2.1]
    exact ⟨⟨by omega, by omega, hh.2⟩, h'.1, q⟩
  | n + 1, k, e, .inr (.inr t), he, h => PAny_M (P := POne A n) (M := MOne A n) (POne_lt n) hh (fun k e x => POne_M hh n k e x) k e t he h
theorem PAny_MAny {A : aS} {n k e : Nat} {t : Any n} (hh : (e : Int) ≤ A 91 66 ∧ A 91 66 ≤ 7200) (h : PAny A (POne A n) k e t) : MAny A n (k : Int) t := PAny_M (P := POne A n) (M := MOne A n) (hi := e) (POne_lt n) hh (fun k' e' x h1 h2 => POne_M hh n k' e' x h1 h2) k e t (Nat.le_refl _) h
