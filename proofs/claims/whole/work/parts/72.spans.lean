/-! the reference's nodes of one tree lie in a stretch of their own -/
def PCh {α : Type} (P : Nat → Nat → α → Prop) (nx : Nat → Int) : List α → Nat → Nat → Prop
  | [], _, _ => False
  | x :: l, k, e => (l = [] ∧ P k e x ∧ nx k = -1) ∨ (∃ m : Nat, P k m x ∧ nx k = m ∧ PCh P nx l m e)
def PLf (A : aS) (k e : Nat) (l : Lf) : Prop := e = k + 1 ∧ A 144 k = 3 ∧ A 147 k = l.1 ∧ A 148 k = l.2.1 ∧ A 149 k = l.2.2 ∧ (0 ≤ l.1 ∧ l.1 < 12) ∧ (l.2.1 = 60 ∨ l.2.1 = 61 ∨ l.2.1 = 62) ∧ (0 ≤ l.2.2 ∧ l.2.2 ≤ 9999)
def PAll (A : aS) {α : Type} (P : Nat → Nat → α → Prop) (k e : Nat) (l : List α) : Prop := A 144 k = 1 ∧ A 145 k = ((k + 1 : Nat) : Int) ∧ PCh P (A 146) l (k + 1) e
def PAny (A : aS) {α : Type} (P : Nat → Nat → α → Prop) (k e : Nat) (t : List (List α)) : Prop := A 144 k = 0 ∧ A 145 k = ((k + 1 : Nat) : Int) ∧ PCh (PAll A P) (A 146) t (k + 1) e
def POne (A : aS) : (n : Nat) → Nat → Nat → One n → Prop
  | 0 => fun k e l => PLf A k e l
  | n + 1 => fun k e => Sum.elim (PLf A k e) (Sum.elim (fun o => A 144 k = 2 ∧ A 145 k = ((k + 1 : Nat) : Int) ∧ POne A n (k + 1) e o) (fun t => PAny A (POne A n) k e t))
def Ag (A A' : aS) (k e : Nat) : Prop := ∀ j, k ≤ j → j < e → A' 144 j = A 144 j ∧ A' 145 j = A 145 j ∧ A' 147 j = A 147 j ∧ A' 148 j = A 148 j ∧ A' 149 j = A 149 j
def Ag6 (A A' : aS) (k e : Nat) : Prop := ∀ j, k ≤ j → j < e → A' 146 j = A 146 j
section
variable {α : Type} {P P' : Nat → Nat → α → Prop} {nx nx' : Nat → Int} {A A' : aS}
theorem PCh_lt (hlt : ∀ k e x, P k e x → k < e) : ∀ (l : List α) (k e : Nat), PCh P nx l k e → k < e
  | [], _, _, h => h.elim
  | x :: l, k, e, h => by
    rcases h with ⟨-, h, -⟩ | ⟨m, h, -, h2⟩
    · exact hlt _ _ _ h
    · exact Nat.lt_trans (hlt _ _ _ h) (PCh_lt hlt l m e h2)
theorem PCh_st (hlt : ∀ k e x, P k e x → k < e) {lo hi : Nat} (hP : ∀ k e x, lo ≤ k → e ≤ hi → P k e x → P' k e x) (hn : ∀ j, lo ≤ j → j < hi → nx' j = nx j) : ∀ (l : List α) (k e : Nat), lo ≤ k → e ≤ hi → PCh P nx l k e → PCh P' nx' l k e
  | [], _, _, _, _, h => h.elim
  | x :: l, k, e, h1, h2, h => by
    rcases h with ⟨a, h, b⟩ | ⟨m, h, b, c⟩
    · have := hlt _ _ _ h
      exact Or.inl ⟨a, hP k e x h1 h2 h, (hn k h1 (by omega)).trans b⟩
    · have h3 := hlt _ _ _ h
      have h4 := PCh_lt hlt l m e c
      exact Or.inr ⟨m, hP k m x h1 (by omega) h, (hn k h1 (by omega)).trans b, PCh_st hlt hP hn l m e (by omega) h2 c⟩
theorem PAll_lt (hlt : ∀ k e x, P k e x → k < e) (k e : Nat) (l : List α) (h : PAll A P k e l) : k < e := by
  have := PCh_lt hlt _ _ _ h.2.2; omega
theorem PAny_lt (hlt : ∀ k e x, P k e x → k < e) (k e : Nat) (t : List (List α)) (h : PAny A P k e t) : k < e := by
  have := PCh_lt (PAll_lt hlt) _ _ _ h.2.2; omega
theorem PAll_st (hlt : ∀ k e x, P k e x → k < e) {k e : Nat} {l : List α} (hA : Ag A A' k e) (h6 : Ag6 A A' (k + 1) e) (hP : ∀ k' e' x, k ≤ k' → e' ≤ e → P k' e' x → P' k' e' x) (h : PAll A P k e l) : PAll A' P' k e l := by
  have hk := PAll_lt hlt _ _ _ h
  have g := hA k (Nat.le_refl _) hk
  exact ⟨g.1.trans h.1, g.2.1.trans h.2.1, PCh_st hlt (lo := k + 1) (hi := e) (fun k' e' x h1 h2 => hP k' e' x (by omega) h2) h6 l (k + 1) e (Nat.le_refl _) (Nat.le_refl _) h.2.2⟩
theorem PAny_st (hlt : ∀ k e x, P k e x → k < e) {k e : Nat} {t : List (List α)} (hA : Ag A A' k e) (h6 : Ag6 A A' (k + 1) e) (hP : ∀ k' e' x, k ≤ k' → e' ≤ e → P k' e' x → P' k' e' x) (h : PAny A P k e t) : PAny A' P' k e t := by
  have hk := PAny_lt hlt _ _ _ h
  have g := hA k (Nat.le_refl _) hk
  refine ⟨g.1.trans h.1, g.2.1.trans h.2.1, PCh_st (PAll_lt hlt) (lo := k + 1) (hi := e) (fun k' e' x h1 h2 h3 => ?_) h6 t (k + 1) e (Nat.le_refl _) (Nat.le_refl _) h.2.2⟩
  exact PAll_st hlt (fun j a b => hA j (by omega) (by omega)) (fun j a b => h6 j (by omega) (by omega)) (fun k2 e2 x a b => hP k2 e2 x (by omega) (by omega)) h3
end
theorem POne_lt {A : aS} : ∀ (n k e : Nat) (o : One n), POne A n k e o → k < e
  | 0, k, e, o, h => by have := (show PLf A k e o from h).1; omega
  | n + 1, k, e, .inl l, h => by have := (show PLf A k e l from h).1; omega
  | n + 1, k, e, .inr (.inl o), h => by have := POne_lt n (k + 1) e o (show _ ∧ _ ∧ POne A n (k + 1) e o from h).2.2; omega
  | n + 1, k, e, .inr (.inr t), h => PAny_lt (A := A) (POne_lt n) k e t h
theorem PLf_st {A A' : aS} {k e : Nat} {l : Lf} (hA : Ag A A' k e) (h : PLf A k e l) : PLf A' k e l := by
  have g := hA k (Nat.le_refl _) (by have := h.1; omega)
  exact ⟨h.1, g.1.trans h.2.1, g.2.2.1.trans h.2.2.1, g.2.2.2.1.trans h.2.2.2.1, g.2.2.2.2.trans h.2.2.2.2.1, h.2.2.2.2.2⟩
theorem POne_st {A A' : aS} : ∀ (n k e : Nat) (o : One n), Ag A A' k e → Ag6 A A' (k + 1) e → POne A n k e o → POne A' n k e o
  | 0, k, e, o, hA, _, h => PLf_st hA h
  | n + 1, k, e, .inl l, hA, _, h => PLf_st (l := l) hA h
  | n + 1, k, e, .inr (.inl o), hA, h6, h => by
    have h' : A 144 k = 2 ∧ A 145 k = ((k + 1 : Nat) : Int) ∧ POne A n (k + 1) e o := h
    have hk := POne_lt n (k + 1) e o h'.2.2
    have g := hA k (Nat.le_refl _) (by omega)
    exact ⟨g.1.trans h'.1, g.2.1.trans h'.2.1, POne_st n (k + 1) e o (fun j a b => hA j (by omega) b) (fun j a b => h6 j (by omega) b) h'.2.2⟩
  | n + 1, k, e, .inr (.inr t), hA, h6, h => PAny_st (P := POne A n) (P' := POne A' n) (POne_lt n) (t := t) hA h6 (fun k' e' x a b h3 => POne_st n k' e' x (fun j a' b' => hA j (by omega) (by omega)) (fun j a' b' => h6 j (by omega) (by omega)) h3) h
