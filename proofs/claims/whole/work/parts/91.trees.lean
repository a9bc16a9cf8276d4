/-! what is written, by tokens -/
abbrev Tk : Type := Int64 ⊕ (Int ⊕ Int)
def stk (x : List Int × Bool) (t : Tk) : List Int × Bool := match t with
  | .inl w => (x.1 ++ (gpB x.2 ++ wB w), true)
  | .inr (.inl v) => (x.1 ++ (gpB x.2 ++ dB v), true)
  | .inr (.inr c) => (x.1 ++ [c], false)
def rnd (x : List Int × Bool) (ts : List Tk) : List Int × Bool := ts.foldl stk x
def tW (w : Int64) : Tk := .inl w
def tN (v : Int) : Tk := .inr (.inl v)
def tS (c : Int) : Tk := .inr (.inr c)
theorem rnd_nil (x : List Int × Bool) : rnd x [] = x := rfl
theorem rnd_cons (x : List Int × Bool) (t : Tk) (ts : List Tk) : rnd x (t :: ts) = rnd (stk x t) ts := rfl
theorem rnd_app (x : List Int × Bool) (ts us : List Tk) : rnd x (ts ++ us) = rnd (rnd x ts) us := List.foldl_append ..
theorem stk_le (x : List Int × Bool) (t : Tk) : x.1.length ≤ (stk x t).1.length := by
  rcases t with w | v | c
  · show _ ≤ (x.1 ++ _).length; rw [List.length_append]; omega
  · show _ ≤ (x.1 ++ _).length; rw [List.length_append]; omega
  · show _ ≤ (x.1 ++ _).length; rw [List.length_append]; omega
theorem rnd_le : ∀ (ts : List Tk) (x : List Int × Bool), x.1.length ≤ (rnd x ts).1.length
  | [], x => Nat.le_refl _
  | t :: ts, x => Nat.le_trans (stk_le x t) (rnd_le ts (stk x t))
/-- a writer of tokens -/
def WtOk (d L : Nat) (R : Nat → Nat → Option Nat) (S : List (Nat × Nat)) (A : aS) (m : Nat) (as : List Value) (ts : List Tk) : Prop :=
  ∀ (I : mI) (B : List Int) (b : Bool) (K : mM → Prop), RM I A → Wr I B b → (rnd (B, b) ts).1.length ≤ 8000 → (∀ I1, FM I I1 → RM I1 A → Wr I1 (rnd (B, b) ts).1 (rnd (B, b) ts).2 → K (bd L I1 R S)) → CallV d m as (bd L I R S) K
def cAll {α : Type} (f : α → Int) : List α → Int
  | [x] => f x
  | _ => 1
def cAny {α : Type} (f : α → Int) : List (List α) → Int
  | [l] => cAll f l
  | _ => 0
def cOne : (n : Nat) → One n → Int
  | 0 => fun _ => 2
  | n + 1 => Sum.elim (fun _ => 2) (Sum.elim (fun _ => 2) (fun t => cAny (cOne n) t))
def jr {α : Type} (w : Int64) (f : α → List Tk) : List α → List Tk
  | [] => []
  | y :: r => tW w :: (f y ++ jr w f r)
def jn {α : Type} (w : Int64) (f : α → List Tk) : List α → List Tk
  | [] => []
  | x :: r => f x ++ jr w f r
def prT (c : Bool) (ts : List Tk) : List Tk := if c = true then tS 40 :: (ts ++ [tS 41]) else ts
def tAll {α : Type} (c : α → Int) (f : Int → α → List Tk) (ls : Int) (l : List α) : List Tk := prT (decide (cAll c l < ls)) (jn wAnd (f (if l.length = 1 then 0 else 1)) l)
def tAny {α : Type} (c : α → Int) (f : Int → α → List Tk) (ls : Int) (t : List (List α)) : List Tk := prT (decide (cAny c t < ls)) (jn wOr (tAll c f 0) t)
def tLf (l : Lf) : List Tk := [tW (nmW l.1), tS l.2.1, tN l.2.2]
def tOne : (n : Nat) → Int → One n → List Tk
  | 0 => fun _ l => tLf l
  | n + 1 => fun ls => Sum.elim tLf (Sum.elim (fun o => tW wNot :: tOne n 2 o) (fun t => tAny (cOne n) (tOne n) ls t))
section
variable {d L : Nat} {I I0 : mI} {R : Nat → Nat → Option Nat} {S : List (Nat × Nat)} {A : aS} {Q : Option Value → mM → Prop} {K : mM → Prop} {B : List Int} {b : Bool} {w : Int64} {v : Int}
theorem wt323 {x : Int} (hx : -128 ≤ x ∧ x ≤ 127) : WtOk d L R S A 323 [.ref 91, .int (oI x)] [tS x] := by
  intro I B b K hR hw hl hK
  have e : (rnd (B, b) [tS x]).1 = B ++ [x] := rfl
  rw [e, List.length_append] at hl
  exact k323 hR hw (by have : ([x] : List Int).length = 1 := rfl; omega) hx hK
theorem wt322 (hw : WdOk w) : WtOk (d + 1) L R S A 322 [.ref 91, .long w] [tW w] := by
  intro I B b K hR hW hl hK
  exact k322 hw hR hW hl hK
theorem wt324 (hv : 0 ≤ v ∧ v ≤ 9999) : WtOk (d + 1) L R S A 324 [.ref 91, .int (oI v)] [tN v] := by
  intro I B b K hR hW hl hK
  exact k324 hv hR hW hl hK
/-- a writer, then what comes behind it -/
theorem WtOk.go {m : Nat} {as : List Value} {ts us : List Tk} {P : mI → Prop} (h : WtOk d L R S A m as ts) (hf : FM I0 I) (hR : RM I A) (hw : Wr I B b) (hl : (rnd (B, b) (ts ++ us)).1.length ≤ 8000) (hK : ∀ I1, FM I0 I1 → RM I1 A → Wr I1 (rnd (B, b) ts).1 (rnd (B, b) ts).2 → (rnd ((rnd (B, b) ts).1, (rnd (B, b) ts).2) us).1.length ≤ 8000 → P I1) : CallV d m as (bd L I R S) (fun s => ∃ I1 : mI, s = bd L I1 R S ∧ RM I1 A ∧ P I1) := by
  rw [rnd_app] at hl
  refine h I B b _ hR hw (Nat.le_trans (rnd_le us _) hl) (fun I1 f1 r1 w1 => ⟨I1, rfl, r1, hK I1 (hf.trans f1) r1 w1 hl⟩)
theorem MCh_len {α : Type} {P : Int → α → Prop} {nx : Nat → Int} (hP : ∀ a x, P a x → 0 ≤ a) : ∀ (l l' : List α) (a : Int), MCh P nx l a → MCh P nx l' a → l.length = l'.length
  | [], [], _, _, _ => rfl
  | [], y :: l', a, h, h' => by have h1 : a = -1 := h; have h2 := hP _ _ h'.1; omega
  | x :: l, [], a, h, h' => by have h1 : a = -1 := h'; have h2 := hP _ _ h.1; omega
  | x :: l, y :: l', a, h, h' => by
    have := MCh_len hP l l' _ h.2 h'.2
    show l.length + 1 = l'.length + 1
    rw [this]
theorem r328_all {α : Type} {P : Int → α → Prop} {c : α → Int} (hR : RM I A) (hP : ∀ a x, P a x → ndIn A a) (hc : ∀ a x, P a x → R328 d L I R S a (c x)) {k : Int} {l : List α} (h : MAllP A P k l) : R328 (d + 1) L I R S k (cAll c l) := by
  intro K hK
  obtain ⟨h1, h2, h3, h4⟩ := h
  have g1 := h1.1; have g2 := h1.2.1; have g3 := h1.2.2
  cases l with
  | nil => exact absurd rfl h3
  | cons x r =>
    have h5 := hP _ _ h4.1
    have g4 := h5.1; have g5 := h5.2.1
    refine e328 hR ⟨by omega, fun q => absurd q (by omega), fun _ => ⟨fun q => absurd q (by omega), fun _ => ⟨by omega, fun q => ?_, fun q => ⟨fun z => absurd z (by omega), fun _ => ?_⟩⟩⟩⟩
    · cases r with
      | nil => exact ⟨c x, hc _ _ h4.1, hK⟩
      | cons y r => have := (hP _ _ h4.2.1).1; omega
    · cases r with
      | nil => exact absurd h4.2 q
      | cons y r => exact hK
theorem r328_any {α : Type} {P : Int → α → Prop} {c : α → Int} (hR : RM I A) (hP : ∀ a x, P a x → ndIn A a) (hc : ∀ a x, P a x → R328 d L I R S a (c x)) {k : Int} {t : List (List α)} (h : MAnyP A P k t) : R328 (d + 2) L I R S k (cAny c t) := by
  intro K hK
  obtain ⟨h1, h2, h3, h4⟩ := h
  have g1 := h1.1; have g2 := h1.2.1; have g3 := h1.2.2
  cases t with
  | nil => exact absurd rfl h3
  | cons x r =>
    have h5 := h4.1.1
    have g4 := h5.1; have g5 := h5.2.1
    refine e328 (d := d + 1) hR ⟨by omega, fun q => absurd q (by omega), fun _ => ⟨fun q => absurd q (by omega), fun _ => ⟨by omega, fun q => ?_, fun q => ⟨fun z => ?_, fun z => absurd h2 z⟩⟩⟩⟩
    · cases r with
      | nil => exact ⟨cAll c x, r328_all hR hP hc h4.1, hK⟩
      | cons y r => have := h4.2.1.1.1; omega
    · cases r with
      | nil => exact absurd h4.2 q
      | cons y r => exact hK
theorem r328_lf (hR : RM I A) {k : Int} (hk : ndIn A k) (h : A 144 k.toNat = 3 ∨ A 144 k.toNat = 2) : R328 (d + 1) L I R S k 2 := by
  intro K hK
  have g1 := hk.1; have g2 := hk.2.1; have g3 := hk.2.2
  refine e328 hR ⟨by omega, fun _ => hK, fun q => ⟨fun _ => hK, fun q2 => absurd h (by omega)⟩⟩
theorem r328 (hR : RM I A) : ∀ (n d : Nat) (k : Int) (o : One n), MOne A n k o → R328 (d + 1 + 2 * n) L I R S k (cOne n o)
  | 0, d, k, o, h => r328_lf hR h.1 (Or.inl h.2.1)
  | n + 1, d, k, .inl l, h => by
    have h' : MLf A k l := h
    exact r328_lf (d := d + 1 + 2 * n + 1) hR h'.1 (Or.inl h'.2.1)
  | n + 1, d, k, .inr (.inl o), h => by
    have h' : ndIn A k ∧ A 144 k.toNat = 2 ∧ MOne A n (A 145 k.toNat) o := h
    exact r328_lf (d := d + 1 + 2 * n + 1) hR h'.1 (Or.inr h'.2.1)
  | n + 1, d, k, .inr (.inr t), h => r328_any (d := d + 1 + 2 * n) hR (fun a x q => MOne.nd q) (fun a x q => r328 hR n d a x q) h
end
