/-! the class: what its cells say of A -/
abbrev mR : Type := Nat → Nat → Option Nat
abbrev mSh : Type := List (Nat × Nat)
def obJ (S : mSh) (p kd n : Nat) : Prop := 155 ≤ p ∧ S[p - 155]? = some (kd, n)
def pcN (nm : Int) : Int := if nm = 4 then 0 else if nm < 4 then nm + 1 else nm
def NLf (R : mR) (S : mSh) (I : mI) (q : Nat) (l : Lf) : Prop := obJ S q 16 5 ∧ ld I q 0 = 144 + pcN l.1 ∧ ld I q 1 = l.2.1 ∧ ld I q 2 = l.2.2 ∧ R q 3 = none ∧ (0 ≤ l.1 ∧ l.1 < 12) ∧ (l.2.1 = 60 ∨ l.2.1 = 61 ∨ l.2.1 = 62) ∧ (0 ≤ l.2.2 ∧ l.2.2 ≤ 9999)
def NCh {α : Type} (P : Nat → α → Prop) (R : mR) : List α → Option Nat → Prop
  | [], o => o = none
  | x :: xs, o => ∃ q, o = some q ∧ P q x ∧ NCh P R xs (R q 4)
def NJn {α : Type} (kd : Int) (P : Nat → α → Prop) (R : mR) (S : mSh) (I : mI) (q : Nat) (l : List α) : Prop := (∃ x, l = [x] ∧ P q x) ∨ (2 ≤ l.length ∧ obJ S q 16 5 ∧ ld I q 0 = kd ∧ NCh P R l (R q 3))
def NOne (R : mR) (S : mSh) (I : mI) : (n : Nat) → Nat → One n → Prop
  | 0 => fun q l => NLf R S I q l
  | n + 1 => fun q => Sum.elim (NLf R S I q) (Sum.elim (fun o => obJ S q 16 5 ∧ ld I q 0 = 165 ∧ ∃ q1, R q 3 = some q1 ∧ R q1 4 = none ∧ NOne R S I n q1 o) (fun t => NJn 163 (NJn 164 (NOne R S I n) R S I) R S I q t))
def NAny (R : mR) (S : mSh) (I : mI) (n : Nat) (q : Nat) (t : Any n) : Prop := NJn 163 (NJn 164 (NOne R S I n) R S I) R S I q t
def ckd (b : Int) : Int := if b ≤ 8 then 129 + b else if b = 9 then 144 else 128 + b
def cPr (b : Int) : Prop := b = 1 ∨ b = 2 ∨ b = 4 ∨ b = 13 ∨ b = 14
def cOf (b n s : Int) : Int := if b = 1 ∨ b = 2 ∨ b = 4 ∨ b = 13 ∨ b = 14 then n else if b = 6 ∧ 0 ≤ s then s else 0
def cPer (b s : Int) : Int := if b = 6 then (if s = -2 then 159 else if s = -3 then 160 else 133) else 0
def cVal (b n s : Int) : Int := if b = 1 ∨ b = 2 ∨ b = 4 ∨ b = 13 ∨ b = 14 then s else if b = 9 then 0 else n
def StrO (R : mR) (S : mSh) (I : mI) (q : Nat) (bs : List Int) : Prop := obJ S q 17 4 ∧ ld I q 1 = 0 ∧ (∀ (j : Nat) (v : Int), bs[j]? = some v → 0 ≤ v ∧ v ≤ 127) ∧ ∃ b, R q 0 = some b ∧ obJ S b 1 bs.length ∧ (∀ (j : Nat) (v : Int), bs[j]? = some v → ld I b j = v) ∧ ¬ R 53 0 = some b
noncomputable def stX (A : aS) (s : Nat) : List Int := (rnd ([], false) (ccT A (A 139 s) s)).1
/-- a clause object, and the statement that it is -/
def ClO (R : mR) (S : mSh) (I : mI) (A : aS) (p s : Nat) : Prop := obJ S p 15 8 ∧ ld I p 0 = A 139 s ∧ ld I p 1 = ckd (A 140 s) ∧ ld I p 5 = ((s / 40 : Nat) : Int) ∧ (¬ A 140 s = 0 → ld I p 2 = cOf (A 140 s) (A 141 s) (A 142 s) ∧ ld I p 3 = cPer (A 140 s) (A 142 s) ∧ ld I p 4 = cVal (A 140 s) (A 141 s) (A 142 s) ∧ (A 143 s = -1 → R p 6 = none) ∧ (¬ A 143 s = -1 → ∃ q, R p 6 = some q ∧ NAny R S I 10 q (wT A s)) ∧ ∃ q, R p 7 = some q ∧ StrO R S I q (stX A s))
def cnt (P : Nat → Bool) : Nat → Nat
  | 0 => 0
  | n + 1 => cnt P n + (if P (n + 1) = true then 1 else 0)
def isK (A : aS) (y k n : Nat) : Bool := !(cdS A y n == -1) && ckd (A 140 (cdS A y n).toNat) == 130 + (k : Int)
def stK (A : aS) (y : Nat) : Nat → Nat
  | 0 => 0
  | k + 1 => stK A y k + cnt (isK A y k) 60
def isC (A : aS) (y n : Nat) : Bool := !(cdS A y n == -1)
def prS (A : aS) : Nat → Nat
  | 0 => 0
  | a + 1 => prS A a + (A 137 a).toNat
def tdY (A : aS) (y : Nat) : Nat → Bool
  | 0 => false
  | a + 1 => tdY A y a || decide (A 138 a ≤ (y : Int))
/-- where the kinds of a year begin: 0 while no act has told of that year -/
def bsY (A : aS) (y : Nat) : Nat := if tdY A y (A 91 65).toNat = true then 60 * y else 0
theorem bsY_le {A : aS} {y : Nat} : bsY A y ≤ 60 * y := by unfold bsY; split <;> omega
theorem tdY_eq {A A1 : aS} {y : Nat} : ∀ n, (∀ a, a < n → A1 138 a = A 138 a) → tdY A1 y n = tdY A y n
  | 0, _ => rfl
  | n + 1, h => by
    show (tdY A1 y n || decide (A1 138 n ≤ (y : Int))) = (tdY A y n || decide (A 138 n ≤ (y : Int)))
    rw [tdY_eq n (fun a ha => h a (by omega)), h n (by omega)]
theorem bsY_eq {A A1 : aS} {y : Nat} (h65 : A1 91 65 = A 91 65) (h : ∀ a, A1 138 a = A 138 a) : bsY A1 y = bsY A y := by
  unfold bsY
  rw [h65, tdY_eq _ (fun a _ => h a)]
theorem bsY_tl {A : aS} {y n : Nat} (ha : (A 91 65).toNat = n + 1) (hn : A 138 n ≤ (y : Int)) : bsY A y = 60 * y := by
  unfold bsY
  have e : tdY A y (n + 1) = true := by
    show (tdY A y n || decide (A 138 n ≤ (y : Int))) = true
    rw [decide_eq_true hn, Bool.or_true]
  rw [ha, if_pos e]
theorem bsY_nt {A A1 : aS} {y n : Nat} (h1 : (A1 91 65).toNat = n + 1) (h0 : (A 91 65).toNat = n) (hn : (y : Int) < A1 138 n) (h : ∀ a, a < n → A1 138 a = A 138 a) : bsY A1 y = bsY A y := by
  have e : tdY A1 y (n + 1) = tdY A y n := by
    show (tdY A1 y n || decide (A1 138 n ≤ (y : Int))) = tdY A y n
    rw [decide_eq_false (by omega), Bool.or_false, tdY_eq n h]
  unfold bsY
  rw [h1, h0, e]
def CoC (R : mR) (S : mSh) (I : mI) (A : aS) : Prop :=
  (∀ y n : Nat, y < 8 → n ≤ 60 → (cdS A y n = -1 → R 55 (61 * y + n) = none) ∧ (¬ cdS A y n = -1 → ∃ p, R 55 (61 * y + n) = some p ∧ ClO R S I A p (cdS A y n).toNat)) ∧
  (∀ y k : Nat, y < 8 → k ≤ 15 → ld I 57 (16 * y + k) = ((bsY A y + stK A y k : Nat) : Int)) ∧
  (∀ y k n : Nat, y < 8 → k < 15 → n < 60 → isK A y k (n + 1) = true → R 56 (bsY A y + stK A y k + cnt (isK A y k) n) = R 55 (61 * y + (n + 1))) ∧
  (∀ y : Nat, y < 8 → ld I 44 y = (cnt (isC A y) 60 : Nat)) ∧
  ld I 43 7 = (prS A (A 91 65).toNat : Nat) ∧
  (∀ a j : Nat, a < (A 91 65).toNat → j < (A 137 a).toNat → ∃ p, R 51 (prS A a + j) = some p ∧ ClO R S I A p (40 * a + j))
/-! the book -/
def ownN (A : aS) (k : Nat) : Int := if A 103 k = 1 then 40 + A 104 k else A 104 k
def fsO (A : aS) (o : Int) : Nat → Nat → Int
  | 0, _ => -1
  | f + 1, k => if ownN A k = o then (k : Int) else fsO A o f (k + 1)
/-- the first number from k on of an owner -/
def fstO (A : aS) (o : Int) (k : Nat) : Int := fsO A o (nN A - k) k
def lsO (A : aS) (o : Int) : Nat → Int
  | 0 => -1
  | k + 1 => if ownN A k = o then (k : Int) else lsO A o k
def frN (A : aS) (k : Nat) : Int := if A 103 k = 0 then A 106 k else A 105 k
def vlN (A : aS) (k : Nat) : Int := if A 103 k = 0 then A 105 k else if A 103 k = 2 ∨ A 103 k = 3 ∨ A 103 k = 6 then A 107 k else 0
def unN (v : Int) : Int := if v = 5000 then -1 else v
def BkC (I : mI) (A : aS) : Prop := (∀ k : Nat, k < nN A → ld I 33 k = frN A k ∧ ld I 34 k = A 106 k ∧ ld I 35 k = vlN A k ∧ ld I 38 k = unN (A 109 k) ∧ ld I 39 k = fstO A (ownN A k) (k + 1)) ∧ ∀ o : Nat, o < 46 → ld I 40 o = fstO A o 0 ∧ ld I 41 o = lsO A o (nN A)
def PrC (I : mI) (A : aS) : Prop := ∀ t y : Nat, t < 20 → y < 8 → ld I 29 (8 * t + y) = if (t : Int) < A 91 40 then A 123 (8 * t + y) else -1
def gvL (A : aS) (b : Nat) : Nat → Int
  | 0 => 0
  | c + 1 => gvL A b c + A 134 (10 * b + c)
def PoC (I : mI) (A : aS) : Prop := (∀ c : Nat, c < 10 → ld I 87 c = vtL A c 60) ∧ ∀ b : Nat, b < 60 → ld I 90 b = gvL A b 10
def wrdS : List Int := [99, 108, 97, 117, 115, 101, 32, 32, 111, 109, 105, 116, 32, 32, 32, 32, 99, 111, 117, 110, 116, 32, 32, 32, 101, 120, 99, 117, 115, 101, 32, 32, 97, 116, 116, 101, 110, 100, 32, 32, 112, 97, 115, 115, 32, 32, 32, 32, 114, 105, 115, 101, 32, 32, 32, 32, 103, 114, 97, 110, 116, 32, 32, 32, 99, 97, 112, 32, 32, 32, 32, 32, 102, 101, 101, 32, 32, 32, 32, 32, 114, 111, 111, 109, 32, 32, 32, 32, 115, 116, 97, 102, 102, 32, 32, 32, 115, 116, 101, 112, 32, 32, 32, 32, 112, 97, 121, 32, 32, 32, 32, 32, 116, 101, 97, 99, 104, 32, 32, 32, 115, 109, 97, 108, 108, 32, 32, 32, 104, 97, 108, 102, 32, 32, 32, 32, 97, 103, 101, 32, 32, 32, 32, 32, 115, 116, 97, 110, 100, 97, 114, 100, 100, 97, 121, 32, 32, 32, 32, 32, 121, 101, 97, 114, 32, 32, 32, 32, 101, 120, 99, 117, 115, 101, 100, 32, 116, 105, 109, 101, 114, 32, 32, 32, 112, 97, 115, 115, 101, 115, 32, 32, 113, 117, 97, 114, 116, 101, 114, 115, 115, 117, 98, 106, 101, 99, 116, 32, 109, 97, 114, 107, 32, 32, 32, 32, 112, 111, 111, 114, 32, 32, 32, 32, 97, 115, 32, 32, 32, 32, 32, 32, 110, 101, 101, 100, 115, 32, 32, 32, 112, 101, 114, 32, 32, 32, 32, 32, 104, 101, 97, 100, 32, 32, 32, 32, 99, 104, 105, 108, 100, 32, 32, 32, 105, 115, 32, 32, 32, 32, 32, 32, 105, 102, 32, 32, 32, 32, 32, 32, 111, 114, 32, 32, 32, 32, 32, 32, 97, 110, 100, 32, 32, 32, 32, 32, 110, 111, 116, 32, 32, 32, 32, 32, 112, 114, 101, 115, 101, 110, 116, 32, 108, 97, 116, 101, 32, 32, 32, 32, 119, 111, 114, 107, 32, 32, 32, 32]
def StC (I : mI) : Prop := (∀ k : Nat, k < 7 → ld I 1 k = mxN k) ∧ (∀ j : Nat, j < 328 → ld I 3 j = wrdS.getD j 0) ∧ (∀ j : Nat, j < 100 → ld I 6 j = ((48 + j % 10 : Nat) : Int) ∧ ld I 7 j = ((48 + j / 10 : Nat) : Int)) ∧ ld I 2 1 = 0 ∧ ld I 4 1 = 0 ∧ (∀ i : Nat, i < 12 → ld I 58 i = 0)
def PnC (R : mR) (S : mSh) (I : mI) : Prop := ld I 53 1 = 0 ∧ ∃ b n, R 53 0 = some b ∧ ((b = 54 ∧ n = 16) ∨ obJ S b 1 n) ∧ 16 ≤ n ∧ n ≤ 4000 ∧ (∀ j : Nat, 0 ≤ ld I b j ∧ ld I b j ≤ 127) ∧ 0 ≤ ld I 53 3
def RC (R : mR) (S : mSh) (I : mI) (A : aS) : Prop := RelC0 I A ∧ CoC R S I A ∧ BkC I A ∧ PrC I A ∧ PoC I A ∧ StC I ∧ PnC R S I
/-- which cells it reads -/
def pkA : List Nat := [1, 2, 3, 4, 5, 6, 7, 12, 13, 14, 15, 16, 17, 18, 20, 22, 23, 24, 25, 26, 27, 28, 29, 30, 32, 33, 34, 35, 36, 37, 38, 39, 40, 41, 42, 44, 45, 52, 54, 57, 58, 86, 87, 89, 90]
def pkT : List (Nat × Nat) := [(8, 8), (9, 11), (9, 12), (9, 13), (21, 9), (21, 10), (31, 11), (31, 12), (43, 1), (43, 2), (43, 3), (43, 7), (85, 0), (85, 1), (85, 2), (53, 1), (53, 3)]
def pkB (a k : Nat) : Bool := decide (155 ≤ a) || pkA.contains a || pkT.contains (a, k)
section
variable {R R1 : mR} {S S1 : mSh} {I I1 : mI} {A : aS}
/-- objects kept; nothing is said of the pen's own bytes -/
def Ext (R : mR) (S : mSh) (I : mI) (R1 : mR) (S1 : mSh) (I1 : mI) : Prop := (∀ p kd n, obJ S p kd n → (¬ kd = 1 ∨ ¬ R 53 0 = some p) → obJ S1 p kd n ∧ (∀ k, I1 p k = I p k) ∧ ((¬ kd = 16 → R1 p = R p) ∧ R1 p 3 = R p 3 ∧ R1 p 4 = R p 4)) ∧ (∀ b kd n, obJ S b kd n → R1 53 0 = some b → R 53 0 = some b)
theorem Ext.ld {p kd n k : Nat} (h : Ext R S I R1 S1 I1) (ho : obJ S p kd n) (hk : ¬ kd = 1 ∨ ¬ R 53 0 = some p) : ld I1 p k = ld I p k := by
  show (I1 p k).toInt = (I p k).toInt
  rw [(h.1 p kd n ho hk).2.1]
theorem NLf.ext {q : Nat} {l : Lf} (h : Ext R S I R1 S1 I1) (hn : NLf R S I q l) : NLf R1 S1 I1 q l := by
  obtain ⟨h1, h2, h3, h4, h5, h6⟩ := hn
  have e := h.1 q 16 5 h1 (Or.inl (by decide))
  refine ⟨e.1, ?_, ?_, ?_, e.2.2.2.1.trans h5, h6⟩
  · rw [h.ld h1 (Or.inl (by decide))]; exact h2
  · rw [h.ld h1 (Or.inl (by decide))]; exact h3
  · rw [h.ld h1 (Or.inl (by decide))]; exact h4
theorem NCh.ext {α : Type} {P P1 : Nat → α → Prop} (hP : ∀ q x, P q x → P1 q x ∧ R1 q 4 = R q 4) : ∀ (l : List α) (o : Option Nat), NCh P R l o → NCh P1 R1 l o
  | [], _, h => h
  | x :: xs, o, h => by
    obtain ⟨q, h1, h2, h3⟩ := h
    refine ⟨q, h1, (hP q x h2).1, ?_⟩
    rw [(hP q x h2).2]
    exact NCh.ext hP xs _ h3
theorem NJn.ext {α : Type} {kd : Int} {P P1 : Nat → α → Prop} (h : Ext R S I R1 S1 I1) (hP : ∀ q x, P q x → P1 q x ∧ R1 q 4 = R q 4) {q : Nat} {l : List α} (hn : NJn kd P R S I q l) : NJn kd P1 R1 S1 I1 q l ∧ R1 q 4 = R q 4 := by
  rcases hn with ⟨x, h1, h2⟩ | ⟨h1, h2, h3, h4⟩
  · exact ⟨Or.inl ⟨x, h1, (hP q x h2).1⟩, (hP q x h2).2⟩
  · have e := h.1 q 16 5 h2 (Or.inl (by decide))
    refine ⟨Or.inr ⟨h1, e.1, ?_, ?_⟩, e.2.2.2.2⟩
    · rw [h.ld h2 (Or.inl (by decide))]; exact h3
    · rw [e.2.2.2.1]; exact NCh.ext hP _ _ h4
theorem NOne.ext (h : Ext R S I R1 S1 I1) : ∀ (n : Nat) (q : Nat) (o : One n), NOne R S I n q o → NOne R1 S1 I1 n q o ∧ R1 q 4 = R q 4
  | 0, q, o, hn => ⟨NLf.ext h hn, (h.1 q 16 5 hn.1 (Or.inl (by decide))).2.2.2.2⟩
  | n + 1, q, .inl l, hn => ⟨NLf.ext h hn, (h.1 q 16 5 hn.1 (Or.inl (by decide))).2.2.2.2⟩
  | n + 1, q, .inr (.inl o), hn => by
    obtain ⟨h1, h2, q1, h3, h4, h5⟩ := hn
    have e := h.1 q 16 5 h1 (Or.inl (by decide))
    have ih := NOne.ext h n q1 o h5
    refine ⟨⟨e.1, ?_, q1, e.2.2.2.1.trans h3, ih.2.trans h4, ih.1⟩, e.2.2.2.2⟩
    rw [h.ld h1 (Or.inl (by decide))]; exact h2
  | n + 1, q, .inr (.inr t), hn => by
    have hn2 : NJn 163 (NJn 164 (NOne R S I n) R S I) R S I q t := hn
    exact NJn.ext (P1 := NJn 164 (NOne R1 S1 I1 n) R1 S1 I1) h (fun q x hx => NJn.ext h (fun q x hx => NOne.ext h n q x hx) hx) hn2
theorem NAny.ext (h : Ext R S I R1 S1 I1) {n q : Nat} {t : Any n} (hn : NAny R S I n q t) : NAny R1 S1 I1 n q t := (NJn.ext (P1 := NJn 164 (NOne R1 S1 I1 n) R1 S1 I1) h (fun q x hx => NJn.ext h (fun q x hx => NOne.ext h n q x hx) hx) hn).1
theorem StrO.ext (h : Ext R S I R1 S1 I1) {q : Nat} {bs : List Int} (hn : StrO R S I q bs) : StrO R1 S1 I1 q bs := by
  obtain ⟨h1, h2, hB, b, h3, h4, h5, h6⟩ := hn
  have e := h.1 q 17 4 h1 (Or.inl (by decide))
  have e2 := h.1 b 1 _ h4 (Or.inr h6)
  refine ⟨e.1, ?_, hB, b, ?_, e2.1, fun j v hj => ?_, fun hb => h6 (h.2 b _ _ h4 hb)⟩
  · rw [h.ld h1 (Or.inl (by decide))]; exact h2
  · rw [e.2.2.1 (by decide)]; exact h3
  · rw [h.ld h4 (Or.inr h6)]; exact h5 j v hj
theorem ClO.ext (h : Ext R S I R1 S1 I1) {p s : Nat} (hn : ClO R S I A p s) : ClO R1 S1 I1 A p s := by
  obtain ⟨h1, h2, h3, h4, h5⟩ := hn
  have e := h.1 p 15 8 h1 (Or.inl (by decide))
  have e3 := e.2.2.1 (by decide)
  have l : ∀ k, ld I1 p k = ld I p k := fun k => h.ld h1 (Or.inl (by decide))
  refine ⟨e.1, (l 0).trans h2, (l 1).trans h3, (l 5).trans h4, fun h0 => ?_⟩
  obtain ⟨a1, a2, a3, a4, a5, q, a6, a7⟩ := h5 h0
  refine ⟨(l 2).trans a1, (l 3).trans a2, (l 4).trans a3, fun g => by rw [e3]; exact a4 g, fun g => ?_, q, by rw [e3]; exact a6, a7.ext h⟩
  obtain ⟨q2, b1, b2⟩ := a5 g
  exact ⟨q2, by rw [e3]; exact b1, b2.ext h⟩
theorem Ext.same (hk : ∀ a k, 155 ≤ a → I1 a k = I a k) : Ext R S I R S I1 := ⟨fun p kd n ho _ => ⟨ho, fun k => hk p k ho.1, fun _ => rfl, rfl, rfl⟩, fun _ _ _ _ hb => hb⟩
def PKp (I I1 : mI) : Prop := ∀ a k, pkB a k = true → I1 a k = I a k
theorem PKp.ld (h : PKp I I1) {a k : Nat} (hp : pkB a k = true) : ld I1 a k = ld I a k := by show (I1 a k).toInt = (I a k).toInt; rw [h a k hp]
theorem mrA_pk : ∀ q ∈ mrA, pkA.contains q.1 = true := by decide
theorem mrS_pk : ∀ q ∈ mrS, pkT.contains (q.1, q.2.1) = true := by decide
theorem mr_pk {a k : Nat} {q : Nat × Nat} (h : mr a k = some q) : pkB a k = true := by
  unfold mr at h
  unfold pkB
  split at h
  · rename_i r hr
    have h1 := List.mem_of_find?_eq_some hr
    have h2 := List.find?_some hr
    have h3 := mrA_pk r h1
    rw [eq_of_beq h2] at h3
    rw [h3]; simp
  · split at h
    · rename_i r hr
      have h1 := List.mem_of_find?_eq_some hr
      have h2 := List.find?_some hr
      have h3 := mrS_pk r h1
      simp only [Bool.and_eq_true, beq_iff_eq] at h2
      rw [h2.1, h2.2] at h3
      rw [h3]; simp
    · cases h
theorem RelC0.pk (h : RelC0 I A) (hk : PKp I I1) : RelC0 I1 A := by
  intro a k
  have h9 := h a k
  split
  · rename_i q hq
    rw [hq] at h9
    rw [hk.ld (mr_pk hq)]; exact h9
  · trivial
theorem pk_hi {a k : Nat} (h : 155 ≤ a) : pkB a k = true := by unfold pkB; rw [decide_eq_true h]; rfl
theorem CoC.pk (h : CoC R S I A) (hk : PKp I I1) : CoC R S I1 A := by
  obtain ⟨h1, h2, h3, h4, h5, h6⟩ := h
  have e : Ext R S I R S I1 := Ext.same (fun a k ha => hk a k (pk_hi ha))
  refine ⟨fun y n hy hn => ⟨(h1 y n hy hn).1, fun hc => ?_⟩, fun y k hy h => ?_, h3, fun y hy => ?_, ?_, fun a j ha hj => ?_⟩
  · obtain ⟨p, p1, p2⟩ := (h1 y n hy hn).2 hc
    exact ⟨p, p1, p2.ext e⟩
  · rw [hk.ld rfl]; exact h2 y k hy h
  · rw [hk.ld rfl]; exact h4 y hy
  · rw [hk.ld rfl]; exact h5
  · obtain ⟨p, p1, p2⟩ := h6 a j ha hj
    exact ⟨p, p1, p2.ext e⟩
theorem BkC.pk (h : BkC I A) (hk : PKp I I1) : BkC I1 A := by
  refine ⟨fun k h9 => ?_, fun o ho => ?_⟩
  · rw [hk.ld rfl, hk.ld rfl, hk.ld rfl, hk.ld rfl, hk.ld rfl]; exact h.1 k h9
  · rw [hk.ld rfl, hk.ld rfl]; exact h.2 o ho
theorem PrC.pk (h : PrC I A) (hk : PKp I I1) : PrC I1 A := fun t y ht hy => by rw [hk.ld rfl]; exact h t y ht hy
theorem PoC.pk (h : PoC I A) (hk : PKp I I1) : PoC I1 A := ⟨fun c hc => by rw [hk.ld rfl]; exact h.1 c hc, fun b hb => by rw [hk.ld rfl]; exact h.2 b hb⟩
theorem StC.pk (h : StC I) (hk : PKp I I1) : StC I1 := ⟨fun k h9 => by rw [hk.ld rfl]; exact h.1 k h9, fun k h9 => by rw [hk.ld rfl]; exact h.2.1 k h9, fun k h9 => by rw [hk.ld rfl, hk.ld rfl]; exact h.2.2.1 k h9, by rw [hk.ld rfl]; exact h.2.2.2.1, by rw [hk.ld rfl]; exact h.2.2.2.2.1, fun k h9 => by rw [hk.ld rfl]; exact h.2.2.2.2.2 k h9⟩
theorem PnC.pk (h : PnC R S I) (hk : PKp I I1) : PnC R S I1 := by
  obtain ⟨h0, b, n, h1, h2, h3, h4, h5, h6⟩ := h
  have hb : ∀ j, pkB b j = true := fun j => by
    rcases h2 with ⟨rfl, -⟩ | h2
    · rfl
    · exact pk_hi h2.1
  refine ⟨by rw [hk.ld rfl]; exact h0, b, n, h1, h2, h3, h4, fun j => ?_, by rw [hk.ld rfl]; exact h6⟩
  rw [hk.ld (hb j)]; exact h5 j
theorem RC.pk (h : RC R S I A) (hk : PKp I I1) : RC R S I1 A := ⟨h.1.pk hk, h.2.1.pk hk, h.2.2.1.pk hk, h.2.2.2.1.pk hk, h.2.2.2.2.1.pk hk, h.2.2.2.2.2.1.pk hk, h.2.2.2.2.2.2.pk hk⟩
theorem RC.scr {a k : Nat} {x : Int32} (h : RC R S I A) (hp : pkB a k = false) : RC R S (u2 I a k x) A := by
  refine h.pk (fun b j hb => if_neg ?_)
  rintro ⟨rfl, rfl⟩
  rw [hp] at hb
  cases hb
def nkC (ws : List Nat) (os : List (Nat × Nat)) : Bool := ws.all (fun a => decide (a < 155) && !pkA.contains a && !(pkT.any (fun q => q.1 == a))) && os.all (fun q => !pkB q.1 q.2)
theorem RC.fr {ws : List Nat} {os : List (Nat × Nat)} (h : RC R S I A) (hf : Fr ws os I I1) (hw : nkC ws os = true) : RC R S I1 A := by
  unfold nkC at hw
  simp only [Bool.and_eq_true, List.all_eq_true, decide_eq_true_eq, Bool.not_eq_true', List.any_eq_false, beq_iff_eq] at hw
  refine h.pk (fun a k hp => hf a k ?_)
  cases hc : ws.contains a with
  | true =>
    obtain ⟨⟨h1, h2⟩, h3⟩ := hw.1 a (List.contains_iff_mem.mp hc)
    exfalso
    unfold pkB at hp
    rw [h2, decide_eq_false (by omega)] at hp
    simp only [Bool.false_or] at hp
    exact h3 _ (List.contains_iff_mem.mp hp) rfl
  | false =>
    cases hc2 : os.contains (a, k) with
    | false => rfl
    | true =>
      have h3 := hw.2 (a, k) (List.contains_iff_mem.mp hc2)
      dsimp only at h3
      rw [hp] at h3
      cases h3
theorem RC.fm (h : RC R S I A) (hf : FM I I1) (h0 : ∀ a, 91 ≤ a ∧ a ≤ 154 → pkA.contains a = false ∧ ∀ q ∈ pkT, ¬ q.1 = a) : RC R S I1 A := by
  refine h.pk (fun a k hp => hf a k ?_)
  apply Classical.byContradiction
  intro hn
  have h1 := h0 a (by omega)
  unfold pkB at hp
  rw [h1.1, decide_eq_false (by omega)] at hp
  simp only [Bool.false_or] at hp
  exact h1.2 _ (List.contains_iff_mem.mp hp) rfl
theorem RC.at (h : RC R S I A) {a k a' k' : Nat} (hp : mr a k = some (a', k')) : ld I a k = A a' k' := h.1.at hp
end
/-! objects behind the first cells -/
section
variable {L : Nat} {R : mR} {S : mSh} {I : mI} {p kd n k a m : Nat}
theorem obJ.sh (h : obJ S p kd n) : (bd L I R S).2.2[p]? = some (kd, n) := by
  show (zSh L ++ S)[p]? = _
  have e : (zSh L).length = 155 := rfl
  rw [List.getElem?_append_right (by rw [e]; exact h.1), e]
  exact h.2
theorem obJ.sp (h : obJ S p kd n) : nSP ≤ p := Nat.le_trans (by decide) h.1
theorem obJ.ne (h : obJ S p kd n) (ha : a < 155) : p ≠ a := by have := h.1; omega
theorem obJ.en (h : obJ S p kd n) (ha : a < 155) : a ≠ p := by have := h.1; omega
theorem obJ.rf (h : obJ S p kd n) : (bd L I R S).2.1 p k = R p k := by
  refine rfN ?_
  rw [List.getD_eq_getElem?_getD, List.getElem?_eq_none (by show 155 ≤ p; exact h.1)]
  rfl
theorem rcvO {as : List Value} (ho : obJ S p (k + 1) n) (hm : jMR.getD m 0 = k + 1) (hl : decide ((mLay (.ref p :: as)).length ≤ jML.getD m 0) = true) : mRcv m (.ref p :: as) (bd L I R S) = true := by
  unfold mRcv
  rw [hl, hm]
  dsimp only
  rw [ho.sh, decide_eq_true ho.sp]
  simp
theorem rc200_2 : mRcv 200 [.ref 2] (bd L I R S) = true := rfl
theorem rc201_2 : mRcv 201 [.ref 2] (bd L I R S) = true := rfl
theorem rc203_2 : mRcv 203 [.ref 2] (bd L I R S) = true := rfl
theorem rc202_2 {x0 : Int32} : mRcv 202 [.ref 2, .int x0] (bd L I R S) = true := rfl
end
/-! what a call of the class may write -/
def FK (I I1 : mI) : Prop := ∀ a k, (91 ≤ a ∧ a ≤ 154) ∨ a < 8 → I1 a k = I a k
section
variable {I I1 I2 : mI} {A : aS}
theorem FK.refl (I : mI) : FK I I := fun _ _ _ => rfl
theorem FK.trans (h : FK I I1) (h2 : FK I1 I2) : FK I I2 := fun a k ha => (h2 a k ha).trans (h a k ha)
theorem FK.wr {a k : Nat} {x : Int32} (h : FK I I1) (ha : 8 ≤ a ∧ (a < 91 ∨ 154 < a)) : FK I (u2 I1 a k x) := fun b j hb => (v2_ne (by omega)).trans (h b j hb)
theorem Fr.FK {ws : List Nat} {os : List (Nat × Nat)} (h : Fr ws os I I1) (hw : (ws.all (fun a => decide (8 ≤ a ∧ a < 91)) && os.all (fun q => decide (8 ≤ q.1 ∧ q.1 < 91))) = true) : FK I I1 := by
  simp only [Bool.and_eq_true, List.all_eq_true, decide_eq_true_eq] at hw
  intro a k ha
  refine h a k ?_
  cases hc : ws.contains a with
  | true => have := hw.1 a (List.contains_iff_mem.mp hc); omega
  | false =>
    cases hc2 : os.contains (a, k) with
    | false => rfl
    | true => have := hw.2 (a, k) (List.contains_iff_mem.mp hc2); dsimp only at this; omega
theorem RM.fk (h : RM I A) (hf : FK I I1) : RM I1 A := by
  have l : ∀ a k, 91 ≤ a ∧ a ≤ 154 → ld I1 a k = ld I a k := fun a k ha => by unfold ld; rw [hf a k (Or.inl ha)]
  refine ⟨fun a k hp => ?_, ?_⟩
  · have ha : 91 ≤ a ∧ a ≤ 154 := by
      unfold pm at hp
      split at hp
      · omega
      · have h9 : ∀ b ∈ pmA, 91 < b ∧ b ≤ 154 := by decide
        have := h9 a (List.contains_iff_mem.mp hp)
        omega
    rw [l a k ha]; exact h.1 a k hp
  · rcases h.2 with h0 | ⟨h0, h9⟩
    · exact Or.inl ((l 91 87 (by decide)).trans h0)
    · refine Or.inr ⟨(l 91 87 (by decide)).trans h0, fun y n hy hn => ?_⟩
      rw [l 151 _ (by decide)]; exact h9 y n hy hn
end
