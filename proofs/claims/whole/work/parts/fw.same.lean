section
variable {A B : aS} {y n : Int} {Y N k s : Nat}
theorem MCh_uniq {α : Type} {P : Int → α → Prop} {nx : Nat → Int} (hP : ∀ k x x', P k x → P k x' → x = x') (hb : ∀ k x, P k x → ndIn A k) : ∀ (l l' : List α) (k : Int), MCh P nx l k → MCh P nx l' k → l = l'
  | [], [], _, _, _ => rfl
  | [], y :: l', k, h, h' => by
    have h : k = -1 := h
    have := (hb _ _ h'.1).1
    omega
  | x :: l, [], k, h, h' => by
    have h' : k = -1 := h'
    have := (hb _ _ h.1).1
    omega
  | x :: l, y :: l', k, h, h' => by
    have e1 := hP k x y h.1 h'.1
    have e2 := MCh_uniq hP hb l l' _ h.2 h'.2
    rw [e1, e2]
theorem MLf_uniq {k : Int} {l l' : Lf} (h : MLf A k l) (h' : MLf A k l') : l = l' := by
  obtain ⟨-, -, a1, a2, a3, -⟩ := h
  obtain ⟨-, -, b1, b2, b3, -⟩ := h'
  exact Prod.ext (a1.symm.trans b1) (Prod.ext (a2.symm.trans b2) (a3.symm.trans b3))
theorem MAllP_uniq {α : Type} {P : Int → α → Prop} (hP : ∀ k x x', P k x → P k x' → x = x') (hb : ∀ k x, P k x → ndIn A k) (k : Int) (l l' : List α) (h : MAllP A P k l) (h' : MAllP A P k l') : l = l' := MCh_uniq (A := A) hP hb l l' _ h.2.2.2 h'.2.2.2
theorem MAnyP_uniq {α : Type} {P : Int → α → Prop} (hP : ∀ k x x', P k x → P k x' → x = x') (hb : ∀ k x, P k x → ndIn A k) (k : Int) (l l' : List (List α)) (h : MAnyP A P k l) (h' : MAnyP A P k l') : l = l' := MCh_uniq (A := A) (fun k x x' => MAllP_uniq hP hb k x x') (fun k x h => h.1) l l' _ h.2.2.2 h'.2.2.2
theorem MOne_uniq : ∀ (n : Nat) (k : Int) (o o' : One n), MOne A n k o → MOne A n k o' → o = o'
  | 0, k, o, o', h, h' => MLf_uniq (l := o) (l' := o') h h'
  | n + 1, k, .inl l, .inl l', h, h' => by rw [MLf_uniq (A := A) (l := l) (l' := l') h h']
  | n + 1, k, .inl l, .inr (.inl o'), h, h' => by
    have h1 : MLf A k l := h
    have h2 : ndIn A k ∧ A 144 k.toNat = 2 ∧ MOne A n (A 145 k.toNat) o' := h'
    have := h1.2.1; have := h2.2.1; omega
  | n + 1, k, .inl l, .inr (.inr t'), h, h' => by
    have h1 : MLf A k l := h
    have h2 : MAnyP A (MOne A n) k t' := h'
    have := h1.2.1; have := h2.2.1; omega
  | n + 1, k, .inr (.inl o), .inl l', h, h' => by
    have h1 : MLf A k l' := h'
    have h2 : ndIn A k ∧ A 144 k.toNat = 2 ∧ MOne A n (A 145 k.toNat) o := h
    have := h1.2.1; have := h2.2.1; omega
  | n + 1, k, .inr (.inr t), .inl l', h, h' => by
    have h1 : MLf A k l' := h'
    have h2 : MAnyP A (MOne A n) k t := h
    have := h1.2.1; have := h2.2.1; omega
  | n + 1, k, .inr (.inl o), .inr (.inl o'), h, h' => by
    have h1 : ndIn A k ∧ A 144 k.toNat = 2 ∧ MOne A n (A 145 k.toNat) o := h
    have h2 : ndIn A k ∧ A 144 k.toNat = 2 ∧ MOne A n (A 145 k.toNat) o' := h'
    rw [MOne_uniq n _ o o' h1.2.2 h2.2.2]
  | n + 1, k, .inr (.inl o), .inr (.inr t'), h, h' => by
    have h1 : ndIn A k ∧ A 144 k.toNat = 2 ∧ MOne A n (A 145 k.toNat) o := h
    have h2 : MAnyP A (MOne A n) k t' := h'
    have := h1.2.1; have := h2.2.1; omega
  | n + 1, k, .inr (.inr t), .inr (.inl o'), h, h' => by
    have h1 : ndIn A k ∧ A 144 k.toNat = 2 ∧ MOne A n (A 145 k.toNat) o' := h'
    have h2 : MAnyP A (MOne A n) k t := h
    have := h1.2.1; have := h2.2.1; omega
  | n + 1, k, .inr (.inr t), .inr (.inr t'), h, h' => by
    have h1 : MAnyP A (MOne A n) k t := h
    have h2 : MAnyP A (MOne A n) k t' := h'
    have e := MAnyP_uniq (A := A) (P := MOne A n) (fun k x x' => MOne_uniq n k x x') (fun k x q => MOne.nd q) k t t' h1 h2
    exact congrArg (fun z => Sum.inr (Sum.inr z)) e
theorem MAny_uniq {n : Nat} {k : Int} {t t' : Any n} (h : MAny A n k t) (h' : MAny A n k t') : t = t' := MAnyP_uniq (A := A) (P := MOne A n) (fun k x x' => MOne_uniq n k x x') (fun k x q => MOne.nd q) k t t' h h'
theorem wT_eq {t : Any 10} (h : MAny A 10 (A 143 s) t) : wT A s = t := MAny_uniq (Classical.epsilon_spec (p := fun t : Any 10 => MAny A 10 (A 143 s) t) ⟨t, h⟩) h
theorem bdR_congr {b n n' s s' : Int} (h : ¬ b = 9 → n = n') (h2 : b = 1 ∨ b = 2 ∨ b = 4 ∨ b = 6 ∨ b = 13 ∨ b = 14 → s = s') : bdR b n s = bdR b n' s' := by
  by_cases c9 : b = 9
  · subst c9; rfl
  · have h := h c9
    subst h
    by_cases c : b = 1 ∨ b = 2 ∨ b = 4 ∨ b = 6 ∨ b = 13 ∨ b = 14
    · rw [h2 c]
    · unfold bdR
      rw [if_neg (by omega), if_neg c9, if_neg (by omega), if_neg (by omega), if_neg (by omega), if_neg (by omega), if_neg (by omega), if_neg (by omega), if_neg c9, if_neg (by omega), if_neg (by omega), if_neg (by omega), if_neg (by omega), if_neg (by omega)]
/-- the same statements of the same acts, up to act m -/
def StAg (A B : aS) (m : Nat) : Prop := ∀ a, a < m → A 137 a = B 137 a ∧ A 138 a = B 138 a ∧ ∀ j : Nat, j < (A 137 a).toNat → A 139 (40 * a + j) = B 139 (40 * a + j) ∧ A 140 (40 * a + j) = B 140 (40 * a + j)
theorem cdA_ag {a : Nat} {v : Int} : ∀ j, (∀ i : Nat, i < j → A 139 (40 * a + i) = B 139 (40 * a + i) ∧ A 140 (40 * a + i) = B 140 (40 * a + i)) → cdA A n a v j = cdA B n a v j
  | 0, _ => rfl
  | j + 1, h => by
    rw [cdA_succ, cdA_succ, (h j (by omega)).1, (h j (by omega)).2, cdA_ag j (fun i hi => h i (by omega))]
theorem cdF_ag {f v : Int} : ∀ m, StAg A B m → cdF A n f v m = cdF B n f v m
  | 0, _ => rfl
  | m + 1, h => by
    have g := h m (by omega)
    rw [cdF_succ, cdF_succ, cdF_ag m (fun a ha => h a (by omega)), ← g.1, ← g.2.1, cdA_ag _ g.2.2]
theorem cdY_ag (h65 : A 91 65 = B 91 65) (h : StAg A B (A 91 65).toNat) : ∀ f, cdY A n f = cdY B n f
  | 0 => rfl
  | f + 1 => by rw [cdY_succ, cdY_succ, cdY_ag h65 h f, ← h65, cdF_ag _ h]
theorem cdS_ag (h65 : A 91 65 = B 91 65) (h : StAg A B (A 91 65).toNat) : cdS A y n = cdS B y n := cdY_ag h65 h _
/-- one act more, of a later year -/
theorem cdY_more {ac : Nat} {yy : Int} (h65 : (A 91 65).toNat = ac) (h65b : (B 91 65).toNat = ac + 1) (h : StAg A B ac) (h138 : B 138 ac = yy) : ∀ f : Nat, (f : Int) ≤ yy → cdY A n f = cdY B n f
  | 0, _ => rfl
  | f + 1, hf => by
    rw [cdY_succ, cdY_succ, cdY_more h65 h65b h h138 f (by omega), h65, h65b, cdF_succ, if_neg (by omega), cdF_ag _ h]
theorem prS_ag : ∀ m, StAg A B m → prS A m = prS B m
  | 0, _ => rfl
  | m + 1, h => by rw [prS_succ, prS_succ, prS_ag m (fun a ha => h a (by omega)), (h m (by omega)).1]
theorem StAg.sub {m m' : Nat} (h : StAg A B m) (hm : m' ≤ m) : StAg A B m' := fun a ha => h a (by omega)
/-- codes that are the same -/
def CdAg (A B : aS) (Y : Nat) : Prop := ∀ n : Nat, cdS A Y n = cdS B Y n ∧ (¬ cdS A Y n = -1 → A 140 (cdS A Y n).toNat = B 140 (cdS A Y n).toNat)
theorem CdAg.k1 (h : CdAg A B Y) {k n : Nat} : isK A Y k n = isK B Y k n := by
  unfold isK
  rw [← (h n).1]
  by_cases c : cdS A Y n = -1
  · rw [c]; rfl
  · rw [(h n).2 c]
theorem CdAg.c1 (h : CdAg A B Y) : isC A Y = isC B Y := by
  funext n
  unfold isC
  rw [(h n).1]
theorem CdAg.t1 (h : CdAg A B Y) : ∀ k, stK A Y k = stK B Y k
  | 0 => rfl
  | k + 1 => by
    show stK A Y k + cnt (isK A Y k) 60 = stK B Y k + cnt (isK B Y k) 60
    rw [CdAg.t1 h k, show isK A Y k = isK B Y k from funext fun n => h.k1]
end
