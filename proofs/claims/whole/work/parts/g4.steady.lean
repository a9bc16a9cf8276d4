/-! what holds between the steps of a run -/
section
variable {L n k c N : Nat} {I I1 I2 : mI} {R R1 : mR} {S S1 : mSh} {A A1 : aS}
theorem kt299 {x1 x2 x3 x4 x5 : Int} : KoC A (o299 A x1 x2 x3 x4 x5).2 ∧ (o299 A x1 x2 x3 x4 x5).2 91 67 ≤ A 91 67 + 20 := by
  unfold o299
  by_cases c1 : 800 < A 91 67 + 20
  · rw [if_pos c1]
    exact ⟨Ko.refl _ _ _, by show A 91 67 ≤ _; omega⟩
  · rw [if_neg c1]
    refine ⟨Ko.fo (Ko.fo (Ko.fo (Ko.fo (Ko.fo (Ko.refl _ _ _) (fun _ => rfl) rfl 4) (fun _ => rfl) rfl 4) (fun _ => rfl) rfl 4) (fun _ => rfl) rfl 4) (fun _ => rfl) rfl 4, ?_⟩
    show (foS (foS (foS (foS (foS A x1 4) x2 4) x3 4) x4 4) x5 4) 91 67 ≤ _
    rw [fo67, fo67, fo67, fo67, fo67]
    omega
theorem oI_rt (v : Int) : oI v = oI (oI v).toInt := (Int32.ofInt_toInt _).symm
theorem CX.fmx (h : CX R S I A n) (hf : FM I I1) : CX R S I1 A n := by
  have hp : ∀ a, 91 ≤ a ∧ a ≤ 154 → pkA.contains a = false ∧ ∀ q ∈ pkT, ¬ q.1 = a := by
    have h1 : ∀ q ∈ pkA, q < 91 := by decide
    have h2 : ∀ q ∈ pkT, q.1 < 91 := by decide
    intro a ha
    refine ⟨Bool.eq_false_iff.mpr (fun c => ?_), fun q hq => by have := h2 q hq; omega⟩
    have := h1 a (List.contains_iff_mem.mp c)
    omega
  refine h.mm (h.1.fm hf hp) (fun a k ha => hf a k (Or.inl (by have := mmL_in ha; omega))) ?_
  unfold ld; rw [hf 8 9 (Or.inl (by decide))]
theorem FK.l0 (h : FK I I1) (j : Nat) : ld I1 0 j = ld I 0 j := by unfold ld; rw [h 0 j (Or.inr (by decide))]
/-- behind k steps -/
def Inv (k : Nat) (I : mI) (R : mR) (S : mSh) (A : aS) : Prop := CX R S I A k ∧ WF A ∧ RM I A ∧ Tot A ∧ ∃ n, PnK R S n ∧ S.length + (A 91 67).toNat ≤ 20 * k + n + 80 * (A 91 65).toNat ∧ slS S + 8 * (A 91 67).toNat ≤ 160 * k + 2 * n + 80000 * (A 91 65).toNat
theorem Inv.nx (h : Inv k I R S A) (hX : CX R S I1 A1 (k + 1)) (hf : FM I1 I2) (hR : RM I2 A1) (hW : WF A1) (hk : KoC A A1) (h67 : A1 91 67 ≤ A 91 67 + 20) : Inv (k + 1) I2 R S A1 := by
  obtain ⟨-, w, -, t, n, p, b1, b2⟩ := h
  have e65 : A1 91 65 = A 91 65 := hk.s (k := 65) rfl
  exact ⟨hX.fmx hf, hW, hR, t.ko w hk, n, p, by rw [e65]; omega, by rw [e65]; omega⟩
theorem Inv.same (h : Inv k I R S A) (hX : CX R S I1 A (k + 1)) (hf : FM I1 I2) (hR : RM I2 A) : Inv (k + 1) I2 R S A := h.nx hX hf hR h.2.1 (Ko.refl _ _ _) (by omega)
theorem Inv.act (h : Inv k I R S A) (hX : CX R1 S1 I1 A1 (k + 1)) (hf : FM I1 I2) (hR : RM I2 A1) (hW : WF A1) (hT : Tot A1) (hb : Bud R S R1 S1 N c) (h65 : A1 91 65 = A 91 65 + (c : Int)) (h67 : A1 91 67 + N ≤ A 91 67) : Inv (k + 1) I2 R1 S1 A1 := by
  obtain ⟨-, w, -, -, n, p, b1, b2⟩ := h
  obtain ⟨n1, p1, d1, d2, d3⟩ := hb.2 n p
  have w67 : 0 ≤ A1 91 67 ∧ A1 91 67 ≤ 800 := hW.2.2.2.2.2.2.2.1
  have w65 := w.2.2.2.2.2.2.2.2.2.2.1.1
  exact ⟨hX.fmx hf, hW, hR, hT, n1, p1, by omega, by omega⟩
theorem Inv.room (h : Inv k I R S A) (hk : k ≤ 513) : S.length ≤ 20000 ∧ slS S ≤ 1000000 := by
  obtain ⟨-, w, -, -, n, ⟨b, p1, p2⟩, b1, b2⟩ := h
  have := p2.2
  have w65 := w.2.2.2.2.2.2.2.2.2.2.1.1
  omega
end
