/-! a statement that no act holds yet: the codes do not read it -/
def CdLo (A A' : aS) : Prop := A' 91 65 = A 91 65 ∧ ∀ a, a < (A 91 65).toNat → A' 137 a = A 137 a ∧ A' 138 a = A 138 a ∧ ∀ j, j < (A 137 a).toNat → A' 139 (40 * a + j) = A 139 (40 * a + j) ∧ A' 140 (40 * a + j) = A 140 (40 * a + j)
theorem cdA_lo {A A' : aS} {n v : Int} {a J : Nat} (h : ∀ j, j < J → A' 139 (40 * a + j) = A 139 (40 * a + j) ∧ A' 140 (40 * a + j) = A 140 (40 * a + j)) : ∀ j, j ≤ J → cdA A' n a v j = cdA A n a v j
  | 0, _ => rfl
  | j + 1, hj => by rw [cdA_succ, cdA_succ, cdA_lo h j (by omega), (h j (by omega)).1, (h j (by omega)).2]
theorem cdF_lo {A A' : aS} (h : CdLo A A') {n f v : Int} : ∀ a, a ≤ (A 91 65).toNat → cdF A' n f v a = cdF A n f v a
  | 0, _ => rfl
  | a + 1, ha => by
    have g := h.2 a (by omega)
    rw [cdF_succ, cdF_succ, cdF_lo h a (by omega), g.1, g.2.1, cdA_lo g.2.2 _ (Nat.le_refl _)]
theorem cdY_lo {A A' : aS} (h : CdLo A A') {n : Int} : ∀ f, cdY A' n f = cdY A n f
  | 0 => rfl
  | f + 1 => by rw [cdY_succ, cdY_succ, cdY_lo h f, h.1, cdF_lo h _ (Nat.le_refl _)]
theorem cdS_lo {A A' : aS} (h : CdLo A A') {y n : Int} : cdS A' y n = cdS A y n := cdY_lo h _
theorem CdLo.set {A : aS} {a k : Nat} {v : Int} (hC : WfC A) (h : ((a = 137 ∨ a = 138) ∧ (A 91 65).toNat ≤ k) ∨ ((a = 139 ∨ a = 140) ∧ 40 * (A 91 65).toNat ≤ k)) : CdLo A (u2 A a k v) := by
  refine ⟨v2_ne (by omega), fun b hb => ⟨if_neg ?_, if_neg ?_, fun j hj => ⟨if_neg ?_, if_neg ?_⟩⟩⟩
  · rintro ⟨q1, q2⟩; omega
  · rintro ⟨q1, q2⟩; omega
  · rintro ⟨q1, q2⟩; have := (hC.2 b hb).1; omega
  · rintro ⟨q1, q2⟩; have := (hC.2 b hb).1; omega
theorem RM.setS {I : mI} {A : aS} (h : RM I A) (hC : WfC A) (a k : Nat) {v : Int} (hv : inR v) (hp : ((a = 137 ∨ a = 138) ∧ (A 91 65).toNat ≤ k) ∨ ((a = 139 ∨ a = 140) ∧ 40 * (A 91 65).toNat ≤ k)) : RM (u2 I a k (oI v)) (u2 A a k v) := by
  refine ⟨h.1.set a k hv, ?_⟩
  have hc := CdLo.set (v := v) hC hp
  have e1 : ld (u2 I a k (oI v)) 91 87 = ld I 91 87 := ld_o (by omega)
  have e2 : ∀ j, ld (u2 I a k (oI v)) 151 j = ld I 151 j := fun j => ld_o (by omega)
  have q := CodM.kept h.2 e1 e2
  unfold CodM at q ⊢
  rcases q with q | ⟨q, q3⟩
  · exact Or.inl q
  · exact Or.inr ⟨q, fun y n hy hn => (q3 y n hy hn).trans (cdS_lo hc).symm⟩
